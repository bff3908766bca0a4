-- ===== PART A: goes FIRST, ahead of the names: the tables' words, and 'selects' of the private methods out of them =====
/-- a private method of a class that the tables say can be made, by its rows of tables_1 -/
def lw_okq (q : MethodName × Nat) : Prop := (q.1.cls ≠ "java/lang/invoke/MethodHandle" ∧ q.1.cls ≠ "java/lang/invoke/VarHandle") ∧ Cond.instantiable q.1.cls q.2 ∈ tables_1 ∧ Cond.privateMethod q.1 ∈ tables_1 ∧ Cond.instanceMethod q.1 ∈ tables_1
theorem lw_p0 : lw_okq (⟨"java/lang/Throwable", "fillInStackTrace", "(I)Ljava/lang/Throwable;"⟩, 6) := ⟨⟨by decide +kernel, by decide +kernel⟩, List.mem_of_getElem? (i := 294) (by decide +kernel), List.mem_of_getElem? (i := 292) (by decide +kernel), List.mem_of_getElem? (i := 293) (by decide +kernel)⟩
theorem lw_p1 : lw_okq (⟨"PackedImage", "demandFreeName", "(IC)V"⟩, 6) := ⟨⟨by decide +kernel, by decide +kernel⟩, List.mem_of_getElem? (i := 20) (by decide +kernel), List.mem_of_getElem? (i := 319) (by decide +kernel), List.mem_of_getElem? (i := 320) (by decide +kernel)⟩
theorem lw_p2 : lw_okq (⟨"PackedImage", "demandDirectoryAndLetter", "(IC)V"⟩, 6) := ⟨⟨by decide +kernel, by decide +kernel⟩, List.mem_of_getElem? (i := 20) (by decide +kernel), List.mem_of_getElem? (i := 323) (by decide +kernel), List.mem_of_getElem? (i := 324) (by decide +kernel)⟩
theorem lw_p3 : lw_okq (⟨"PackedImage$Builder", "chooseLayout", "(LPackedImage$Tree;II)I"⟩, 8) := ⟨⟨by decide +kernel, by decide +kernel⟩, List.mem_of_getElem? (i := 57) (by decide +kernel), List.mem_of_getElem? (i := 415) (by decide +kernel), List.mem_of_getElem? (i := 416) (by decide +kernel)⟩
theorem lw_p4 : lw_okq (⟨"PackedImage$Packer", "packCluster", "()V"⟩, 9) := ⟨⟨by decide +kernel, by decide +kernel⟩, List.mem_of_getElem? (i := 66) (by decide +kernel), List.mem_of_getElem? (i := 440) (by decide +kernel), List.mem_of_getElem? (i := 441) (by decide +kernel)⟩
theorem lw_p5 : lw_okq (⟨"PackedImage$Packer", "putNext", "()Z"⟩, 9) := ⟨⟨by decide +kernel, by decide +kernel⟩, List.mem_of_getElem? (i := 66) (by decide +kernel), List.mem_of_getElem? (i := 444) (by decide +kernel), List.mem_of_getElem? (i := 445) (by decide +kernel)⟩
theorem lw_p6 : lw_okq (⟨"PackedImage$Packer", "matchAt", "(I)I"⟩, 9) := ⟨⟨by decide +kernel, by decide +kernel⟩, List.mem_of_getElem? (i := 66) (by decide +kernel), List.mem_of_getElem? (i := 448) (by decide +kernel), List.mem_of_getElem? (i := 449) (by decide +kernel)⟩
theorem lw_p7 : lw_okq (⟨"PackedImage$Packer", "putToken", "(II)V"⟩, 9) := ⟨⟨by decide +kernel, by decide +kernel⟩, List.mem_of_getElem? (i := 66) (by decide +kernel), List.mem_of_getElem? (i := 455) (by decide +kernel), List.mem_of_getElem? (i := 456) (by decide +kernel)⟩
theorem lw_p8 : lw_okq (⟨"PackedImage$Packer", "putByte", "(I)V"⟩, 9) := ⟨⟨by decide +kernel, by decide +kernel⟩, List.mem_of_getElem? (i := 66) (by decide +kernel), List.mem_of_getElem? (i := 459) (by decide +kernel), List.mem_of_getElem? (i := 460) (by decide +kernel)⟩
theorem lw_p9 : lw_okq (⟨"PackedImage$Builder", "isLong", "(LPackedImage$Tree;I)Z"⟩, 8) := ⟨⟨by decide +kernel, by decide +kernel⟩, List.mem_of_getElem? (i := 57) (by decide +kernel), List.mem_of_getElem? (i := 463) (by decide +kernel), List.mem_of_getElem? (i := 464) (by decide +kernel)⟩
theorem lw_p10 : lw_okq (⟨"PackedImage$Builder", "putInode", "(LPackedImage$Tree;II)Z"⟩, 8) := ⟨⟨by decide +kernel, by decide +kernel⟩, List.mem_of_getElem? (i := 57) (by decide +kernel), List.mem_of_getElem? (i := 476) (by decide +kernel), List.mem_of_getElem? (i := 477) (by decide +kernel)⟩
theorem lw_p11 : lw_okq (⟨"PackedImage$Builder", "putEnds", "(I)V"⟩, 8) := ⟨⟨by decide +kernel, by decide +kernel⟩, List.mem_of_getElem? (i := 57) (by decide +kernel), List.mem_of_getElem? (i := 480) (by decide +kernel), List.mem_of_getElem? (i := 481) (by decide +kernel)⟩
theorem lw_p12 : lw_okq (⟨"PackedImage$Builder", "settle", "([III)I"⟩, 8) := ⟨⟨by decide +kernel, by decide +kernel⟩, List.mem_of_getElem? (i := 57) (by decide +kernel), List.mem_of_getElem? (i := 485) (by decide +kernel), List.mem_of_getElem? (i := 486) (by decide +kernel)⟩
theorem lw_p13 : lw_okq (⟨"PackedImage$Builder", "isThere", "([III)Z"⟩, 8) := ⟨⟨by decide +kernel, by decide +kernel⟩, List.mem_of_getElem? (i := 57) (by decide +kernel), List.mem_of_getElem? (i := 489) (by decide +kernel), List.mem_of_getElem? (i := 490) (by decide +kernel)⟩
theorem lw_p14 : lw_okq (⟨"PackedImage$Builder", "fillData", "(LPackedImage$Tree;I)V"⟩, 8) := ⟨⟨by decide +kernel, by decide +kernel⟩, List.mem_of_getElem? (i := 57) (by decide +kernel), List.mem_of_getElem? (i := 493) (by decide +kernel), List.mem_of_getElem? (i := 494) (by decide +kernel)⟩
theorem lw_p15 : lw_okq (⟨"PackedImage$Builder", "fillEntries", "(LPackedImage$Tree;I)V"⟩, 8) := ⟨⟨by decide +kernel, by decide +kernel⟩, List.mem_of_getElem? (i := 57) (by decide +kernel), List.mem_of_getElem? (i := 497) (by decide +kernel), List.mem_of_getElem? (i := 498) (by decide +kernel)⟩
def lw_privs_1 : List (MethodName × Nat) := [(⟨"java/lang/Throwable", "fillInStackTrace", "(I)Ljava/lang/Throwable;"⟩, 6), (⟨"PackedImage", "demandFreeName", "(IC)V"⟩, 6), (⟨"PackedImage", "demandDirectoryAndLetter", "(IC)V"⟩, 6), (⟨"PackedImage$Builder", "chooseLayout", "(LPackedImage$Tree;II)I"⟩, 8), (⟨"PackedImage$Packer", "packCluster", "()V"⟩, 9), (⟨"PackedImage$Packer", "putNext", "()Z"⟩, 9), (⟨"PackedImage$Packer", "matchAt", "(I)I"⟩, 9), (⟨"PackedImage$Packer", "putToken", "(II)V"⟩, 9), (⟨"PackedImage$Packer", "putByte", "(I)V"⟩, 9), (⟨"PackedImage$Builder", "isLong", "(LPackedImage$Tree;I)Z"⟩, 8), (⟨"PackedImage$Builder", "putInode", "(LPackedImage$Tree;II)Z"⟩, 8), (⟨"PackedImage$Builder", "putEnds", "(I)V"⟩, 8), (⟨"PackedImage$Builder", "settle", "([III)I"⟩, 8), (⟨"PackedImage$Builder", "isThere", "([III)Z"⟩, 8), (⟨"PackedImage$Builder", "fillData", "(LPackedImage$Tree;I)V"⟩, 8), (⟨"PackedImage$Builder", "fillEntries", "(LPackedImage$Tree;I)V"⟩, 8)]
theorem lw_r1 : ∀ q ∈ lw_privs_1, lw_okq q := List.forall_mem_cons.mpr ⟨lw_p0, List.forall_mem_cons.mpr ⟨lw_p1, List.forall_mem_cons.mpr ⟨lw_p2, List.forall_mem_cons.mpr ⟨lw_p3, List.forall_mem_cons.mpr ⟨lw_p4, List.forall_mem_cons.mpr ⟨lw_p5, List.forall_mem_cons.mpr ⟨lw_p6, List.forall_mem_cons.mpr ⟨lw_p7, List.forall_mem_cons.mpr ⟨lw_p8, List.forall_mem_cons.mpr ⟨lw_p9, List.forall_mem_cons.mpr ⟨lw_p10, List.forall_mem_cons.mpr ⟨lw_p11, List.forall_mem_cons.mpr ⟨lw_p12, List.forall_mem_cons.mpr ⟨lw_p13, List.forall_mem_cons.mpr ⟨lw_p14, List.forall_mem_cons.mpr ⟨lw_p15, fun _ h => absurd h List.not_mem_nil⟩⟩⟩⟩⟩⟩⟩⟩⟩⟩⟩⟩⟩⟩⟩⟩
theorem lw_p16 : lw_okq (⟨"PackedImage$Builder", "putTail", "(II)V"⟩, 8) := ⟨⟨by decide +kernel, by decide +kernel⟩, List.mem_of_getElem? (i := 57) (by decide +kernel), List.mem_of_getElem? (i := 503) (by decide +kernel), List.mem_of_getElem? (i := 504) (by decide +kernel)⟩
theorem lw_p17 : lw_okq (⟨"PackedImage$Builder", "putHeader", "(I)V"⟩, 8) := ⟨⟨by decide +kernel, by decide +kernel⟩, List.mem_of_getElem? (i := 57) (by decide +kernel), List.mem_of_getElem? (i := 507) (by decide +kernel), List.mem_of_getElem? (i := 508) (by decide +kernel)⟩
theorem lw_p18 : lw_okq (⟨"PackedImage", "demandPlace", "(I)V"⟩, 6) := ⟨⟨by decide +kernel, by decide +kernel⟩, List.mem_of_getElem? (i := 20) (by decide +kernel), List.mem_of_getElem? (i := 540) (by decide +kernel), List.mem_of_getElem? (i := 541) (by decide +kernel)⟩
theorem lw_p19 : lw_okq (⟨"PackedImage$Device", "isHeaderRight", "()Z"⟩, 6) := ⟨⟨by decide +kernel, by decide +kernel⟩, List.mem_of_getElem? (i := 130) (by decide +kernel), List.mem_of_getElem? (i := 589) (by decide +kernel), List.mem_of_getElem? (i := 590) (by decide +kernel)⟩
theorem lw_p20 : lw_okq (⟨"PackedImage$Device", "markInodes", "()V"⟩, 6) := ⟨⟨by decide +kernel, by decide +kernel⟩, List.mem_of_getElem? (i := 130) (by decide +kernel), List.mem_of_getElem? (i := 595) (by decide +kernel), List.mem_of_getElem? (i := 596) (by decide +kernel)⟩
theorem lw_p21 : lw_okq (⟨"PackedImage$Device", "isLong", "(I)Z"⟩, 6) := ⟨⟨by decide +kernel, by decide +kernel⟩, List.mem_of_getElem? (i := 130) (by decide +kernel), List.mem_of_getElem? (i := 599) (by decide +kernel), List.mem_of_getElem? (i := 600) (by decide +kernel)⟩
theorem lw_p22 : lw_okq (⟨"PackedImage$Device", "slotByte", "(II)I"⟩, 6) := ⟨⟨by decide +kernel, by decide +kernel⟩, List.mem_of_getElem? (i := 130) (by decide +kernel), List.mem_of_getElem? (i := 603) (by decide +kernel), List.mem_of_getElem? (i := 604) (by decide +kernel)⟩
theorem lw_p23 : lw_okq (⟨"PackedImage", "demandInode", "(I)V"⟩, 6) := ⟨⟨by decide +kernel, by decide +kernel⟩, List.mem_of_getElem? (i := 20) (by decide +kernel), List.mem_of_getElem? (i := 614) (by decide +kernel), List.mem_of_getElem? (i := 615) (by decide +kernel)⟩
theorem lw_p24 : lw_okq (⟨"PackedImage", "demandMounted", "()V"⟩, 6) := ⟨⟨by decide +kernel, by decide +kernel⟩, List.mem_of_getElem? (i := 20) (by decide +kernel), List.mem_of_getElem? (i := 618) (by decide +kernel), List.mem_of_getElem? (i := 619) (by decide +kernel)⟩
theorem lw_p25 : lw_okq (⟨"PackedImage$Device", "hasItsBlocks", "(I)Z"⟩, 6) := ⟨⟨by decide +kernel, by decide +kernel⟩, List.mem_of_getElem? (i := 130) (by decide +kernel), List.mem_of_getElem? (i := 653) (by decide +kernel), List.mem_of_getElem? (i := 654) (by decide +kernel)⟩
theorem lw_p26 : lw_okq (⟨"PackedImage$Device", "hasRightEnds", "(I)Z"⟩, 6) := ⟨⟨by decide +kernel, by decide +kernel⟩, List.mem_of_getElem? (i := 130) (by decide +kernel), List.mem_of_getElem? (i := 663) (by decide +kernel), List.mem_of_getElem? (i := 664) (by decide +kernel)⟩
theorem lw_p27 : lw_okq (⟨"PackedImage$Device", "clusterEnd", "(II)I"⟩, 6) := ⟨⟨by decide +kernel, by decide +kernel⟩, List.mem_of_getElem? (i := 130) (by decide +kernel), List.mem_of_getElem? (i := 667) (by decide +kernel), List.mem_of_getElem? (i := 668) (by decide +kernel)⟩
theorem lw_p28 : lw_okq (⟨"PackedImage", "demandGood", "(I)V"⟩, 6) := ⟨⟨by decide +kernel, by decide +kernel⟩, List.mem_of_getElem? (i := 20) (by decide +kernel), List.mem_of_getElem? (i := 682) (by decide +kernel), List.mem_of_getElem? (i := 683) (by decide +kernel)⟩
theorem lw_p29 : lw_okq (⟨"PackedImage", "packedByte", "(II)I"⟩, 6) := ⟨⟨by decide +kernel, by decide +kernel⟩, List.mem_of_getElem? (i := 20) (by decide +kernel), List.mem_of_getElem? (i := 691) (by decide +kernel), List.mem_of_getElem? (i := 692) (by decide +kernel)⟩
theorem lw_p30 : lw_okq (⟨"PackedImage$Cluster", "takeToken", "([III)Z"⟩, 5) := ⟨⟨by decide +kernel, by decide +kernel⟩, List.mem_of_getElem? (i := 164) (by decide +kernel), List.mem_of_getElem? (i := 711) (by decide +kernel), List.mem_of_getElem? (i := 712) (by decide +kernel)⟩
theorem lw_p31 : lw_okq (⟨"PackedImage$Cluster", "takeLiterals", "([III)Z"⟩, 5) := ⟨⟨by decide +kernel, by decide +kernel⟩, List.mem_of_getElem? (i := 164) (by decide +kernel), List.mem_of_getElem? (i := 716) (by decide +kernel), List.mem_of_getElem? (i := 717) (by decide +kernel)⟩
def lw_privs_2 : List (MethodName × Nat) := [(⟨"PackedImage$Builder", "putTail", "(II)V"⟩, 8), (⟨"PackedImage$Builder", "putHeader", "(I)V"⟩, 8), (⟨"PackedImage", "demandPlace", "(I)V"⟩, 6), (⟨"PackedImage$Device", "isHeaderRight", "()Z"⟩, 6), (⟨"PackedImage$Device", "markInodes", "()V"⟩, 6), (⟨"PackedImage$Device", "isLong", "(I)Z"⟩, 6), (⟨"PackedImage$Device", "slotByte", "(II)I"⟩, 6), (⟨"PackedImage", "demandInode", "(I)V"⟩, 6), (⟨"PackedImage", "demandMounted", "()V"⟩, 6), (⟨"PackedImage$Device", "hasItsBlocks", "(I)Z"⟩, 6), (⟨"PackedImage$Device", "hasRightEnds", "(I)Z"⟩, 6), (⟨"PackedImage$Device", "clusterEnd", "(II)I"⟩, 6), (⟨"PackedImage", "demandGood", "(I)V"⟩, 6), (⟨"PackedImage", "packedByte", "(II)I"⟩, 6), (⟨"PackedImage$Cluster", "takeToken", "([III)Z"⟩, 5), (⟨"PackedImage$Cluster", "takeLiterals", "([III)Z"⟩, 5)]
theorem lw_r2 : ∀ q ∈ lw_privs_2, lw_okq q := List.forall_mem_cons.mpr ⟨lw_p16, List.forall_mem_cons.mpr ⟨lw_p17, List.forall_mem_cons.mpr ⟨lw_p18, List.forall_mem_cons.mpr ⟨lw_p19, List.forall_mem_cons.mpr ⟨lw_p20, List.forall_mem_cons.mpr ⟨lw_p21, List.forall_mem_cons.mpr ⟨lw_p22, List.forall_mem_cons.mpr ⟨lw_p23, List.forall_mem_cons.mpr ⟨lw_p24, List.forall_mem_cons.mpr ⟨lw_p25, List.forall_mem_cons.mpr ⟨lw_p26, List.forall_mem_cons.mpr ⟨lw_p27, List.forall_mem_cons.mpr ⟨lw_p28, List.forall_mem_cons.mpr ⟨lw_p29, List.forall_mem_cons.mpr ⟨lw_p30, List.forall_mem_cons.mpr ⟨lw_p31, fun _ h => absurd h List.not_mem_nil⟩⟩⟩⟩⟩⟩⟩⟩⟩⟩⟩⟩⟩⟩⟩⟩
theorem lw_p32 : lw_okq (⟨"PackedImage$Cluster", "takeMatch", "([III)Z"⟩, 5) := ⟨⟨by decide +kernel, by decide +kernel⟩, List.mem_of_getElem? (i := 164) (by decide +kernel), List.mem_of_getElem? (i := 720) (by decide +kernel), List.mem_of_getElem? (i := 721) (by decide +kernel)⟩
theorem lw_p33 : lw_okq (⟨"PackedImage", "layAhead", "(I)V"⟩, 6) := ⟨⟨by decide +kernel, by decide +kernel⟩, List.mem_of_getElem? (i := 20) (by decide +kernel), List.mem_of_getElem? (i := 752) (by decide +kernel), List.mem_of_getElem? (i := 753) (by decide +kernel)⟩
theorem lw_p34 : lw_okq (⟨"PackedImage", "layLetterAhead", "(I)V"⟩, 6) := ⟨⟨by decide +kernel, by decide +kernel⟩, List.mem_of_getElem? (i := 20) (by decide +kernel), List.mem_of_getElem? (i := 759) (by decide +kernel), List.mem_of_getElem? (i := 760) (by decide +kernel)⟩
theorem lw_p35 : lw_okq (⟨"PackedImage", "nextLetter", "()I"⟩, 6) := ⟨⟨by decide +kernel, by decide +kernel⟩, List.mem_of_getElem? (i := 20) (by decide +kernel), List.mem_of_getElem? (i := 763) (by decide +kernel), List.mem_of_getElem? (i := 764) (by decide +kernel)⟩
theorem lw_p36 : lw_okq (⟨"PackedImage", "layLinkAhead", "(I)V"⟩, 6) := ⟨⟨by decide +kernel, by decide +kernel⟩, List.mem_of_getElem? (i := 20) (by decide +kernel), List.mem_of_getElem? (i := 767) (by decide +kernel), List.mem_of_getElem? (i := 768) (by decide +kernel)⟩
theorem lw_p37 : lw_okq (⟨"PackedImage", "isWrong", "(I)Z"⟩, 6) := ⟨⟨by decide +kernel, by decide +kernel⟩, List.mem_of_getElem? (i := 20) (by decide +kernel), List.mem_of_getElem? (i := 778) (by decide +kernel), List.mem_of_getElem? (i := 779) (by decide +kernel)⟩
theorem lw_p38 : lw_okq (⟨"PackedImage", "hasBadCluster", "(I)Z"⟩, 6) := ⟨⟨by decide +kernel, by decide +kernel⟩, List.mem_of_getElem? (i := 20) (by decide +kernel), List.mem_of_getElem? (i := 782) (by decide +kernel), List.mem_of_getElem? (i := 783) (by decide +kernel)⟩
theorem lw_p39 : lw_okq (⟨"PackedImageModel", "isFree", "(II)Z"⟩, 28) := ⟨⟨by decide +kernel, by decide +kernel⟩, List.mem_of_getElem? (i := 792) (by decide +kernel), List.mem_of_getElem? (i := 891) (by decide +kernel), List.mem_of_getElem? (i := 892) (by decide +kernel)⟩
theorem lw_p40 : lw_okq (⟨"PackedImageModel", "isNode", "(II)Z"⟩, 28) := ⟨⟨by decide +kernel, by decide +kernel⟩, List.mem_of_getElem? (i := 792) (by decide +kernel), List.mem_of_getElem? (i := 895) (by decide +kernel), List.mem_of_getElem? (i := 896) (by decide +kernel)⟩
theorem lw_p41 : lw_okq (⟨"PackedImageModel", "choose", "(II)V"⟩, 28) := ⟨⟨by decide +kernel, by decide +kernel⟩, List.mem_of_getElem? (i := 792) (by decide +kernel), List.mem_of_getElem? (i := 918) (by decide +kernel), List.mem_of_getElem? (i := 919) (by decide +kernel)⟩
theorem lw_p42 : lw_okq (⟨"PackedImageModel", "sizeOf", "(I)I"⟩, 28) := ⟨⟨by decide +kernel, by decide +kernel⟩, List.mem_of_getElem? (i := 792) (by decide +kernel), List.mem_of_getElem? (i := 922) (by decide +kernel), List.mem_of_getElem? (i := 923) (by decide +kernel)⟩
theorem lw_p43 : lw_okq (⟨"PackedImageModel", "pack", "(I)I"⟩, 28) := ⟨⟨by decide +kernel, by decide +kernel⟩, List.mem_of_getElem? (i := 792) (by decide +kernel), List.mem_of_getElem? (i := 926) (by decide +kernel), List.mem_of_getElem? (i := 927) (by decide +kernel)⟩
theorem lw_p44 : lw_okq (⟨"PackedImageModel", "packOne", "(III)I"⟩, 28) := ⟨⟨by decide +kernel, by decide +kernel⟩, List.mem_of_getElem? (i := 792) (by decide +kernel), List.mem_of_getElem? (i := 930) (by decide +kernel), List.mem_of_getElem? (i := 931) (by decide +kernel)⟩
theorem lw_p45 : lw_okq (⟨"PackedImageModel", "match", "(III)I"⟩, 28) := ⟨⟨by decide +kernel, by decide +kernel⟩, List.mem_of_getElem? (i := 792) (by decide +kernel), List.mem_of_getElem? (i := 934) (by decide +kernel), List.mem_of_getElem? (i := 935) (by decide +kernel)⟩
theorem lw_p46 : lw_okq (⟨"PackedImageModel", "token", "(IIIII)V"⟩, 28) := ⟨⟨by decide +kernel, by decide +kernel⟩, List.mem_of_getElem? (i := 792) (by decide +kernel), List.mem_of_getElem? (i := 938) (by decide +kernel), List.mem_of_getElem? (i := 939) (by decide +kernel)⟩
theorem lw_p47 : lw_okq (⟨"PackedImageModel", "write", "(IIIZ)I"⟩, 28) := ⟨⟨by decide +kernel, by decide +kernel⟩, List.mem_of_getElem? (i := 792) (by decide +kernel), List.mem_of_getElem? (i := 945) (by decide +kernel), List.mem_of_getElem? (i := 946) (by decide +kernel)⟩
def lw_privs_3 : List (MethodName × Nat) := [(⟨"PackedImage$Cluster", "takeMatch", "([III)Z"⟩, 5), (⟨"PackedImage", "layAhead", "(I)V"⟩, 6), (⟨"PackedImage", "layLetterAhead", "(I)V"⟩, 6), (⟨"PackedImage", "nextLetter", "()I"⟩, 6), (⟨"PackedImage", "layLinkAhead", "(I)V"⟩, 6), (⟨"PackedImage", "isWrong", "(I)Z"⟩, 6), (⟨"PackedImage", "hasBadCluster", "(I)Z"⟩, 6), (⟨"PackedImageModel", "isFree", "(II)Z"⟩, 28), (⟨"PackedImageModel", "isNode", "(II)Z"⟩, 28), (⟨"PackedImageModel", "choose", "(II)V"⟩, 28), (⟨"PackedImageModel", "sizeOf", "(I)I"⟩, 28), (⟨"PackedImageModel", "pack", "(I)I"⟩, 28), (⟨"PackedImageModel", "packOne", "(III)I"⟩, 28), (⟨"PackedImageModel", "match", "(III)I"⟩, 28), (⟨"PackedImageModel", "token", "(IIIII)V"⟩, 28), (⟨"PackedImageModel", "write", "(IIIZ)I"⟩, 28)]
theorem lw_r3 : ∀ q ∈ lw_privs_3, lw_okq q := List.forall_mem_cons.mpr ⟨lw_p32, List.forall_mem_cons.mpr ⟨lw_p33, List.forall_mem_cons.mpr ⟨lw_p34, List.forall_mem_cons.mpr ⟨lw_p35, List.forall_mem_cons.mpr ⟨lw_p36, List.forall_mem_cons.mpr ⟨lw_p37, List.forall_mem_cons.mpr ⟨lw_p38, List.forall_mem_cons.mpr ⟨lw_p39, List.forall_mem_cons.mpr ⟨lw_p40, List.forall_mem_cons.mpr ⟨lw_p41, List.forall_mem_cons.mpr ⟨lw_p42, List.forall_mem_cons.mpr ⟨lw_p43, List.forall_mem_cons.mpr ⟨lw_p44, List.forall_mem_cons.mpr ⟨lw_p45, List.forall_mem_cons.mpr ⟨lw_p46, List.forall_mem_cons.mpr ⟨lw_p47, fun _ h => absurd h List.not_mem_nil⟩⟩⟩⟩⟩⟩⟩⟩⟩⟩⟩⟩⟩⟩⟩⟩
theorem lw_p48 : lw_okq (⟨"PackedImageModel", "layData", "(I)V"⟩, 28) := ⟨⟨by decide +kernel, by decide +kernel⟩, List.mem_of_getElem? (i := 792) (by decide +kernel), List.mem_of_getElem? (i := 949) (by decide +kernel), List.mem_of_getElem? (i := 950) (by decide +kernel)⟩
theorem lw_p49 : lw_okq (⟨"PackedImageModel", "isThere", "(II)Z"⟩, 28) := ⟨⟨by decide +kernel, by decide +kernel⟩, List.mem_of_getElem? (i := 792) (by decide +kernel), List.mem_of_getElem? (i := 953) (by decide +kernel), List.mem_of_getElem? (i := 954) (by decide +kernel)⟩
theorem lw_p50 : lw_okq (⟨"PackedImageModel", "fail", "(I)I"⟩, 28) := ⟨⟨by decide +kernel, by decide +kernel⟩, List.mem_of_getElem? (i := 792) (by decide +kernel), List.mem_of_getElem? (i := 957) (by decide +kernel), List.mem_of_getElem? (i := 958) (by decide +kernel)⟩
theorem lw_p51 : lw_okq (⟨"PackedImageModel", "check", "(I)I"⟩, 28) := ⟨⟨by decide +kernel, by decide +kernel⟩, List.mem_of_getElem? (i := 792) (by decide +kernel), List.mem_of_getElem? (i := 965) (by decide +kernel), List.mem_of_getElem? (i := 966) (by decide +kernel)⟩
theorem lw_p52 : lw_okq (⟨"PackedImageModel", "isRight", "()Z"⟩, 28) := ⟨⟨by decide +kernel, by decide +kernel⟩, List.mem_of_getElem? (i := 792) (by decide +kernel), List.mem_of_getElem? (i := 983) (by decide +kernel), List.mem_of_getElem? (i := 984) (by decide +kernel)⟩
theorem lw_p53 : lw_okq (⟨"PackedImageModel", "isInode", "(I)Z"⟩, 28) := ⟨⟨by decide +kernel, by decide +kernel⟩, List.mem_of_getElem? (i := 792) (by decide +kernel), List.mem_of_getElem? (i := 991) (by decide +kernel), List.mem_of_getElem? (i := 992) (by decide +kernel)⟩
theorem lw_p54 : lw_okq (⟨"PackedImageModel", "tag", "(II)I"⟩, 28) := ⟨⟨by decide +kernel, by decide +kernel⟩, List.mem_of_getElem? (i := 792) (by decide +kernel), List.mem_of_getElem? (i := 995) (by decide +kernel), List.mem_of_getElem? (i := 996) (by decide +kernel)⟩
theorem lw_p55 : lw_okq (⟨"PackedImageModel", "size", "(I)I"⟩, 28) := ⟨⟨by decide +kernel, by decide +kernel⟩, List.mem_of_getElem? (i := 792) (by decide +kernel), List.mem_of_getElem? (i := 999) (by decide +kernel), List.mem_of_getElem? (i := 1000) (by decide +kernel)⟩
theorem lw_p56 : lw_okq (⟨"PackedImageModel", "first", "(I)I"⟩, 28) := ⟨⟨by decide +kernel, by decide +kernel⟩, List.mem_of_getElem? (i := 792) (by decide +kernel), List.mem_of_getElem? (i := 1003) (by decide +kernel), List.mem_of_getElem? (i := 1004) (by decide +kernel)⟩
theorem lw_p57 : lw_okq (⟨"PackedImageModel", "isBad", "(I)Z"⟩, 28) := ⟨⟨by decide +kernel, by decide +kernel⟩, List.mem_of_getElem? (i := 792) (by decide +kernel), List.mem_of_getElem? (i := 1007) (by decide +kernel), List.mem_of_getElem? (i := 1008) (by decide +kernel)⟩
theorem lw_p58 : lw_okq (⟨"PackedImageModel", "endsAreWrong", "(I)Z"⟩, 28) := ⟨⟨by decide +kernel, by decide +kernel⟩, List.mem_of_getElem? (i := 792) (by decide +kernel), List.mem_of_getElem? (i := 1011) (by decide +kernel), List.mem_of_getElem? (i := 1012) (by decide +kernel)⟩
theorem lw_p59 : lw_okq (⟨"PackedImageModel", "rest", "(II)I"⟩, 28) := ⟨⟨by decide +kernel, by decide +kernel⟩, List.mem_of_getElem? (i := 792) (by decide +kernel), List.mem_of_getElem? (i := 1015) (by decide +kernel), List.mem_of_getElem? (i := 1016) (by decide +kernel)⟩
theorem lw_p60 : lw_okq (⟨"PackedImageModel", "end", "(II)I"⟩, 28) := ⟨⟨by decide +kernel, by decide +kernel⟩, List.mem_of_getElem? (i := 792) (by decide +kernel), List.mem_of_getElem? (i := 1019) (by decide +kernel), List.mem_of_getElem? (i := 1020) (by decide +kernel)⟩
theorem lw_p61 : lw_okq (⟨"PackedImageModel", "readPacked", "(II)I"⟩, 28) := ⟨⟨by decide +kernel, by decide +kernel⟩, List.mem_of_getElem? (i := 792) (by decide +kernel), List.mem_of_getElem? (i := 1027) (by decide +kernel), List.mem_of_getElem? (i := 1028) (by decide +kernel)⟩
theorem lw_p62 : lw_okq (⟨"PackedImageModel", "unpack", "(II)Z"⟩, 28) := ⟨⟨by decide +kernel, by decide +kernel⟩, List.mem_of_getElem? (i := 792) (by decide +kernel), List.mem_of_getElem? (i := 1031) (by decide +kernel), List.mem_of_getElem? (i := 1032) (by decide +kernel)⟩
theorem lw_p63 : lw_okq (⟨"PackedImageModel", "keep", "(II)V"⟩, 28) := ⟨⟨by decide +kernel, by decide +kernel⟩, List.mem_of_getElem? (i := 792) (by decide +kernel), List.mem_of_getElem? (i := 1035) (by decide +kernel), List.mem_of_getElem? (i := 1036) (by decide +kernel)⟩
def lw_privs_4 : List (MethodName × Nat) := [(⟨"PackedImageModel", "layData", "(I)V"⟩, 28), (⟨"PackedImageModel", "isThere", "(II)Z"⟩, 28), (⟨"PackedImageModel", "fail", "(I)I"⟩, 28), (⟨"PackedImageModel", "check", "(I)I"⟩, 28), (⟨"PackedImageModel", "isRight", "()Z"⟩, 28), (⟨"PackedImageModel", "isInode", "(I)Z"⟩, 28), (⟨"PackedImageModel", "tag", "(II)I"⟩, 28), (⟨"PackedImageModel", "size", "(I)I"⟩, 28), (⟨"PackedImageModel", "first", "(I)I"⟩, 28), (⟨"PackedImageModel", "isBad", "(I)Z"⟩, 28), (⟨"PackedImageModel", "endsAreWrong", "(I)Z"⟩, 28), (⟨"PackedImageModel", "rest", "(II)I"⟩, 28), (⟨"PackedImageModel", "end", "(II)I"⟩, 28), (⟨"PackedImageModel", "readPacked", "(II)I"⟩, 28), (⟨"PackedImageModel", "unpack", "(II)Z"⟩, 28), (⟨"PackedImageModel", "keep", "(II)V"⟩, 28)]
theorem lw_r4 : ∀ q ∈ lw_privs_4, lw_okq q := List.forall_mem_cons.mpr ⟨lw_p48, List.forall_mem_cons.mpr ⟨lw_p49, List.forall_mem_cons.mpr ⟨lw_p50, List.forall_mem_cons.mpr ⟨lw_p51, List.forall_mem_cons.mpr ⟨lw_p52, List.forall_mem_cons.mpr ⟨lw_p53, List.forall_mem_cons.mpr ⟨lw_p54, List.forall_mem_cons.mpr ⟨lw_p55, List.forall_mem_cons.mpr ⟨lw_p56, List.forall_mem_cons.mpr ⟨lw_p57, List.forall_mem_cons.mpr ⟨lw_p58, List.forall_mem_cons.mpr ⟨lw_p59, List.forall_mem_cons.mpr ⟨lw_p60, List.forall_mem_cons.mpr ⟨lw_p61, List.forall_mem_cons.mpr ⟨lw_p62, List.forall_mem_cons.mpr ⟨lw_p63, fun _ h => absurd h List.not_mem_nil⟩⟩⟩⟩⟩⟩⟩⟩⟩⟩⟩⟩⟩⟩⟩⟩
theorem lw_p64 : lw_okq (⟨"PackedImageModel", "byteOf", "(II)I"⟩, 28) := ⟨⟨by decide +kernel, by decide +kernel⟩, List.mem_of_getElem? (i := 792) (by decide +kernel), List.mem_of_getElem? (i := 1039) (by decide +kernel), List.mem_of_getElem? (i := 1040) (by decide +kernel)⟩
theorem lw_p65 : lw_okq (⟨"PackedImageModel", "search", "(II)I"⟩, 28) := ⟨⟨by decide +kernel, by decide +kernel⟩, List.mem_of_getElem? (i := 792) (by decide +kernel), List.mem_of_getElem? (i := 1047) (by decide +kernel), List.mem_of_getElem? (i := 1048) (by decide +kernel)⟩
theorem lw_p66 : lw_okq (⟨"PackedImageModel", "isSound", "(I)Z"⟩, 28) := ⟨⟨by decide +kernel, by decide +kernel⟩, List.mem_of_getElem? (i := 792) (by decide +kernel), List.mem_of_getElem? (i := 1055) (by decide +kernel), List.mem_of_getElem? (i := 1056) (by decide +kernel)⟩
theorem lw_p67 : lw_okq (⟨"PackedImageModel", "push", "(I)V"⟩, 28) := ⟨⟨by decide +kernel, by decide +kernel⟩, List.mem_of_getElem? (i := 792) (by decide +kernel), List.mem_of_getElem? (i := 1059) (by decide +kernel), List.mem_of_getElem? (i := 1060) (by decide +kernel)⟩
theorem lw_p68 : lw_okq (⟨"PackedImageModel", "isWrong", "(I)Z"⟩, 28) := ⟨⟨by decide +kernel, by decide +kernel⟩, List.mem_of_getElem? (i := 792) (by decide +kernel), List.mem_of_getElem? (i := 1071) (by decide +kernel), List.mem_of_getElem? (i := 1072) (by decide +kernel)⟩
def lw_privs_5 : List (MethodName × Nat) := [(⟨"PackedImageModel", "byteOf", "(II)I"⟩, 28), (⟨"PackedImageModel", "search", "(II)I"⟩, 28), (⟨"PackedImageModel", "isSound", "(I)Z"⟩, 28), (⟨"PackedImageModel", "push", "(I)V"⟩, 28), (⟨"PackedImageModel", "isWrong", "(I)Z"⟩, 28)]
theorem lw_r5 : ∀ q ∈ lw_privs_5, lw_okq q := List.forall_mem_cons.mpr ⟨lw_p64, List.forall_mem_cons.mpr ⟨lw_p65, List.forall_mem_cons.mpr ⟨lw_p66, List.forall_mem_cons.mpr ⟨lw_p67, List.forall_mem_cons.mpr ⟨lw_p68, fun _ h => absurd h List.not_mem_nil⟩⟩⟩⟩⟩
def lw_privs : List (MethodName × Nat) := lw_privs_1 ++ (lw_privs_2 ++ (lw_privs_3 ++ (lw_privs_4 ++ (lw_privs_5))))
def lw_tbl : List Cond := k2_sels lw_privs ++ tables_1
theorem lw_privs_ok : ∀ q ∈ lw_privs, lw_okq q := by
  show ∀ q ∈ lw_privs_1 ++ (lw_privs_2 ++ (lw_privs_3 ++ (lw_privs_4 ++ (lw_privs_5)))), lw_okq q
  exact List.forall_mem_append.mpr ⟨lw_r1, List.forall_mem_append.mpr ⟨lw_r2, List.forall_mem_append.mpr ⟨lw_r3, List.forall_mem_append.mpr ⟨lw_r4, lw_r5⟩⟩⟩⟩

/-- words that stay true in warmer tables -/
def gw (w : Cond) : Bool := match w with
  | .arrayClass _ => true
  | .fieldLinkNest .. => true
  | .methodLinkNest .. => true
  | w => w.onTables && (w.keeps || w.faceAtom)
def WA : List Cond := lw_tbl.filter gw
theorem WA_good : ∀ w ∈ WA, gw w = true := fun w hw => (List.mem_filter.mp hw).2
theorem wa {w : Cond} (i : Nat) (h : tables_1[i]? = some w) (hg : gw w = true) : w ∈ WA := List.mem_filter.mpr ⟨List.mem_append_right _ (List.mem_of_getElem? h), hg⟩
theorem wp {w : Cond} (i : Nat) (h : (k2_sels lw_privs)[i]? = some w) (hg : gw w = true) : w ∈ WA := List.mem_filter.mpr ⟨List.mem_append_left _ (List.mem_of_getElem? h), hg⟩
def FX : u_T := fun k => match k with
  | 0 => ("PackedImage", "tree", "LPackedImage$Tree;", true)
  | 1 => ("PackedImage", "builder", "LPackedImage$Builder;", true)
  | 2 => ("PackedImage", "device", "LPackedImage$Device;", true)
  | 3 => ("PackedImage", "kept", "LPackedImage$Cache;", true)
  | 4 => ("PackedImage", "ahead", "[I", true)
  | _ => ("PackedImage", "lettersAhead", "I", false)
def GX : Nat → FieldType := fun k => match k with
  | 0 => .object "PackedImage$Tree"
  | 1 => .object "PackedImage$Builder"
  | 2 => .object "PackedImage$Device"
  | 3 => .object "PackedImage$Cache"
  | 4 => .array .int
  | _ => .int
theorem GnX : ∀ a, a < 6 → ∀ b, b < 6 → a ≠ b → (FX a).2.1 ≠ (FX b).2.1 := by decide +kernel
theorem GtX : ∀ k, k < 6 → parseFieldDescriptor (FX k).2.2.1 = some (GX k) := by decide +kernel
def FTr : u_T := fun k => match k with
  | 0 => ("PackedImage$Tree", "kinds", "[I", true)
  | 1 => ("PackedImage$Tree", "counts", "[I", true)
  | 2 => ("PackedImage$Tree", "sizes", "[I", true)
  | 3 => ("PackedImage$Tree", "contents", "[I", true)
  | 4 => ("PackedImage$Tree", "entries", "[I", true)
  | _ => ("PackedImage$Tree", "nodes", "I", false)
def GTr : Nat → FieldType := fun k => match k with
  | 0 => .array .int
  | 1 => .array .int
  | 2 => .array .int
  | 3 => .array .int
  | 4 => .array .int
  | _ => .int
theorem GnTr : ∀ a, a < 6 → ∀ b, b < 6 → a ≠ b → (FTr a).2.1 ≠ (FTr b).2.1 := by decide +kernel
theorem GtTr : ∀ k, k < 6 → parseFieldDescriptor (FTr k).2.2.1 = some (GTr k) := by decide +kernel
def FBu : u_T := fun k => match k with
  | 0 => ("PackedImage$Builder", "image", "[I", true)
  | 1 => ("PackedImage$Builder", "data", "[I", true)
  | 2 => ("PackedImage$Builder", "slotOf", "[I", true)
  | 3 => ("PackedImage$Builder", "layoutOf", "[I", true)
  | 4 => ("PackedImage$Builder", "packer", "LPackedImage$Packer;", true)
  | 5 => ("PackedImage$Builder", "slots", "I", false)
  | 6 => ("PackedImage$Builder", "firstData", "I", false)
  | _ => ("PackedImage$Builder", "used", "I", false)
def GBu : Nat → FieldType := fun k => match k with
  | 0 => .array .int
  | 1 => .array .int
  | 2 => .array .int
  | 3 => .array .int
  | 4 => .object "PackedImage$Packer"
  | 5 => .int
  | 6 => .int
  | _ => .int
theorem GnBu : ∀ a, a < 8 → ∀ b, b < 8 → a ≠ b → (FBu a).2.1 ≠ (FBu b).2.1 := by decide +kernel
theorem GtBu : ∀ k, k < 8 → parseFieldDescriptor (FBu k).2.2.1 = some (GBu k) := by decide +kernel
def FPa : u_T := fun k => match k with
  | 0 => ("PackedImage$Packer", "data", "[I", true)
  | 1 => ("PackedImage$Packer", "blocks", "[I", true)
  | 2 => ("PackedImage$Packer", "ends", "[I", true)
  | 3 => ("PackedImage$Packer", "size", "I", false)
  | 4 => ("PackedImage$Packer", "clusters", "I", false)
  | 5 => ("PackedImage$Packer", "clusterFrom", "I", false)
  | 6 => ("PackedImage$Packer", "next", "I", false)
  | 7 => ("PackedImage$Packer", "filled", "I", false)
  | _ => ("PackedImage$Packer", "distance", "I", false)
def GPa : Nat → FieldType := fun k => match k with
  | 0 => .array .int
  | 1 => .array .int
  | 2 => .array .int
  | 3 => .int
  | 4 => .int
  | 5 => .int
  | 6 => .int
  | 7 => .int
  | _ => .int
theorem GnPa : ∀ a, a < 9 → ∀ b, b < 9 → a ≠ b → (FPa a).2.1 ≠ (FPa b).2.1 := by decide +kernel
theorem GtPa : ∀ k, k < 9 → parseFieldDescriptor (FPa k).2.2.1 = some (GPa k) := by decide +kernel
def FDe : u_T := fun k => match k with
  | 0 => ("PackedImage$Device", "bytes", "[I", true)
  | 1 => ("PackedImage$Device", "begins", "[Z", true)
  | 2 => ("PackedImage$Device", "mounted", "Z", false)
  | 3 => ("PackedImage$Device", "slots", "I", false)
  | 4 => ("PackedImage$Device", "used", "I", false)
  | _ => ("PackedImage$Device", "inodes", "I", false)
def GDe : Nat → FieldType := fun k => match k with
  | 0 => .array .int
  | 1 => .array .boolean
  | 2 => .boolean
  | 3 => .int
  | 4 => .int
  | _ => .int
theorem GnDe : ∀ a, a < 6 → ∀ b, b < 6 → a ≠ b → (FDe a).2.1 ≠ (FDe b).2.1 := by decide +kernel
theorem GtDe : ∀ k, k < 6 → parseFieldDescriptor (FDe k).2.2.1 = some (GDe k) := by decide +kernel
def FCa : u_T := fun k => match k with
  | 0 => ("PackedImage$Cache", "newest", "LPackedImage$Cluster;", false)
  | 1 => ("PackedImage$Cache", "older", "LPackedImage$Cluster;", false)
  | 2 => ("PackedImage$Cache", "spare", "LPackedImage$Cluster;", false)
  | 3 => ("PackedImage$Cache", "hits", "I", false)
  | _ => ("PackedImage$Cache", "misses", "I", false)
def GCa : Nat → FieldType := fun k => match k with
  | 0 => .object "PackedImage$Cluster"
  | 1 => .object "PackedImage$Cluster"
  | 2 => .object "PackedImage$Cluster"
  | 3 => .int
  | _ => .int
theorem GnCa : ∀ a, a < 5 → ∀ b, b < 5 → a ≠ b → (FCa a).2.1 ≠ (FCa b).2.1 := by decide +kernel
theorem GtCa : ∀ k, k < 5 → parseFieldDescriptor (FCa k).2.2.1 = some (GCa k) := by decide +kernel
def FCl : u_T := fun k => match k with
  | 0 => ("PackedImage$Cluster", "data", "[I", true)
  | 1 => ("PackedImage$Cluster", "inode", "I", false)
  | 2 => ("PackedImage$Cluster", "number", "I", false)
  | 3 => ("PackedImage$Cluster", "have", "I", false)
  | _ => ("PackedImage$Cluster", "next", "I", false)
def GCl : Nat → FieldType := fun k => match k with
  | 0 => .array .int
  | 1 => .int
  | 2 => .int
  | 3 => .int
  | _ => .int
theorem GnCl : ∀ a, a < 5 → ∀ b, b < 5 → a ≠ b → (FCl a).2.1 ≠ (FCl b).2.1 := by decide +kernel
theorem GtCl : ∀ k, k < 5 → parseFieldDescriptor (FCl k).2.2.1 = some (GCl k) := by decide +kernel
def FR : u_T := fun k => match k with
  | 0 => ("PackedImageModel", "code", "I", false)
  | 1 => ("PackedImageModel", "nodes", "I", false)
  | 2 => ("PackedImageModel", "kind", "[I", true)
  | 3 => ("PackedImageModel", "entry", "[I", true)
  | 4 => ("PackedImageModel", "content", "[I", true)
  | 5 => ("PackedImageModel", "length", "[I", true)
  | 6 => ("PackedImageModel", "links", "[I", true)
  | 7 => ("PackedImageModel", "slotOf", "[I", true)
  | 8 => ("PackedImageModel", "layoutOf", "[I", true)
  | 9 => ("PackedImageModel", "longOf", "[Z", true)
  | 10 => ("PackedImageModel", "draft", "[I", true)
  | 11 => ("PackedImageModel", "row", "[I", true)
  | 12 => ("PackedImageModel", "packed", "[I", true)
  | 13 => ("PackedImageModel", "ends", "[I", true)
  | 14 => ("PackedImageModel", "used", "I", false)
  | 15 => ("PackedImageModel", "distance", "I", false)
  | 16 => ("PackedImageModel", "device", "[I", true)
  | 17 => ("PackedImageModel", "mounted", "Z", false)
  | 18 => ("PackedImageModel", "slots", "I", false)
  | 19 => ("PackedImageModel", "blocks", "I", false)
  | 20 => ("PackedImageModel", "begins", "[Z", true)
  | 21 => ("PackedImageModel", "plain", "[I", true)
  | 22 => ("PackedImageModel", "keptInode", "[I", true)
  | 23 => ("PackedImageModel", "keptNumber", "[I", true)
  | 24 => ("PackedImageModel", "hits", "I", false)
  | 25 => ("PackedImageModel", "misses", "I", false)
  | 26 => ("PackedImageModel", "way", "[I", true)
  | _ => ("PackedImageModel", "left", "I", false)
def GR : Nat → FieldType := fun k => match k with
  | 0 => .int
  | 1 => .int
  | 2 => .array .int
  | 3 => .array .int
  | 4 => .array .int
  | 5 => .array .int
  | 6 => .array .int
  | 7 => .array .int
  | 8 => .array .int
  | 9 => .array .boolean
  | 10 => .array .int
  | 11 => .array .int
  | 12 => .array .int
  | 13 => .array .int
  | 14 => .int
  | 15 => .int
  | 16 => .array .int
  | 17 => .boolean
  | 18 => .int
  | 19 => .int
  | 20 => .array .boolean
  | 21 => .array .int
  | 22 => .array .int
  | 23 => .array .int
  | 24 => .int
  | 25 => .int
  | 26 => .array .int
  | _ => .int
theorem GnR : ∀ a, a < 28 → ∀ b, b < 28 → a ≠ b → (FR a).2.1 ≠ (FR b).2.1 := by decide +kernel
theorem GtR : ∀ k, k < 28 → parseFieldDescriptor (FR k).2.2.1 = some (GR k) := by decide +kernel
abbrev vwCl : List vw_C := [("PackedImage", FX, 6), ("PackedImage$Tree", FTr, 6), ("PackedImage$Builder", FBu, 8), ("PackedImage$Packer", FPa, 9), ("PackedImage$Device", FDe, 6), ("PackedImage$Cache", FCa, 5), ("PackedImage$Cluster", FCl, 5), ("PackedImageModel", FR, 28)]
theorem GwX : ∀ w ∈ u_ws "PackedImage" FX 6, w ∈ WA := by
  intro w hw
  obtain ⟨k, hk, rfl⟩ := List.mem_map.mp hw
  have hk := List.mem_range.mp hk
  exact (show ∀ k, k < 6 → u_lay "PackedImage" FX k ∈ WA from fun k hk => match k, hk with
    | 0, _ => wa 212 (by decide +kernel) rfl
    | 1, _ => wa 214 (by decide +kernel) rfl
    | 2, _ => wa 216 (by decide +kernel) rfl
    | 3, _ => wa 218 (by decide +kernel) rfl
    | 4, _ => wa 220 (by decide +kernel) rfl
    | 5, _ => wa 222 (by decide +kernel) rfl
    | k + 6, h => absurd h (by omega)) k hk
theorem GwTr : ∀ w ∈ u_ws "PackedImage$Tree" FTr 6, w ∈ WA := by
  intro w hw
  obtain ⟨k, hk, rfl⟩ := List.mem_map.mp hw
  have hk := List.mem_range.mp hk
  exact (show ∀ k, k < 6 → u_lay "PackedImage$Tree" FTr k ∈ WA from fun k hk => match k, hk with
    | 0, _ => wa 42 (by decide +kernel) rfl
    | 1, _ => wa 44 (by decide +kernel) rfl
    | 2, _ => wa 46 (by decide +kernel) rfl
    | 3, _ => wa 48 (by decide +kernel) rfl
    | 4, _ => wa 50 (by decide +kernel) rfl
    | 5, _ => wa 52 (by decide +kernel) rfl
    | k + 6, h => absurd h (by omega)) k hk
theorem GwBu : ∀ w ∈ u_ws "PackedImage$Builder" FBu 8, w ∈ WA := by
  intro w hw
  obtain ⟨k, hk, rfl⟩ := List.mem_map.mp hw
  have hk := List.mem_range.mp hk
  exact (show ∀ k, k < 8 → u_lay "PackedImage$Builder" FBu k ∈ WA from fun k hk => match k, hk with
    | 0, _ => wa 112 (by decide +kernel) rfl
    | 1, _ => wa 114 (by decide +kernel) rfl
    | 2, _ => wa 116 (by decide +kernel) rfl
    | 3, _ => wa 118 (by decide +kernel) rfl
    | 4, _ => wa 120 (by decide +kernel) rfl
    | 5, _ => wa 122 (by decide +kernel) rfl
    | 6, _ => wa 124 (by decide +kernel) rfl
    | 7, _ => wa 126 (by decide +kernel) rfl
    | k + 8, h => absurd h (by omega)) k hk
theorem GwPa : ∀ w ∈ u_ws "PackedImage$Packer" FPa 9, w ∈ WA := by
  intro w hw
  obtain ⟨k, hk, rfl⟩ := List.mem_map.mp hw
  have hk := List.mem_range.mp hk
  exact (show ∀ k, k < 9 → u_lay "PackedImage$Packer" FPa k ∈ WA from fun k hk => match k, hk with
    | 0, _ => wa 83 (by decide +kernel) rfl
    | 1, _ => wa 85 (by decide +kernel) rfl
    | 2, _ => wa 87 (by decide +kernel) rfl
    | 3, _ => wa 89 (by decide +kernel) rfl
    | 4, _ => wa 91 (by decide +kernel) rfl
    | 5, _ => wa 93 (by decide +kernel) rfl
    | 6, _ => wa 95 (by decide +kernel) rfl
    | 7, _ => wa 97 (by decide +kernel) rfl
    | 8, _ => wa 99 (by decide +kernel) rfl
    | k + 9, h => absurd h (by omega)) k hk
theorem GwDe : ∀ w ∈ u_ws "PackedImage$Device" FDe 6, w ∈ WA := by
  intro w hw
  obtain ⟨k, hk, rfl⟩ := List.mem_map.mp hw
  have hk := List.mem_range.mp hk
  exact (show ∀ k, k < 6 → u_lay "PackedImage$Device" FDe k ∈ WA from fun k hk => match k, hk with
    | 0, _ => wa 143 (by decide +kernel) rfl
    | 1, _ => wa 145 (by decide +kernel) rfl
    | 2, _ => wa 147 (by decide +kernel) rfl
    | 3, _ => wa 149 (by decide +kernel) rfl
    | 4, _ => wa 151 (by decide +kernel) rfl
    | 5, _ => wa 153 (by decide +kernel) rfl
    | k + 6, h => absurd h (by omega)) k hk
theorem GwCa : ∀ w ∈ u_ws "PackedImage$Cache" FCa 5, w ∈ WA := by
  intro w hw
  obtain ⟨k, hk, rfl⟩ := List.mem_map.mp hw
  have hk := List.mem_range.mp hk
  exact (show ∀ k, k < 5 → u_lay "PackedImage$Cache" FCa k ∈ WA from fun k hk => match k, hk with
    | 0, _ => wa 195 (by decide +kernel) rfl
    | 1, _ => wa 197 (by decide +kernel) rfl
    | 2, _ => wa 199 (by decide +kernel) rfl
    | 3, _ => wa 201 (by decide +kernel) rfl
    | 4, _ => wa 203 (by decide +kernel) rfl
    | k + 5, h => absurd h (by omega)) k hk
theorem GwCl : ∀ w ∈ u_ws "PackedImage$Cluster" FCl 5, w ∈ WA := by
  intro w hw
  obtain ⟨k, hk, rfl⟩ := List.mem_map.mp hw
  have hk := List.mem_range.mp hk
  exact (show ∀ k, k < 5 → u_lay "PackedImage$Cluster" FCl k ∈ WA from fun k hk => match k, hk with
    | 0, _ => wa 175 (by decide +kernel) rfl
    | 1, _ => wa 177 (by decide +kernel) rfl
    | 2, _ => wa 179 (by decide +kernel) rfl
    | 3, _ => wa 181 (by decide +kernel) rfl
    | 4, _ => wa 183 (by decide +kernel) rfl
    | k + 5, h => absurd h (by omega)) k hk
theorem GwR : ∀ w ∈ u_ws "PackedImageModel" FR 28, w ∈ WA := by
  intro w hw
  obtain ⟨k, hk, rfl⟩ := List.mem_map.mp hw
  have hk := List.mem_range.mp hk
  exact (show ∀ k, k < 28 → u_lay "PackedImageModel" FR k ∈ WA from fun k hk => match k, hk with
    | 0, _ => wa 825 (by decide +kernel) rfl
    | 1, _ => wa 827 (by decide +kernel) rfl
    | 2, _ => wa 829 (by decide +kernel) rfl
    | 3, _ => wa 831 (by decide +kernel) rfl
    | 4, _ => wa 833 (by decide +kernel) rfl
    | 5, _ => wa 835 (by decide +kernel) rfl
    | 6, _ => wa 837 (by decide +kernel) rfl
    | 7, _ => wa 839 (by decide +kernel) rfl
    | 8, _ => wa 841 (by decide +kernel) rfl
    | 9, _ => wa 843 (by decide +kernel) rfl
    | 10, _ => wa 845 (by decide +kernel) rfl
    | 11, _ => wa 847 (by decide +kernel) rfl
    | 12, _ => wa 849 (by decide +kernel) rfl
    | 13, _ => wa 851 (by decide +kernel) rfl
    | 14, _ => wa 853 (by decide +kernel) rfl
    | 15, _ => wa 855 (by decide +kernel) rfl
    | 16, _ => wa 857 (by decide +kernel) rfl
    | 17, _ => wa 859 (by decide +kernel) rfl
    | 18, _ => wa 861 (by decide +kernel) rfl
    | 19, _ => wa 863 (by decide +kernel) rfl
    | 20, _ => wa 865 (by decide +kernel) rfl
    | 21, _ => wa 867 (by decide +kernel) rfl
    | 22, _ => wa 869 (by decide +kernel) rfl
    | 23, _ => wa 871 (by decide +kernel) rfl
    | 24, _ => wa 873 (by decide +kernel) rfl
    | 25, _ => wa 875 (by decide +kernel) rfl
    | 26, _ => wa 877 (by decide +kernel) rfl
    | 27, _ => wa 879 (by decide +kernel) rfl
    | k + 28, h => absurd h (by omega)) k hk
