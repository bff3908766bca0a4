theorem dX_isLetter_0 : decode cX_isLetter 0 = .ok (.iload_n 0, 1) := by decide +kernel
theorem dX_isLetter_1 : decode cX_isLetter 1 = .ok (.bipush 97, 2) := by decide +kernel
theorem dX_isLetter_3 : decode cX_isLetter 3 = .ok (.if_icmp .lt 13, 3) := by decide +kernel
theorem dX_isLetter_6 : decode cX_isLetter 6 = .ok (.iload_n 0, 1) := by decide +kernel
theorem dX_isLetter_7 : decode cX_isLetter 7 = .ok (.bipush 122, 2) := by decide +kernel
theorem dX_isLetter_9 : decode cX_isLetter 9 = .ok (.if_icmp .gt 7, 3) := by decide +kernel
theorem dX_isLetter_12 : decode cX_isLetter 12 = .ok (.iconst 1, 1) := by decide +kernel
theorem dX_isLetter_13 : decode cX_isLetter 13 = .ok (.goto 4, 3) := by decide +kernel
theorem dX_isLetter_16 : decode cX_isLetter 16 = .ok (.iconst 0, 1) := by decide +kernel
theorem dX_isLetter_17 : decode cX_isLetter 17 = .ok (.ireturn, 1) := by decide +kernel
theorem dX_blocksFor_0 : decode cX_blocksFor 0 = .ok (.iload_n 0, 1) := by decide +kernel
theorem dX_blocksFor_1 : decode cX_blocksFor 1 = .ok (.bipush 16, 2) := by decide +kernel
theorem dX_blocksFor_3 : decode cX_blocksFor 3 = .ok (.iadd, 1) := by decide +kernel
theorem dX_blocksFor_4 : decode cX_blocksFor 4 = .ok (.iconst 1, 1) := by decide +kernel
theorem dX_blocksFor_5 : decode cX_blocksFor 5 = .ok (.isub, 1) := by decide +kernel
theorem dX_blocksFor_6 : decode cX_blocksFor 6 = .ok (.bipush 16, 2) := by decide +kernel
theorem dX_blocksFor_8 : decode cX_blocksFor 8 = .ok (.idiv, 1) := by decide +kernel
theorem dX_blocksFor_9 : decode cX_blocksFor 9 = .ok (.ireturn, 1) := by decide +kernel
theorem dX_firstBlockBehind_0 : decode cX_firstBlockBehind 0 = .ok (.bipush 16, 2) := by decide +kernel
theorem dX_firstBlockBehind_2 : decode cX_firstBlockBehind 2 = .ok (.iload_n 0, 1) := by decide +kernel
theorem dX_firstBlockBehind_3 : decode cX_firstBlockBehind 3 = .ok (.bipush 8, 2) := by decide +kernel
theorem dX_firstBlockBehind_5 : decode cX_firstBlockBehind 5 = .ok (.imul, 1) := by decide +kernel
theorem dX_firstBlockBehind_6 : decode cX_firstBlockBehind 6 = .ok (.iadd, 1) := by decide +kernel
theorem dX_firstBlockBehind_7 : decode cX_firstBlockBehind 7 = .ok (.invokestatic 242, 3) := by decide +kernel
theorem dX_firstBlockBehind_10 : decode cX_firstBlockBehind 10 = .ok (.ireturn, 1) := by decide +kernel
theorem dX_headerCheck_0 : decode cX_headerCheck 0 = .ok (.ldc 245, 2) := by decide +kernel
theorem dX_headerCheck_2 : decode cX_headerCheck 2 = .ok (.istore_n 1, 1) := by decide +kernel
theorem dX_headerCheck_3 : decode cX_headerCheck 3 = .ok (.iconst 0, 1) := by decide +kernel
theorem dX_headerCheck_4 : decode cX_headerCheck 4 = .ok (.istore_n 2, 1) := by decide +kernel
theorem dX_headerCheck_5 : decode cX_headerCheck 5 = .ok (.iload_n 2, 1) := by decide +kernel
theorem dX_headerCheck_6 : decode cX_headerCheck 6 = .ok (.bipush 14, 2) := by decide +kernel
theorem dX_headerCheck_8 : decode cX_headerCheck 8 = .ok (.if_icmp .ge 53, 3) := by decide +kernel
theorem dX_headerCheck_11 : decode cX_headerCheck 11 = .ok (.iload_n 1, 1) := by decide +kernel
theorem dX_headerCheck_12 : decode cX_headerCheck 12 = .ok (.aload_n 0, 1) := by decide +kernel
theorem dX_headerCheck_13 : decode cX_headerCheck 13 = .ok (.iload_n 2, 1) := by decide +kernel
theorem dX_headerCheck_14 : decode cX_headerCheck 14 = .ok (.iaload, 1) := by decide +kernel
theorem dX_headerCheck_15 : decode cX_headerCheck 15 = .ok (.bipush 8, 2) := by decide +kernel
theorem dX_headerCheck_17 : decode cX_headerCheck 17 = .ok (.ishl, 1) := by decide +kernel
theorem dX_headerCheck_18 : decode cX_headerCheck 18 = .ok (.ixor, 1) := by decide +kernel
theorem dX_headerCheck_19 : decode cX_headerCheck 19 = .ok (.istore_n 1, 1) := by decide +kernel
theorem dX_headerCheck_20 : decode cX_headerCheck 20 = .ok (.iconst 0, 1) := by decide +kernel
theorem dX_headerCheck_21 : decode cX_headerCheck 21 = .ok (.istore_n 3, 1) := by decide +kernel
theorem dX_headerCheck_22 : decode cX_headerCheck 22 = .ok (.iload_n 3, 1) := by decide +kernel
theorem dX_headerCheck_23 : decode cX_headerCheck 23 = .ok (.bipush 8, 2) := by decide +kernel
theorem dX_headerCheck_25 : decode cX_headerCheck 25 = .ok (.if_icmp .ge 30, 3) := by decide +kernel
theorem dX_headerCheck_28 : decode cX_headerCheck 28 = .ok (.iload_n 1, 1) := by decide +kernel
theorem dX_headerCheck_29 : decode cX_headerCheck 29 = .ok (.iconst 1, 1) := by decide +kernel
theorem dX_headerCheck_30 : decode cX_headerCheck 30 = .ok (.ishl, 1) := by decide +kernel
theorem dX_headerCheck_31 : decode cX_headerCheck 31 = .ok (.iload_n 1, 1) := by decide +kernel
theorem dX_headerCheck_32 : decode cX_headerCheck 32 = .ok (.ldc 246, 2) := by decide +kernel
theorem dX_headerCheck_34 : decode cX_headerCheck 34 = .ok (.if_icmp .lt 9, 3) := by decide +kernel
theorem dX_headerCheck_37 : decode cX_headerCheck 37 = .ok (.sipush 4129, 3) := by decide +kernel
theorem dX_headerCheck_40 : decode cX_headerCheck 40 = .ok (.goto 4, 3) := by decide +kernel
theorem dX_headerCheck_43 : decode cX_headerCheck 43 = .ok (.iconst 0, 1) := by decide +kernel
theorem dX_headerCheck_44 : decode cX_headerCheck 44 = .ok (.ixor, 1) := by decide +kernel
theorem dX_headerCheck_45 : decode cX_headerCheck 45 = .ok (.ldc 245, 2) := by decide +kernel
theorem dX_headerCheck_47 : decode cX_headerCheck 47 = .ok (.iand, 1) := by decide +kernel
theorem dX_headerCheck_48 : decode cX_headerCheck 48 = .ok (.istore_n 1, 1) := by decide +kernel
theorem dX_headerCheck_49 : decode cX_headerCheck 49 = .ok (.iinc 3 1, 3) := by decide +kernel
theorem dX_headerCheck_52 : decode cX_headerCheck 52 = .ok (.goto (-30), 3) := by decide +kernel
theorem dX_headerCheck_55 : decode cX_headerCheck 55 = .ok (.iinc 2 1, 3) := by decide +kernel
theorem dX_headerCheck_58 : decode cX_headerCheck 58 = .ok (.goto (-53), 3) := by decide +kernel
theorem dX_headerCheck_61 : decode cX_headerCheck 61 = .ok (.iload_n 1, 1) := by decide +kernel
theorem dX_headerCheck_62 : decode cX_headerCheck 62 = .ok (.ireturn, 1) := by decide +kernel
theorem dX_putHeaderCheck_0 : decode cX_putHeaderCheck 0 = .ok (.aload_n 0, 1) := by decide +kernel
theorem dX_putHeaderCheck_1 : decode cX_putHeaderCheck 1 = .ok (.invokestatic 247, 3) := by decide +kernel
theorem dX_putHeaderCheck_4 : decode cX_putHeaderCheck 4 = .ok (.istore_n 1, 1) := by decide +kernel
theorem dX_putHeaderCheck_5 : decode cX_putHeaderCheck 5 = .ok (.aload_n 0, 1) := by decide +kernel
theorem dX_putHeaderCheck_6 : decode cX_putHeaderCheck 6 = .ok (.bipush 14, 2) := by decide +kernel
theorem dX_putHeaderCheck_8 : decode cX_putHeaderCheck 8 = .ok (.iload_n 1, 1) := by decide +kernel
theorem dX_putHeaderCheck_9 : decode cX_putHeaderCheck 9 = .ok (.bipush 8, 2) := by decide +kernel
theorem dX_putHeaderCheck_11 : decode cX_putHeaderCheck 11 = .ok (.ishr, 1) := by decide +kernel
theorem dX_putHeaderCheck_12 : decode cX_putHeaderCheck 12 = .ok (.iastore, 1) := by decide +kernel
theorem dX_putHeaderCheck_13 : decode cX_putHeaderCheck 13 = .ok (.aload_n 0, 1) := by decide +kernel
theorem dX_putHeaderCheck_14 : decode cX_putHeaderCheck 14 = .ok (.bipush 15, 2) := by decide +kernel
theorem dX_putHeaderCheck_16 : decode cX_putHeaderCheck 16 = .ok (.iload_n 1, 1) := by decide +kernel
theorem dX_putHeaderCheck_17 : decode cX_putHeaderCheck 17 = .ok (.sipush 255, 3) := by decide +kernel
theorem dX_putHeaderCheck_20 : decode cX_putHeaderCheck 20 = .ok (.iand, 1) := by decide +kernel
theorem dX_putHeaderCheck_21 : decode cX_putHeaderCheck 21 = .ok (.iastore, 1) := by decide +kernel
theorem dX_putHeaderCheck_22 : decode cX_putHeaderCheck 22 = .ok (.return_, 1) := by decide +kernel
theorem dR_thrown_0 : decode cR_thrown 0 = .ok (.aload_n 0, 1) := by decide +kernel
theorem dR_thrown_1 : decode cR_thrown 1 = .ok (.getfield 69, 3) := by decide +kernel
theorem dR_thrown_4 : decode cR_thrown 4 = .ok (.ireturn, 1) := by decide +kernel
theorem dR_fail_0 : decode cR_fail 0 = .ok (.aload_n 0, 1) := by decide +kernel
theorem dR_fail_1 : decode cR_fail 1 = .ok (.iload_n 1, 1) := by decide +kernel
theorem dR_fail_2 : decode cR_fail 2 = .ok (.putfield 69, 3) := by decide +kernel
theorem dR_fail_5 : decode cR_fail 5 = .ok (.iconst 0, 1) := by decide +kernel
theorem dR_fail_6 : decode cR_fail 6 = .ok (.ireturn, 1) := by decide +kernel
theorem dR_isNode_0 : decode cR_isNode 0 = .ok (.iload_n 1, 1) := by decide +kernel
theorem dR_isNode_1 : decode cR_isNode 1 = .ok (.ifCond .lt 25, 3) := by decide +kernel
theorem dR_isNode_4 : decode cR_isNode 4 = .ok (.iload_n 1, 1) := by decide +kernel
theorem dR_isNode_5 : decode cR_isNode 5 = .ok (.aload_n 0, 1) := by decide +kernel
theorem dR_isNode_6 : decode cR_isNode 6 = .ok (.getfield 7, 3) := by decide +kernel
theorem dR_isNode_9 : decode cR_isNode 9 = .ok (.if_icmp .ge 17, 3) := by decide +kernel
theorem dR_isNode_12 : decode cR_isNode 12 = .ok (.aload_n 0, 1) := by decide +kernel
theorem dR_isNode_13 : decode cR_isNode 13 = .ok (.getfield 13, 3) := by decide +kernel
theorem dR_isNode_16 : decode cR_isNode 16 = .ok (.iload_n 1, 1) := by decide +kernel
theorem dR_isNode_17 : decode cR_isNode 17 = .ok (.iaload, 1) := by decide +kernel
theorem dR_isNode_18 : decode cR_isNode 18 = .ok (.iload_n 2, 1) := by decide +kernel
theorem dR_isNode_19 : decode cR_isNode 19 = .ok (.if_icmp .ne 7, 3) := by decide +kernel
theorem dR_isNode_22 : decode cR_isNode 22 = .ok (.iconst 1, 1) := by decide +kernel
theorem dR_isNode_23 : decode cR_isNode 23 = .ok (.goto 4, 3) := by decide +kernel
theorem dR_isNode_26 : decode cR_isNode 26 = .ok (.iconst 0, 1) := by decide +kernel
theorem dR_isNode_27 : decode cR_isNode 27 = .ok (.ireturn, 1) := by decide +kernel
theorem dR_isLetter_0 : decode cR_isLetter 0 = .ok (.iload_n 0, 1) := by decide +kernel
theorem dR_isLetter_1 : decode cR_isLetter 1 = .ok (.bipush 97, 2) := by decide +kernel
theorem dR_isLetter_3 : decode cR_isLetter 3 = .ok (.if_icmp .lt 13, 3) := by decide +kernel
theorem dR_isLetter_6 : decode cR_isLetter 6 = .ok (.iload_n 0, 1) := by decide +kernel
theorem dR_isLetter_7 : decode cR_isLetter 7 = .ok (.bipush 122, 2) := by decide +kernel
theorem dR_isLetter_9 : decode cR_isLetter 9 = .ok (.if_icmp .gt 7, 3) := by decide +kernel
theorem dR_isLetter_12 : decode cR_isLetter 12 = .ok (.iconst 1, 1) := by decide +kernel
theorem dR_isLetter_13 : decode cR_isLetter 13 = .ok (.goto 4, 3) := by decide +kernel
theorem dR_isLetter_16 : decode cR_isLetter 16 = .ok (.iconst 0, 1) := by decide +kernel
theorem dR_isLetter_17 : decode cR_isLetter 17 = .ok (.ireturn, 1) := by decide +kernel
theorem dR_isFree_0 : decode cR_isFree 0 = .ok (.aload_n 0, 1) := by decide +kernel
theorem dR_isFree_1 : decode cR_isFree 1 = .ok (.iload_n 1, 1) := by decide +kernel
theorem dR_isFree_2 : decode cR_isFree 2 = .ok (.iconst 0, 1) := by decide +kernel
theorem dR_isFree_3 : decode cR_isFree 3 = .ok (.invokevirtual 72, 3) := by decide +kernel
theorem dR_isFree_6 : decode cR_isFree 6 = .ok (.ifCond .eq 32, 3) := by decide +kernel
theorem dR_isFree_9 : decode cR_isFree 9 = .ok (.iload_n 2, 1) := by decide +kernel
theorem dR_isFree_10 : decode cR_isFree 10 = .ok (.invokestatic 76, 3) := by decide +kernel
theorem dR_isFree_13 : decode cR_isFree 13 = .ok (.ifCond .eq 25, 3) := by decide +kernel
theorem dR_isFree_16 : decode cR_isFree 16 = .ok (.aload_n 0, 1) := by decide +kernel
theorem dR_isFree_17 : decode cR_isFree 17 = .ok (.getfield 17, 3) := by decide +kernel
theorem dR_isFree_20 : decode cR_isFree 20 = .ok (.bipush 26, 2) := by decide +kernel
theorem dR_isFree_22 : decode cR_isFree 22 = .ok (.iload_n 1, 1) := by decide +kernel
theorem dR_isFree_23 : decode cR_isFree 23 = .ok (.imul, 1) := by decide +kernel
theorem dR_isFree_24 : decode cR_isFree 24 = .ok (.iload_n 2, 1) := by decide +kernel
theorem dR_isFree_25 : decode cR_isFree 25 = .ok (.iadd, 1) := by decide +kernel
theorem dR_isFree_26 : decode cR_isFree 26 = .ok (.bipush 97, 2) := by decide +kernel
theorem dR_isFree_28 : decode cR_isFree 28 = .ok (.isub, 1) := by decide +kernel
theorem dR_isFree_29 : decode cR_isFree 29 = .ok (.iaload, 1) := by decide +kernel
theorem dR_isFree_30 : decode cR_isFree 30 = .ok (.iconst (-1), 1) := by decide +kernel
theorem dR_isFree_31 : decode cR_isFree 31 = .ok (.if_icmp .ne 7, 3) := by decide +kernel
theorem dR_isFree_34 : decode cR_isFree 34 = .ok (.iconst 1, 1) := by decide +kernel
theorem dR_isFree_35 : decode cR_isFree 35 = .ok (.goto 4, 3) := by decide +kernel
theorem dR_isFree_38 : decode cR_isFree 38 = .ok (.iconst 0, 1) := by decide +kernel
theorem dR_isFree_39 : decode cR_isFree 39 = .ok (.ireturn, 1) := by decide +kernel
theorem dR_create_0 : decode cR_create 0 = .ok (.aload_n 0, 1) := by decide +kernel
theorem dR_create_1 : decode cR_create 1 = .ok (.iload_n 1, 1) := by decide +kernel
theorem dR_create_2 : decode cR_create 2 = .ok (.ifCond .lt 17, 3) := by decide +kernel
theorem dR_create_5 : decode cR_create 5 = .ok (.iload_n 1, 1) := by decide +kernel
theorem dR_create_6 : decode cR_create 6 = .ok (.iconst 2, 1) := by decide +kernel
theorem dR_create_7 : decode cR_create 7 = .ok (.if_icmp .gt 12, 3) := by decide +kernel
theorem dR_create_10 : decode cR_create 10 = .ok (.aload_n 0, 1) := by decide +kernel
theorem dR_create_11 : decode cR_create 11 = .ok (.iload_n 2, 1) := by decide +kernel
theorem dR_create_12 : decode cR_create 12 = .ok (.iload_n 3, 1) := by decide +kernel
theorem dR_create_13 : decode cR_create 13 = .ok (.invokevirtual 80, 3) := by decide +kernel
theorem dR_create_16 : decode cR_create 16 = .ok (.ifCond .ne 7, 3) := by decide +kernel
theorem dR_create_19 : decode cR_create 19 = .ok (.iconst 1, 1) := by decide +kernel
theorem dR_create_20 : decode cR_create 20 = .ok (.goto 17, 3) := by decide +kernel
theorem dR_create_23 : decode cR_create 23 = .ok (.aload_n 0, 1) := by decide +kernel
theorem dR_create_24 : decode cR_create 24 = .ok (.getfield 7, 3) := by decide +kernel
theorem dR_create_27 : decode cR_create 27 = .ok (.bipush 16, 2) := by decide +kernel
theorem dR_create_29 : decode cR_create 29 = .ok (.if_icmp .ne 7, 3) := by decide +kernel
theorem dR_create_32 : decode cR_create 32 = .ok (.iconst 2, 1) := by decide +kernel
theorem dR_create_33 : decode cR_create 33 = .ok (.goto 4, 3) := by decide +kernel
theorem dR_create_36 : decode cR_create 36 = .ok (.iconst 0, 1) := by decide +kernel
theorem dR_create_37 : decode cR_create 37 = .ok (.putfield 69, 3) := by decide +kernel
theorem dR_create_40 : decode cR_create 40 = .ok (.aload_n 0, 1) := by decide +kernel
theorem dR_create_41 : decode cR_create 41 = .ok (.getfield 69, 3) := by decide +kernel
theorem dR_create_44 : decode cR_create 44 = .ok (.ifCond .le 5, 3) := by decide +kernel
theorem dR_create_47 : decode cR_create 47 = .ok (.iconst 0, 1) := by decide +kernel
theorem dR_create_48 : decode cR_create 48 = .ok (.ireturn, 1) := by decide +kernel
theorem dR_create_49 : decode cR_create 49 = .ok (.aload_n 0, 1) := by decide +kernel
theorem dR_create_50 : decode cR_create 50 = .ok (.getfield 13, 3) := by decide +kernel
theorem dR_create_53 : decode cR_create 53 = .ok (.aload_n 0, 1) := by decide +kernel
theorem dR_create_54 : decode cR_create 54 = .ok (.getfield 7, 3) := by decide +kernel
theorem dR_create_57 : decode cR_create 57 = .ok (.iload_n 1, 1) := by decide +kernel
theorem dR_create_58 : decode cR_create 58 = .ok (.iastore, 1) := by decide +kernel
theorem dR_create_59 : decode cR_create 59 = .ok (.aload_n 0, 1) := by decide +kernel
theorem dR_create_60 : decode cR_create 60 = .ok (.getfield 26, 3) := by decide +kernel
theorem dR_create_63 : decode cR_create 63 = .ok (.aload_n 0, 1) := by decide +kernel
theorem dR_create_64 : decode cR_create 64 = .ok (.getfield 7, 3) := by decide +kernel
theorem dR_create_67 : decode cR_create 67 = .ok (.iconst 1, 1) := by decide +kernel
theorem dR_create_68 : decode cR_create 68 = .ok (.iastore, 1) := by decide +kernel
theorem dR_create_69 : decode cR_create 69 = .ok (.aload_n 0, 1) := by decide +kernel
theorem dR_create_70 : decode cR_create 70 = .ok (.getfield 17, 3) := by decide +kernel
theorem dR_create_73 : decode cR_create 73 = .ok (.bipush 26, 2) := by decide +kernel
theorem dR_create_75 : decode cR_create 75 = .ok (.iload_n 2, 1) := by decide +kernel
theorem dR_create_76 : decode cR_create 76 = .ok (.imul, 1) := by decide +kernel
theorem dR_create_77 : decode cR_create 77 = .ok (.iload_n 3, 1) := by decide +kernel
theorem dR_create_78 : decode cR_create 78 = .ok (.iadd, 1) := by decide +kernel
theorem dR_create_79 : decode cR_create 79 = .ok (.bipush 97, 2) := by decide +kernel
theorem dR_create_81 : decode cR_create 81 = .ok (.isub, 1) := by decide +kernel
theorem dR_create_82 : decode cR_create 82 = .ok (.aload_n 0, 1) := by decide +kernel
theorem dR_create_83 : decode cR_create 83 = .ok (.getfield 7, 3) := by decide +kernel
theorem dR_create_86 : decode cR_create 86 = .ok (.iastore, 1) := by decide +kernel
theorem dR_create_87 : decode cR_create 87 = .ok (.aload_n 0, 1) := by decide +kernel
theorem dR_create_88 : decode cR_create 88 = .ok (.dup, 1) := by decide +kernel
theorem dR_create_89 : decode cR_create 89 = .ok (.getfield 7, 3) := by decide +kernel
theorem dR_create_92 : decode cR_create 92 = .ok (.iconst 1, 1) := by decide +kernel
theorem dR_create_93 : decode cR_create 93 = .ok (.iadd, 1) := by decide +kernel
theorem dR_create_94 : decode cR_create 94 = .ok (.putfield 7, 3) := by decide +kernel
theorem dR_create_97 : decode cR_create 97 = .ok (.aload_n 0, 1) := by decide +kernel
theorem dR_create_98 : decode cR_create 98 = .ok (.getfield 7, 3) := by decide +kernel
theorem dR_create_101 : decode cR_create 101 = .ok (.iconst 1, 1) := by decide +kernel
theorem dR_create_102 : decode cR_create 102 = .ok (.isub, 1) := by decide +kernel
theorem dR_create_103 : decode cR_create 103 = .ok (.ireturn, 1) := by decide +kernel
theorem dR_link_0 : decode cR_link 0 = .ok (.aload_n 0, 1) := by decide +kernel
theorem dR_link_1 : decode cR_link 1 = .ok (.aload_n 0, 1) := by decide +kernel
theorem dR_link_2 : decode cR_link 2 = .ok (.iload_n 1, 1) := by decide +kernel
theorem dR_link_3 : decode cR_link 3 = .ok (.iconst 1, 1) := by decide +kernel
theorem dR_link_4 : decode cR_link 4 = .ok (.invokevirtual 72, 3) := by decide +kernel
theorem dR_link_7 : decode cR_link 7 = .ok (.ifCond .eq 16, 3) := by decide +kernel
theorem dR_link_10 : decode cR_link 10 = .ok (.aload_n 0, 1) := by decide +kernel
theorem dR_link_11 : decode cR_link 11 = .ok (.iload_n 2, 1) := by decide +kernel
theorem dR_link_12 : decode cR_link 12 = .ok (.iload_n 3, 1) := by decide +kernel
theorem dR_link_13 : decode cR_link 13 = .ok (.invokevirtual 80, 3) := by decide +kernel
theorem dR_link_16 : decode cR_link 16 = .ok (.ifCond .eq 7, 3) := by decide +kernel
theorem dR_link_19 : decode cR_link 19 = .ok (.iconst 0, 1) := by decide +kernel
theorem dR_link_20 : decode cR_link 20 = .ok (.goto 4, 3) := by decide +kernel
theorem dR_link_23 : decode cR_link 23 = .ok (.iconst 1, 1) := by decide +kernel
theorem dR_link_24 : decode cR_link 24 = .ok (.putfield 69, 3) := by decide +kernel
theorem dR_link_27 : decode cR_link 27 = .ok (.aload_n 0, 1) := by decide +kernel
theorem dR_link_28 : decode cR_link 28 = .ok (.getfield 69, 3) := by decide +kernel
theorem dR_link_31 : decode cR_link 31 = .ok (.ifCond .le 4, 3) := by decide +kernel
theorem dR_link_34 : decode cR_link 34 = .ok (.return_, 1) := by decide +kernel
theorem dR_link_35 : decode cR_link 35 = .ok (.aload_n 0, 1) := by decide +kernel
theorem dR_link_36 : decode cR_link 36 = .ok (.getfield 17, 3) := by decide +kernel
theorem dR_link_39 : decode cR_link 39 = .ok (.bipush 26, 2) := by decide +kernel
theorem dR_link_41 : decode cR_link 41 = .ok (.iload_n 2, 1) := by decide +kernel
theorem dR_link_42 : decode cR_link 42 = .ok (.imul, 1) := by decide +kernel
theorem dR_link_43 : decode cR_link 43 = .ok (.iload_n 3, 1) := by decide +kernel
theorem dR_link_44 : decode cR_link 44 = .ok (.iadd, 1) := by decide +kernel
theorem dR_link_45 : decode cR_link 45 = .ok (.bipush 97, 2) := by decide +kernel
theorem dR_link_47 : decode cR_link 47 = .ok (.isub, 1) := by decide +kernel
theorem dR_link_48 : decode cR_link 48 = .ok (.iload_n 1, 1) := by decide +kernel
theorem dR_link_49 : decode cR_link 49 = .ok (.iastore, 1) := by decide +kernel
theorem dR_link_50 : decode cR_link 50 = .ok (.aload_n 0, 1) := by decide +kernel
theorem dR_link_51 : decode cR_link 51 = .ok (.getfield 26, 3) := by decide +kernel
theorem dR_link_54 : decode cR_link 54 = .ok (.iload_n 1, 1) := by decide +kernel
theorem dR_link_55 : decode cR_link 55 = .ok (.dup2, 1) := by decide +kernel
theorem dR_link_56 : decode cR_link 56 = .ok (.iaload, 1) := by decide +kernel
theorem dR_link_57 : decode cR_link 57 = .ok (.iconst 1, 1) := by decide +kernel
theorem dR_link_58 : decode cR_link 58 = .ok (.iadd, 1) := by decide +kernel
theorem dR_link_59 : decode cR_link 59 = .ok (.iastore, 1) := by decide +kernel
theorem dR_link_60 : decode cR_link 60 = .ok (.return_, 1) := by decide +kernel
theorem dR_unlink_0 : decode cR_unlink 0 = .ok (.aload_n 0, 1) := by decide +kernel
theorem dR_unlink_1 : decode cR_unlink 1 = .ok (.iload_n 1, 1) := by decide +kernel
theorem dR_unlink_2 : decode cR_unlink 2 = .ok (.iconst 0, 1) := by decide +kernel
theorem dR_unlink_3 : decode cR_unlink 3 = .ok (.invokevirtual 72, 3) := by decide +kernel
theorem dR_unlink_6 : decode cR_unlink 6 = .ok (.ifCond .eq 27, 3) := by decide +kernel
theorem dR_unlink_9 : decode cR_unlink 9 = .ok (.iload_n 2, 1) := by decide +kernel
theorem dR_unlink_10 : decode cR_unlink 10 = .ok (.invokestatic 76, 3) := by decide +kernel
theorem dR_unlink_13 : decode cR_unlink 13 = .ok (.ifCond .eq 20, 3) := by decide +kernel
theorem dR_unlink_16 : decode cR_unlink 16 = .ok (.aload_n 0, 1) := by decide +kernel
theorem dR_unlink_17 : decode cR_unlink 17 = .ok (.getfield 17, 3) := by decide +kernel
theorem dR_unlink_20 : decode cR_unlink 20 = .ok (.bipush 26, 2) := by decide +kernel
theorem dR_unlink_22 : decode cR_unlink 22 = .ok (.iload_n 1, 1) := by decide +kernel
theorem dR_unlink_23 : decode cR_unlink 23 = .ok (.imul, 1) := by decide +kernel
theorem dR_unlink_24 : decode cR_unlink 24 = .ok (.iload_n 2, 1) := by decide +kernel
theorem dR_unlink_25 : decode cR_unlink 25 = .ok (.iadd, 1) := by decide +kernel
theorem dR_unlink_26 : decode cR_unlink 26 = .ok (.bipush 97, 2) := by decide +kernel
theorem dR_unlink_28 : decode cR_unlink 28 = .ok (.isub, 1) := by decide +kernel
theorem dR_unlink_29 : decode cR_unlink 29 = .ok (.iaload, 1) := by decide +kernel
theorem dR_unlink_30 : decode cR_unlink 30 = .ok (.goto 4, 3) := by decide +kernel
theorem dR_unlink_33 : decode cR_unlink 33 = .ok (.iconst (-1), 1) := by decide +kernel
theorem dR_unlink_34 : decode cR_unlink 34 = .ok (.istore_n 3, 1) := by decide +kernel
theorem dR_unlink_35 : decode cR_unlink 35 = .ok (.aload_n 0, 1) := by decide +kernel
theorem dR_unlink_36 : decode cR_unlink 36 = .ok (.iload_n 3, 1) := by decide +kernel
theorem dR_unlink_37 : decode cR_unlink 37 = .ok (.iconst (-1), 1) := by decide +kernel
theorem dR_unlink_38 : decode cR_unlink 38 = .ok (.if_icmp .eq 17, 3) := by decide +kernel
theorem dR_unlink_41 : decode cR_unlink 41 = .ok (.aload_n 0, 1) := by decide +kernel
theorem dR_unlink_42 : decode cR_unlink 42 = .ok (.getfield 13, 3) := by decide +kernel
theorem dR_unlink_45 : decode cR_unlink 45 = .ok (.iload_n 3, 1) := by decide +kernel
theorem dR_unlink_46 : decode cR_unlink 46 = .ok (.iaload, 1) := by decide +kernel
theorem dR_unlink_47 : decode cR_unlink 47 = .ok (.iconst 1, 1) := by decide +kernel
theorem dR_unlink_48 : decode cR_unlink 48 = .ok (.if_icmp .ne 7, 3) := by decide +kernel
theorem dR_unlink_51 : decode cR_unlink 51 = .ok (.iconst 0, 1) := by decide +kernel
theorem dR_unlink_52 : decode cR_unlink 52 = .ok (.goto 4, 3) := by decide +kernel
theorem dR_unlink_55 : decode cR_unlink 55 = .ok (.iconst 1, 1) := by decide +kernel
theorem dR_unlink_56 : decode cR_unlink 56 = .ok (.putfield 69, 3) := by decide +kernel
theorem dR_unlink_59 : decode cR_unlink 59 = .ok (.aload_n 0, 1) := by decide +kernel
theorem dR_unlink_60 : decode cR_unlink 60 = .ok (.getfield 69, 3) := by decide +kernel
theorem dR_unlink_63 : decode cR_unlink 63 = .ok (.ifCond .le 4, 3) := by decide +kernel
theorem dR_unlink_66 : decode cR_unlink 66 = .ok (.return_, 1) := by decide +kernel
theorem dR_unlink_67 : decode cR_unlink 67 = .ok (.aload_n 0, 1) := by decide +kernel
theorem dR_unlink_68 : decode cR_unlink 68 = .ok (.getfield 17, 3) := by decide +kernel
theorem dR_unlink_71 : decode cR_unlink 71 = .ok (.bipush 26, 2) := by decide +kernel
theorem dR_unlink_73 : decode cR_unlink 73 = .ok (.iload_n 1, 1) := by decide +kernel
theorem dR_unlink_74 : decode cR_unlink 74 = .ok (.imul, 1) := by decide +kernel
theorem dR_unlink_75 : decode cR_unlink 75 = .ok (.iload_n 2, 1) := by decide +kernel
theorem dR_unlink_76 : decode cR_unlink 76 = .ok (.iadd, 1) := by decide +kernel
theorem dR_unlink_77 : decode cR_unlink 77 = .ok (.bipush 97, 2) := by decide +kernel
theorem dR_unlink_79 : decode cR_unlink 79 = .ok (.isub, 1) := by decide +kernel
theorem dR_unlink_80 : decode cR_unlink 80 = .ok (.iconst (-1), 1) := by decide +kernel
theorem dR_unlink_81 : decode cR_unlink 81 = .ok (.iastore, 1) := by decide +kernel
theorem dR_unlink_82 : decode cR_unlink 82 = .ok (.aload_n 0, 1) := by decide +kernel
theorem dR_unlink_83 : decode cR_unlink 83 = .ok (.getfield 26, 3) := by decide +kernel
theorem dR_unlink_86 : decode cR_unlink 86 = .ok (.iload_n 3, 1) := by decide +kernel
theorem dR_unlink_87 : decode cR_unlink 87 = .ok (.dup2, 1) := by decide +kernel
theorem dR_unlink_88 : decode cR_unlink 88 = .ok (.iaload, 1) := by decide +kernel
theorem dR_unlink_89 : decode cR_unlink 89 = .ok (.iconst 1, 1) := by decide +kernel
theorem dR_unlink_90 : decode cR_unlink 90 = .ok (.isub, 1) := by decide +kernel
theorem dR_unlink_91 : decode cR_unlink 91 = .ok (.iastore, 1) := by decide +kernel
theorem dR_unlink_92 : decode cR_unlink 92 = .ok (.return_, 1) := by decide +kernel
theorem dR_append_0 : decode cR_append 0 = .ok (.aload_n 0, 1) := by decide +kernel
theorem dR_append_1 : decode cR_append 1 = .ok (.iload_n 1, 1) := by decide +kernel
theorem dR_append_2 : decode cR_append 2 = .ok (.iconst 1, 1) := by decide +kernel
theorem dR_append_3 : decode cR_append 3 = .ok (.invokevirtual 72, 3) := by decide +kernel
theorem dR_append_6 : decode cR_append 6 = .ok (.ifCond .eq 18, 3) := by decide +kernel
theorem dR_append_9 : decode cR_append 9 = .ok (.iload_n 2, 1) := by decide +kernel
theorem dR_append_10 : decode cR_append 10 = .ok (.ifCond .lt 14, 3) := by decide +kernel
theorem dR_append_13 : decode cR_append 13 = .ok (.iload_n 2, 1) := by decide +kernel
theorem dR_append_14 : decode cR_append 14 = .ok (.sipush 256, 3) := by decide +kernel
theorem dR_append_17 : decode cR_append 17 = .ok (.if_icmp .ge 7, 3) := by decide +kernel
theorem dR_append_20 : decode cR_append 20 = .ok (.iconst 1, 1) := by decide +kernel
theorem dR_append_21 : decode cR_append 21 = .ok (.goto 4, 3) := by decide +kernel
theorem dR_append_24 : decode cR_append 24 = .ok (.iconst 0, 1) := by decide +kernel
theorem dR_append_25 : decode cR_append 25 = .ok (.istore_n 3, 1) := by decide +kernel
theorem dR_append_26 : decode cR_append 26 = .ok (.aload_n 0, 1) := by decide +kernel
theorem dR_append_27 : decode cR_append 27 = .ok (.iload_n 1, 1) := by decide +kernel
theorem dR_append_28 : decode cR_append 28 = .ok (.iconst 2, 1) := by decide +kernel
theorem dR_append_29 : decode cR_append 29 = .ok (.invokevirtual 72, 3) := by decide +kernel
theorem dR_append_32 : decode cR_append 32 = .ok (.ifCond .eq 14, 3) := by decide +kernel
theorem dR_append_35 : decode cR_append 35 = .ok (.iload_n 2, 1) := by decide +kernel
theorem dR_append_36 : decode cR_append 36 = .ok (.invokestatic 76, 3) := by decide +kernel
theorem dR_append_39 : decode cR_append 39 = .ok (.ifCond .eq 7, 3) := by decide +kernel
theorem dR_append_42 : decode cR_append 42 = .ok (.iconst 1, 1) := by decide +kernel
theorem dR_append_43 : decode cR_append 43 = .ok (.goto 4, 3) := by decide +kernel
theorem dR_append_46 : decode cR_append 46 = .ok (.iconst 0, 1) := by decide +kernel
theorem dR_append_47 : decode cR_append 47 = .ok (.istore 4, 2) := by decide +kernel
theorem dR_append_49 : decode cR_append 49 = .ok (.aload_n 0, 1) := by decide +kernel
theorem dR_append_50 : decode cR_append 50 = .ok (.iload_n 3, 1) := by decide +kernel
theorem dR_append_51 : decode cR_append 51 = .ok (.ifCond .ne 12, 3) := by decide +kernel
theorem dR_append_54 : decode cR_append 54 = .ok (.iload 4, 2) := by decide +kernel
theorem dR_append_56 : decode cR_append 56 = .ok (.ifCond .ne 7, 3) := by decide +kernel
theorem dR_append_59 : decode cR_append 59 = .ok (.iconst 1, 1) := by decide +kernel
theorem dR_append_60 : decode cR_append 60 = .ok (.goto 27, 3) := by decide +kernel
theorem dR_append_63 : decode cR_append 63 = .ok (.aload_n 0, 1) := by decide +kernel
theorem dR_append_64 : decode cR_append 64 = .ok (.getfield 23, 3) := by decide +kernel
theorem dR_append_67 : decode cR_append 67 = .ok (.iload_n 1, 1) := by decide +kernel
theorem dR_append_68 : decode cR_append 68 = .ok (.iaload, 1) := by decide +kernel
theorem dR_append_69 : decode cR_append 69 = .ok (.iload_n 3, 1) := by decide +kernel
theorem dR_append_70 : decode cR_append 70 = .ok (.ifCond .eq 8, 3) := by decide +kernel
theorem dR_append_73 : decode cR_append 73 = .ok (.bipush 60, 2) := by decide +kernel
theorem dR_append_75 : decode cR_append 75 = .ok (.goto 4, 3) := by decide +kernel
theorem dR_append_78 : decode cR_append 78 = .ok (.iconst 4, 1) := by decide +kernel
theorem dR_append_79 : decode cR_append 79 = .ok (.if_icmp .ne 7, 3) := by decide +kernel
theorem dR_append_82 : decode cR_append 82 = .ok (.iconst 2, 1) := by decide +kernel
theorem dR_append_83 : decode cR_append 83 = .ok (.goto 4, 3) := by decide +kernel
theorem dR_append_86 : decode cR_append 86 = .ok (.iconst 0, 1) := by decide +kernel
theorem dR_append_87 : decode cR_append 87 = .ok (.putfield 69, 3) := by decide +kernel
theorem dR_append_90 : decode cR_append 90 = .ok (.aload_n 0, 1) := by decide +kernel
theorem dR_append_91 : decode cR_append 91 = .ok (.getfield 69, 3) := by decide +kernel
theorem dR_append_94 : decode cR_append 94 = .ok (.ifCond .le 5, 3) := by decide +kernel
theorem dR_append_97 : decode cR_append 97 = .ok (.iconst 0, 1) := by decide +kernel
theorem dR_append_98 : decode cR_append 98 = .ok (.ireturn, 1) := by decide +kernel
theorem dR_append_99 : decode cR_append 99 = .ok (.aload_n 0, 1) := by decide +kernel
theorem dR_append_100 : decode cR_append 100 = .ok (.getfield 20, 3) := by decide +kernel
theorem dR_append_103 : decode cR_append 103 = .ok (.bipush 60, 2) := by decide +kernel
theorem dR_append_105 : decode cR_append 105 = .ok (.iload_n 1, 1) := by decide +kernel
theorem dR_append_106 : decode cR_append 106 = .ok (.imul, 1) := by decide +kernel
theorem dR_append_107 : decode cR_append 107 = .ok (.aload_n 0, 1) := by decide +kernel
theorem dR_append_108 : decode cR_append 108 = .ok (.getfield 23, 3) := by decide +kernel
theorem dR_append_111 : decode cR_append 111 = .ok (.iload_n 1, 1) := by decide +kernel
theorem dR_append_112 : decode cR_append 112 = .ok (.iaload, 1) := by decide +kernel
theorem dR_append_113 : decode cR_append 113 = .ok (.iadd, 1) := by decide +kernel
theorem dR_append_114 : decode cR_append 114 = .ok (.iload_n 2, 1) := by decide +kernel
theorem dR_append_115 : decode cR_append 115 = .ok (.iastore, 1) := by decide +kernel
theorem dR_append_116 : decode cR_append 116 = .ok (.aload_n 0, 1) := by decide +kernel
theorem dR_append_117 : decode cR_append 117 = .ok (.getfield 23, 3) := by decide +kernel
theorem dR_append_120 : decode cR_append 120 = .ok (.iload_n 1, 1) := by decide +kernel
theorem dR_append_121 : decode cR_append 121 = .ok (.dup2, 1) := by decide +kernel
theorem dR_append_122 : decode cR_append 122 = .ok (.iaload, 1) := by decide +kernel
theorem dR_append_123 : decode cR_append 123 = .ok (.iconst 1, 1) := by decide +kernel
theorem dR_append_124 : decode cR_append 124 = .ok (.iadd, 1) := by decide +kernel
theorem dR_append_125 : decode cR_append 125 = .ok (.iastore, 1) := by decide +kernel
theorem dR_append_126 : decode cR_append 126 = .ok (.aload_n 0, 1) := by decide +kernel
theorem dR_append_127 : decode cR_append 127 = .ok (.getfield 23, 3) := by decide +kernel
theorem dR_append_130 : decode cR_append 130 = .ok (.iload_n 1, 1) := by decide +kernel
theorem dR_append_131 : decode cR_append 131 = .ok (.iaload, 1) := by decide +kernel
theorem dR_append_132 : decode cR_append 132 = .ok (.ireturn, 1) := by decide +kernel
theorem dR_sizeOf_0 : decode cR_sizeOf 0 = .ok (.aload_n 0, 1) := by decide +kernel
theorem dR_sizeOf_1 : decode cR_sizeOf 1 = .ok (.getfield 13, 3) := by decide +kernel
theorem dR_sizeOf_4 : decode cR_sizeOf 4 = .ok (.iload_n 1, 1) := by decide +kernel
theorem dR_sizeOf_5 : decode cR_sizeOf 5 = .ok (.iaload, 1) := by decide +kernel
theorem dR_sizeOf_6 : decode cR_sizeOf 6 = .ok (.ifCond .eq 10, 3) := by decide +kernel
theorem dR_sizeOf_9 : decode cR_sizeOf 9 = .ok (.aload_n 0, 1) := by decide +kernel
theorem dR_sizeOf_10 : decode cR_sizeOf 10 = .ok (.getfield 23, 3) := by decide +kernel
theorem dR_sizeOf_13 : decode cR_sizeOf 13 = .ok (.iload_n 1, 1) := by decide +kernel
theorem dR_sizeOf_14 : decode cR_sizeOf 14 = .ok (.iaload, 1) := by decide +kernel
theorem dR_sizeOf_15 : decode cR_sizeOf 15 = .ok (.ireturn, 1) := by decide +kernel
theorem dR_sizeOf_16 : decode cR_sizeOf 16 = .ok (.iconst 0, 1) := by decide +kernel
theorem dR_sizeOf_17 : decode cR_sizeOf 17 = .ok (.istore_n 2, 1) := by decide +kernel
theorem dR_sizeOf_18 : decode cR_sizeOf 18 = .ok (.iconst 0, 1) := by decide +kernel
theorem dR_sizeOf_19 : decode cR_sizeOf 19 = .ok (.istore_n 3, 1) := by decide +kernel
theorem dR_sizeOf_20 : decode cR_sizeOf 20 = .ok (.iload_n 3, 1) := by decide +kernel
theorem dR_sizeOf_21 : decode cR_sizeOf 21 = .ok (.bipush 26, 2) := by decide +kernel
theorem dR_sizeOf_23 : decode cR_sizeOf 23 = .ok (.if_icmp .ge 32, 3) := by decide +kernel
theorem dR_sizeOf_26 : decode cR_sizeOf 26 = .ok (.iload_n 2, 1) := by decide +kernel
theorem dR_sizeOf_27 : decode cR_sizeOf 27 = .ok (.aload_n 0, 1) := by decide +kernel
theorem dR_sizeOf_28 : decode cR_sizeOf 28 = .ok (.getfield 17, 3) := by decide +kernel
theorem dR_sizeOf_31 : decode cR_sizeOf 31 = .ok (.bipush 26, 2) := by decide +kernel
theorem dR_sizeOf_33 : decode cR_sizeOf 33 = .ok (.iload_n 1, 1) := by decide +kernel
theorem dR_sizeOf_34 : decode cR_sizeOf 34 = .ok (.imul, 1) := by decide +kernel
theorem dR_sizeOf_35 : decode cR_sizeOf 35 = .ok (.iload_n 3, 1) := by decide +kernel
theorem dR_sizeOf_36 : decode cR_sizeOf 36 = .ok (.iadd, 1) := by decide +kernel
theorem dR_sizeOf_37 : decode cR_sizeOf 37 = .ok (.iaload, 1) := by decide +kernel
theorem dR_sizeOf_38 : decode cR_sizeOf 38 = .ok (.iconst (-1), 1) := by decide +kernel
theorem dR_sizeOf_39 : decode cR_sizeOf 39 = .ok (.if_icmp .ne 7, 3) := by decide +kernel
theorem dR_sizeOf_42 : decode cR_sizeOf 42 = .ok (.iconst 0, 1) := by decide +kernel
theorem dR_sizeOf_43 : decode cR_sizeOf 43 = .ok (.goto 4, 3) := by decide +kernel
theorem dR_sizeOf_46 : decode cR_sizeOf 46 = .ok (.iconst 1, 1) := by decide +kernel
theorem dR_sizeOf_47 : decode cR_sizeOf 47 = .ok (.iadd, 1) := by decide +kernel
theorem dR_sizeOf_48 : decode cR_sizeOf 48 = .ok (.istore_n 2, 1) := by decide +kernel
theorem dR_sizeOf_49 : decode cR_sizeOf 49 = .ok (.iinc 3 1, 3) := by decide +kernel
theorem dR_sizeOf_52 : decode cR_sizeOf 52 = .ok (.goto (-32), 3) := by decide +kernel
theorem dR_sizeOf_55 : decode cR_sizeOf 55 = .ok (.iconst 3, 1) := by decide +kernel
theorem dR_sizeOf_56 : decode cR_sizeOf 56 = .ok (.iload_n 2, 1) := by decide +kernel
theorem dR_sizeOf_57 : decode cR_sizeOf 57 = .ok (.imul, 1) := by decide +kernel
theorem dR_sizeOf_58 : decode cR_sizeOf 58 = .ok (.ireturn, 1) := by decide +kernel
theorem dR_layData_0 : decode cR_layData 0 = .ok (.iconst 0, 1) := by decide +kernel
theorem dR_layData_1 : decode cR_layData 1 = .ok (.istore_n 2, 1) := by decide +kernel
theorem dR_layData_2 : decode cR_layData 2 = .ok (.iload_n 2, 1) := by decide +kernel
theorem dR_layData_3 : decode cR_layData 3 = .ok (.sipush 192, 3) := by decide +kernel
theorem dR_layData_6 : decode cR_layData 6 = .ok (.if_icmp .ge 49, 3) := by decide +kernel
theorem dR_layData_9 : decode cR_layData 9 = .ok (.aload_n 0, 1) := by decide +kernel
theorem dR_layData_10 : decode cR_layData 10 = .ok (.getfield 42, 3) := by decide +kernel
theorem dR_layData_13 : decode cR_layData 13 = .ok (.iload_n 2, 1) := by decide +kernel
theorem dR_layData_14 : decode cR_layData 14 = .ok (.aload_n 0, 1) := by decide +kernel
theorem dR_layData_15 : decode cR_layData 15 = .ok (.getfield 13, 3) := by decide +kernel
theorem dR_layData_18 : decode cR_layData 18 = .ok (.iload_n 1, 1) := by decide +kernel
theorem dR_layData_19 : decode cR_layData 19 = .ok (.iaload, 1) := by decide +kernel
theorem dR_layData_20 : decode cR_layData 20 = .ok (.ifCond .eq 27, 3) := by decide +kernel
theorem dR_layData_23 : decode cR_layData 23 = .ok (.iload_n 2, 1) := by decide +kernel
theorem dR_layData_24 : decode cR_layData 24 = .ok (.aload_n 0, 1) := by decide +kernel
theorem dR_layData_25 : decode cR_layData 25 = .ok (.getfield 23, 3) := by decide +kernel
theorem dR_layData_28 : decode cR_layData 28 = .ok (.iload_n 1, 1) := by decide +kernel
theorem dR_layData_29 : decode cR_layData 29 = .ok (.iaload, 1) := by decide +kernel
theorem dR_layData_30 : decode cR_layData 30 = .ok (.if_icmp .ge 17, 3) := by decide +kernel
theorem dR_layData_33 : decode cR_layData 33 = .ok (.aload_n 0, 1) := by decide +kernel
theorem dR_layData_34 : decode cR_layData 34 = .ok (.getfield 20, 3) := by decide +kernel
theorem dR_layData_37 : decode cR_layData 37 = .ok (.bipush 60, 2) := by decide +kernel
theorem dR_layData_39 : decode cR_layData 39 = .ok (.iload_n 1, 1) := by decide +kernel
theorem dR_layData_40 : decode cR_layData 40 = .ok (.imul, 1) := by decide +kernel
theorem dR_layData_41 : decode cR_layData 41 = .ok (.iload_n 2, 1) := by decide +kernel
theorem dR_layData_42 : decode cR_layData 42 = .ok (.iadd, 1) := by decide +kernel
theorem dR_layData_43 : decode cR_layData 43 = .ok (.iaload, 1) := by decide +kernel
theorem dR_layData_44 : decode cR_layData 44 = .ok (.goto 4, 3) := by decide +kernel
theorem dR_layData_47 : decode cR_layData 47 = .ok (.iconst 0, 1) := by decide +kernel
theorem dR_layData_48 : decode cR_layData 48 = .ok (.iastore, 1) := by decide +kernel
theorem dR_layData_49 : decode cR_layData 49 = .ok (.iinc 2 1, 3) := by decide +kernel
theorem dR_layData_52 : decode cR_layData 52 = .ok (.goto (-50), 3) := by decide +kernel
theorem dR_layData_55 : decode cR_layData 55 = .ok (.iconst 0, 1) := by decide +kernel
theorem dR_layData_56 : decode cR_layData 56 = .ok (.istore_n 2, 1) := by decide +kernel
theorem dR_layData_57 : decode cR_layData 57 = .ok (.iconst 0, 1) := by decide +kernel
theorem dR_layData_58 : decode cR_layData 58 = .ok (.istore_n 3, 1) := by decide +kernel
theorem dR_layData_59 : decode cR_layData 59 = .ok (.iload_n 3, 1) := by decide +kernel
theorem dR_layData_60 : decode cR_layData 60 = .ok (.bipush 26, 2) := by decide +kernel
theorem dR_layData_62 : decode cR_layData 62 = .ok (.if_icmp .ge 83, 3) := by decide +kernel
theorem dR_layData_65 : decode cR_layData 65 = .ok (.aload_n 0, 1) := by decide +kernel
theorem dR_layData_66 : decode cR_layData 66 = .ok (.getfield 13, 3) := by decide +kernel
theorem dR_layData_69 : decode cR_layData 69 = .ok (.iload_n 1, 1) := by decide +kernel
theorem dR_layData_70 : decode cR_layData 70 = .ok (.iaload, 1) := by decide +kernel
theorem dR_layData_71 : decode cR_layData 71 = .ok (.ifCond .ne 74, 3) := by decide +kernel
theorem dR_layData_74 : decode cR_layData 74 = .ok (.aload_n 0, 1) := by decide +kernel
theorem dR_layData_75 : decode cR_layData 75 = .ok (.getfield 17, 3) := by decide +kernel
theorem dR_layData_78 : decode cR_layData 78 = .ok (.bipush 26, 2) := by decide +kernel
theorem dR_layData_80 : decode cR_layData 80 = .ok (.iload_n 1, 1) := by decide +kernel
theorem dR_layData_81 : decode cR_layData 81 = .ok (.imul, 1) := by decide +kernel
theorem dR_layData_82 : decode cR_layData 82 = .ok (.iload_n 3, 1) := by decide +kernel
theorem dR_layData_83 : decode cR_layData 83 = .ok (.iadd, 1) := by decide +kernel
theorem dR_layData_84 : decode cR_layData 84 = .ok (.iaload, 1) := by decide +kernel
theorem dR_layData_85 : decode cR_layData 85 = .ok (.istore 4, 2) := by decide +kernel
theorem dR_layData_87 : decode cR_layData 87 = .ok (.iload 4, 2) := by decide +kernel
theorem dR_layData_89 : decode cR_layData 89 = .ok (.iconst (-1), 1) := by decide +kernel
theorem dR_layData_90 : decode cR_layData 90 = .ok (.if_icmp .ne 6, 3) := by decide +kernel
theorem dR_layData_93 : decode cR_layData 93 = .ok (.goto 46, 3) := by decide +kernel
theorem dR_layData_96 : decode cR_layData 96 = .ok (.aload_n 0, 1) := by decide +kernel
theorem dR_layData_97 : decode cR_layData 97 = .ok (.getfield 42, 3) := by decide +kernel
theorem dR_layData_100 : decode cR_layData 100 = .ok (.iload_n 2, 1) := by decide +kernel
theorem dR_layData_101 : decode cR_layData 101 = .ok (.bipush 97, 2) := by decide +kernel
theorem dR_layData_103 : decode cR_layData 103 = .ok (.iload_n 3, 1) := by decide +kernel
theorem dR_layData_104 : decode cR_layData 104 = .ok (.iadd, 1) := by decide +kernel
theorem dR_layData_105 : decode cR_layData 105 = .ok (.iastore, 1) := by decide +kernel
theorem dR_layData_106 : decode cR_layData 106 = .ok (.aload_n 0, 1) := by decide +kernel
theorem dR_layData_107 : decode cR_layData 107 = .ok (.getfield 42, 3) := by decide +kernel
theorem dR_layData_110 : decode cR_layData 110 = .ok (.iload_n 2, 1) := by decide +kernel
theorem dR_layData_111 : decode cR_layData 111 = .ok (.iconst 1, 1) := by decide +kernel
theorem dR_layData_112 : decode cR_layData 112 = .ok (.iadd, 1) := by decide +kernel
theorem dR_layData_113 : decode cR_layData 113 = .ok (.aload_n 0, 1) := by decide +kernel
theorem dR_layData_114 : decode cR_layData 114 = .ok (.getfield 29, 3) := by decide +kernel
theorem dR_layData_117 : decode cR_layData 117 = .ok (.iload 4, 2) := by decide +kernel
theorem dR_layData_119 : decode cR_layData 119 = .ok (.iaload, 1) := by decide +kernel
theorem dR_layData_120 : decode cR_layData 120 = .ok (.iastore, 1) := by decide +kernel
theorem dR_layData_121 : decode cR_layData 121 = .ok (.aload_n 0, 1) := by decide +kernel
theorem dR_layData_122 : decode cR_layData 122 = .ok (.getfield 42, 3) := by decide +kernel
theorem dR_layData_125 : decode cR_layData 125 = .ok (.iload_n 2, 1) := by decide +kernel
theorem dR_layData_126 : decode cR_layData 126 = .ok (.iconst 2, 1) := by decide +kernel
theorem dR_layData_127 : decode cR_layData 127 = .ok (.iadd, 1) := by decide +kernel
theorem dR_layData_128 : decode cR_layData 128 = .ok (.aload_n 0, 1) := by decide +kernel
theorem dR_layData_129 : decode cR_layData 129 = .ok (.getfield 13, 3) := by decide +kernel
theorem dR_layData_132 : decode cR_layData 132 = .ok (.iload 4, 2) := by decide +kernel
theorem dR_layData_134 : decode cR_layData 134 = .ok (.iaload, 1) := by decide +kernel
theorem dR_layData_135 : decode cR_layData 135 = .ok (.iastore, 1) := by decide +kernel
theorem dR_layData_136 : decode cR_layData 136 = .ok (.iinc 2 3, 3) := by decide +kernel
theorem dR_layData_139 : decode cR_layData 139 = .ok (.iinc 3 1, 3) := by decide +kernel
theorem dR_layData_142 : decode cR_layData 142 = .ok (.goto (-83), 3) := by decide +kernel
theorem dR_layData_145 : decode cR_layData 145 = .ok (.return_, 1) := by decide +kernel
theorem dR_match_0 : decode cR_match 0 = .ok (.iconst 2, 1) := by decide +kernel
theorem dR_match_1 : decode cR_match 1 = .ok (.istore 4, 2) := by decide +kernel
theorem dR_match_3 : decode cR_match 3 = .ok (.iconst 1, 1) := by decide +kernel
theorem dR_match_4 : decode cR_match 4 = .ok (.istore 5, 2) := by decide +kernel
theorem dR_match_6 : decode cR_match 6 = .ok (.iload 5, 2) := by decide +kernel
theorem dR_match_8 : decode cR_match 8 = .ok (.iload_n 2, 1) := by decide +kernel
theorem dR_match_9 : decode cR_match 9 = .ok (.iload_n 3, 1) := by decide +kernel
theorem dR_match_10 : decode cR_match 10 = .ok (.isub, 1) := by decide +kernel
theorem dR_match_11 : decode cR_match 11 = .ok (.if_icmp .gt 108, 3) := by decide +kernel
theorem dR_match_14 : decode cR_match 14 = .ok (.iconst 0, 1) := by decide +kernel
theorem dR_match_15 : decode cR_match 15 = .ok (.istore 6, 2) := by decide +kernel
theorem dR_match_17 : decode cR_match 17 = .ok (.iload 6, 2) := by decide +kernel
theorem dR_match_19 : decode cR_match 19 = .ok (.bipush 17, 2) := by decide +kernel
theorem dR_match_21 : decode cR_match 21 = .ok (.if_icmp .ge 56, 3) := by decide +kernel
theorem dR_match_24 : decode cR_match 24 = .ok (.iload_n 2, 1) := by decide +kernel
theorem dR_match_25 : decode cR_match 25 = .ok (.iload 6, 2) := by decide +kernel
theorem dR_match_27 : decode cR_match 27 = .ok (.iadd, 1) := by decide +kernel
theorem dR_match_28 : decode cR_match 28 = .ok (.aload_n 0, 1) := by decide +kernel
theorem dR_match_29 : decode cR_match 29 = .ok (.getfield 23, 3) := by decide +kernel
theorem dR_match_32 : decode cR_match 32 = .ok (.iload_n 1, 1) := by decide +kernel
theorem dR_match_33 : decode cR_match 33 = .ok (.iaload, 1) := by decide +kernel
theorem dR_match_34 : decode cR_match 34 = .ok (.if_icmp .ge 43, 3) := by decide +kernel
theorem dR_match_37 : decode cR_match 37 = .ok (.aload_n 0, 1) := by decide +kernel
theorem dR_match_38 : decode cR_match 38 = .ok (.getfield 20, 3) := by decide +kernel
theorem dR_match_41 : decode cR_match 41 = .ok (.bipush 60, 2) := by decide +kernel
theorem dR_match_43 : decode cR_match 43 = .ok (.iload_n 1, 1) := by decide +kernel
theorem dR_match_44 : decode cR_match 44 = .ok (.imul, 1) := by decide +kernel
theorem dR_match_45 : decode cR_match 45 = .ok (.iload_n 2, 1) := by decide +kernel
theorem dR_match_46 : decode cR_match 46 = .ok (.iadd, 1) := by decide +kernel
theorem dR_match_47 : decode cR_match 47 = .ok (.iload 6, 2) := by decide +kernel
theorem dR_match_49 : decode cR_match 49 = .ok (.iadd, 1) := by decide +kernel
theorem dR_match_50 : decode cR_match 50 = .ok (.iaload, 1) := by decide +kernel
theorem dR_match_51 : decode cR_match 51 = .ok (.aload_n 0, 1) := by decide +kernel
theorem dR_match_52 : decode cR_match 52 = .ok (.getfield 20, 3) := by decide +kernel
theorem dR_match_55 : decode cR_match 55 = .ok (.bipush 60, 2) := by decide +kernel
theorem dR_match_57 : decode cR_match 57 = .ok (.iload_n 1, 1) := by decide +kernel
theorem dR_match_58 : decode cR_match 58 = .ok (.imul, 1) := by decide +kernel
theorem dR_match_59 : decode cR_match 59 = .ok (.iload_n 2, 1) := by decide +kernel
theorem dR_match_60 : decode cR_match 60 = .ok (.iadd, 1) := by decide +kernel
theorem dR_match_61 : decode cR_match 61 = .ok (.iload 6, 2) := by decide +kernel
theorem dR_match_63 : decode cR_match 63 = .ok (.iadd, 1) := by decide +kernel
theorem dR_match_64 : decode cR_match 64 = .ok (.iload 5, 2) := by decide +kernel
theorem dR_match_66 : decode cR_match 66 = .ok (.isub, 1) := by decide +kernel
theorem dR_match_67 : decode cR_match 67 = .ok (.iaload, 1) := by decide +kernel
theorem dR_match_68 : decode cR_match 68 = .ok (.if_icmp .ne 9, 3) := by decide +kernel
theorem dR_match_71 : decode cR_match 71 = .ok (.iinc 6 1, 3) := by decide +kernel
theorem dR_match_74 : decode cR_match 74 = .ok (.goto (-57), 3) := by decide +kernel
theorem dR_match_77 : decode cR_match 77 = .ok (.aload_n 0, 1) := by decide +kernel
theorem dR_match_78 : decode cR_match 78 = .ok (.iload 6, 2) := by decide +kernel
theorem dR_match_80 : decode cR_match 80 = .ok (.iload 4, 2) := by decide +kernel
theorem dR_match_82 : decode cR_match 82 = .ok (.if_icmp .le 8, 3) := by decide +kernel
theorem dR_match_85 : decode cR_match 85 = .ok (.iload 5, 2) := by decide +kernel
theorem dR_match_87 : decode cR_match 87 = .ok (.goto 7, 3) := by decide +kernel
theorem dR_match_90 : decode cR_match 90 = .ok (.aload_n 0, 1) := by decide +kernel
theorem dR_match_91 : decode cR_match 91 = .ok (.getfield 83, 3) := by decide +kernel
theorem dR_match_94 : decode cR_match 94 = .ok (.putfield 83, 3) := by decide +kernel
theorem dR_match_97 : decode cR_match 97 = .ok (.iload 6, 2) := by decide +kernel
theorem dR_match_99 : decode cR_match 99 = .ok (.iload 4, 2) := by decide +kernel
theorem dR_match_101 : decode cR_match 101 = .ok (.if_icmp .le 8, 3) := by decide +kernel
theorem dR_match_104 : decode cR_match 104 = .ok (.iload 6, 2) := by decide +kernel
theorem dR_match_106 : decode cR_match 106 = .ok (.goto 5, 3) := by decide +kernel
theorem dR_match_109 : decode cR_match 109 = .ok (.iload 4, 2) := by decide +kernel
theorem dR_match_111 : decode cR_match 111 = .ok (.istore 4, 2) := by decide +kernel
theorem dR_match_113 : decode cR_match 113 = .ok (.iinc 5 1, 3) := by decide +kernel
theorem dR_match_116 : decode cR_match 116 = .ok (.goto (-110), 3) := by decide +kernel
theorem dR_match_119 : decode cR_match 119 = .ok (.iload 4, 2) := by decide +kernel
theorem dR_match_121 : decode cR_match 121 = .ok (.iconst 2, 1) := by decide +kernel
theorem dR_match_122 : decode cR_match 122 = .ok (.if_icmp .le 8, 3) := by decide +kernel
theorem dR_match_125 : decode cR_match 125 = .ok (.iload 4, 2) := by decide +kernel
theorem dR_match_127 : decode cR_match 127 = .ok (.goto 4, 3) := by decide +kernel
theorem dR_match_130 : decode cR_match 130 = .ok (.iconst 0, 1) := by decide +kernel
theorem dR_match_131 : decode cR_match 131 = .ok (.ireturn, 1) := by decide +kernel
theorem dR_token_0 : decode cR_token 0 = .ok (.aload_n 0, 1) := by decide +kernel
theorem dR_token_1 : decode cR_token 1 = .ok (.getfield 45, 3) := by decide +kernel
theorem dR_token_4 : decode cR_token 4 = .ok (.iload_n 1, 1) := by decide +kernel
theorem dR_token_5 : decode cR_token 5 = .ok (.aload_n 0, 1) := by decide +kernel
theorem dR_token_6 : decode cR_token 6 = .ok (.getfield 86, 3) := by decide +kernel
theorem dR_token_9 : decode cR_token 9 = .ok (.iadd, 1) := by decide +kernel
theorem dR_token_10 : decode cR_token 10 = .ok (.bipush 16, 2) := by decide +kernel
theorem dR_token_12 : decode cR_token 12 = .ok (.iload 4, 2) := by decide +kernel
theorem dR_token_14 : decode cR_token 14 = .ok (.imul, 1) := by decide +kernel
theorem dR_token_15 : decode cR_token 15 = .ok (.iload 5, 2) := by decide +kernel
theorem dR_token_17 : decode cR_token 17 = .ok (.ifCond .le 10, 3) := by decide +kernel
theorem dR_token_20 : decode cR_token 20 = .ok (.iload 5, 2) := by decide +kernel
theorem dR_token_22 : decode cR_token 22 = .ok (.iconst 2, 1) := by decide +kernel
theorem dR_token_23 : decode cR_token 23 = .ok (.isub, 1) := by decide +kernel
theorem dR_token_24 : decode cR_token 24 = .ok (.goto 4, 3) := by decide +kernel
theorem dR_token_27 : decode cR_token 27 = .ok (.iconst 0, 1) := by decide +kernel
theorem dR_token_28 : decode cR_token 28 = .ok (.iadd, 1) := by decide +kernel
theorem dR_token_29 : decode cR_token 29 = .ok (.iastore, 1) := by decide +kernel
theorem dR_token_30 : decode cR_token 30 = .ok (.iconst 0, 1) := by decide +kernel
theorem dR_token_31 : decode cR_token 31 = .ok (.istore 6, 2) := by decide +kernel
theorem dR_token_33 : decode cR_token 33 = .ok (.iload 6, 2) := by decide +kernel
theorem dR_token_35 : decode cR_token 35 = .ok (.iload 4, 2) := by decide +kernel
theorem dR_token_37 : decode cR_token 37 = .ok (.if_icmp .ge 39, 3) := by decide +kernel
theorem dR_token_40 : decode cR_token 40 = .ok (.aload_n 0, 1) := by decide +kernel
theorem dR_token_41 : decode cR_token 41 = .ok (.getfield 45, 3) := by decide +kernel
theorem dR_token_44 : decode cR_token 44 = .ok (.iload_n 1, 1) := by decide +kernel
theorem dR_token_45 : decode cR_token 45 = .ok (.aload_n 0, 1) := by decide +kernel
theorem dR_token_46 : decode cR_token 46 = .ok (.getfield 86, 3) := by decide +kernel
theorem dR_token_49 : decode cR_token 49 = .ok (.iadd, 1) := by decide +kernel
theorem dR_token_50 : decode cR_token 50 = .ok (.iconst 1, 1) := by decide +kernel
theorem dR_token_51 : decode cR_token 51 = .ok (.iadd, 1) := by decide +kernel
theorem dR_token_52 : decode cR_token 52 = .ok (.iload 6, 2) := by decide +kernel
theorem dR_token_54 : decode cR_token 54 = .ok (.iadd, 1) := by decide +kernel
theorem dR_token_55 : decode cR_token 55 = .ok (.aload_n 0, 1) := by decide +kernel
theorem dR_token_56 : decode cR_token 56 = .ok (.getfield 20, 3) := by decide +kernel
theorem dR_token_59 : decode cR_token 59 = .ok (.bipush 60, 2) := by decide +kernel
theorem dR_token_61 : decode cR_token 61 = .ok (.iload_n 2, 1) := by decide +kernel
theorem dR_token_62 : decode cR_token 62 = .ok (.imul, 1) := by decide +kernel
theorem dR_token_63 : decode cR_token 63 = .ok (.iload_n 3, 1) := by decide +kernel
theorem dR_token_64 : decode cR_token 64 = .ok (.iadd, 1) := by decide +kernel
theorem dR_token_65 : decode cR_token 65 = .ok (.iload 6, 2) := by decide +kernel
theorem dR_token_67 : decode cR_token 67 = .ok (.iadd, 1) := by decide +kernel
theorem dR_token_68 : decode cR_token 68 = .ok (.iaload, 1) := by decide +kernel
theorem dR_token_69 : decode cR_token 69 = .ok (.iastore, 1) := by decide +kernel
theorem dR_token_70 : decode cR_token 70 = .ok (.iinc 6 1, 3) := by decide +kernel
theorem dR_token_73 : decode cR_token 73 = .ok (.goto (-40), 3) := by decide +kernel
theorem dR_token_76 : decode cR_token 76 = .ok (.aload_n 0, 1) := by decide +kernel
theorem dR_token_77 : decode cR_token 77 = .ok (.dup, 1) := by decide +kernel
theorem dR_token_78 : decode cR_token 78 = .ok (.getfield 86, 3) := by decide +kernel
theorem dR_token_81 : decode cR_token 81 = .ok (.iconst 1, 1) := by decide +kernel
theorem dR_token_82 : decode cR_token 82 = .ok (.iload 4, 2) := by decide +kernel
theorem dR_token_84 : decode cR_token 84 = .ok (.iadd, 1) := by decide +kernel
theorem dR_token_85 : decode cR_token 85 = .ok (.iadd, 1) := by decide +kernel
theorem dR_token_86 : decode cR_token 86 = .ok (.putfield 86, 3) := by decide +kernel
theorem dR_token_89 : decode cR_token 89 = .ok (.iload 5, 2) := by decide +kernel
theorem dR_token_91 : decode cR_token 91 = .ok (.ifCond .ne 4, 3) := by decide +kernel
theorem dR_token_94 : decode cR_token 94 = .ok (.return_, 1) := by decide +kernel
theorem dR_token_95 : decode cR_token 95 = .ok (.aload_n 0, 1) := by decide +kernel
theorem dR_token_96 : decode cR_token 96 = .ok (.getfield 45, 3) := by decide +kernel
theorem dR_token_99 : decode cR_token 99 = .ok (.iload_n 1, 1) := by decide +kernel
theorem dR_token_100 : decode cR_token 100 = .ok (.aload_n 0, 1) := by decide +kernel
theorem dR_token_101 : decode cR_token 101 = .ok (.getfield 86, 3) := by decide +kernel
theorem dR_token_104 : decode cR_token 104 = .ok (.iadd, 1) := by decide +kernel
theorem dR_token_105 : decode cR_token 105 = .ok (.aload_n 0, 1) := by decide +kernel
theorem dR_token_106 : decode cR_token 106 = .ok (.getfield 83, 3) := by decide +kernel
theorem dR_token_109 : decode cR_token 109 = .ok (.iastore, 1) := by decide +kernel
theorem dR_token_110 : decode cR_token 110 = .ok (.aload_n 0, 1) := by decide +kernel
theorem dR_token_111 : decode cR_token 111 = .ok (.dup, 1) := by decide +kernel
theorem dR_token_112 : decode cR_token 112 = .ok (.getfield 86, 3) := by decide +kernel
theorem dR_token_115 : decode cR_token 115 = .ok (.iconst 1, 1) := by decide +kernel
theorem dR_token_116 : decode cR_token 116 = .ok (.iadd, 1) := by decide +kernel
theorem dR_token_117 : decode cR_token 117 = .ok (.putfield 86, 3) := by decide +kernel
theorem dR_token_120 : decode cR_token 120 = .ok (.return_, 1) := by decide +kernel
