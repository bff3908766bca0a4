theorem dCl_takeToken_0 : decode cCl_takeToken 0 = .ok (.aload_n 0, 1) := by decide +kernel
theorem dCl_takeToken_1 : decode cCl_takeToken 1 = .ok (.getfield 22, 3) := by decide +kernel
theorem dCl_takeToken_4 : decode cCl_takeToken 4 = .ok (.bipush 16, 2) := by decide +kernel
theorem dCl_takeToken_6 : decode cCl_takeToken 6 = .ok (.if_icmp .ge 14, 3) := by decide +kernel
theorem dCl_takeToken_9 : decode cCl_takeToken 9 = .ok (.aload_n 1, 1) := by decide +kernel
theorem dCl_takeToken_10 : decode cCl_takeToken 10 = .ok (.iload_n 2, 1) := by decide +kernel
theorem dCl_takeToken_11 : decode cCl_takeToken 11 = .ok (.aload_n 0, 1) := by decide +kernel
theorem dCl_takeToken_12 : decode cCl_takeToken 12 = .ok (.getfield 22, 3) := by decide +kernel
theorem dCl_takeToken_15 : decode cCl_takeToken 15 = .ok (.iadd, 1) := by decide +kernel
theorem dCl_takeToken_16 : decode cCl_takeToken 16 = .ok (.iaload, 1) := by decide +kernel
theorem dCl_takeToken_17 : decode cCl_takeToken 17 = .ok (.ifCond .ne 5, 3) := by decide +kernel
theorem dCl_takeToken_20 : decode cCl_takeToken 20 = .ok (.iconst 0, 1) := by decide +kernel
theorem dCl_takeToken_21 : decode cCl_takeToken 21 = .ok (.ireturn, 1) := by decide +kernel
theorem dCl_takeToken_22 : decode cCl_takeToken 22 = .ok (.aload_n 1, 1) := by decide +kernel
theorem dCl_takeToken_23 : decode cCl_takeToken 23 = .ok (.iload_n 2, 1) := by decide +kernel
theorem dCl_takeToken_24 : decode cCl_takeToken 24 = .ok (.aload_n 0, 1) := by decide +kernel
theorem dCl_takeToken_25 : decode cCl_takeToken 25 = .ok (.getfield 22, 3) := by decide +kernel
theorem dCl_takeToken_28 : decode cCl_takeToken 28 = .ok (.iadd, 1) := by decide +kernel
theorem dCl_takeToken_29 : decode cCl_takeToken 29 = .ok (.iaload, 1) := by decide +kernel
theorem dCl_takeToken_30 : decode cCl_takeToken 30 = .ok (.istore 4, 2) := by decide +kernel
theorem dCl_takeToken_32 : decode cCl_takeToken 32 = .ok (.aload_n 0, 1) := by decide +kernel
theorem dCl_takeToken_33 : decode cCl_takeToken 33 = .ok (.dup, 1) := by decide +kernel
theorem dCl_takeToken_34 : decode cCl_takeToken 34 = .ok (.getfield 22, 3) := by decide +kernel
theorem dCl_takeToken_37 : decode cCl_takeToken 37 = .ok (.iconst 1, 1) := by decide +kernel
theorem dCl_takeToken_38 : decode cCl_takeToken 38 = .ok (.iadd, 1) := by decide +kernel
theorem dCl_takeToken_39 : decode cCl_takeToken 39 = .ok (.putfield 22, 3) := by decide +kernel
theorem dCl_takeToken_42 : decode cCl_takeToken 42 = .ok (.aload_n 0, 1) := by decide +kernel
theorem dCl_takeToken_43 : decode cCl_takeToken 43 = .ok (.aload_n 1, 1) := by decide +kernel
theorem dCl_takeToken_44 : decode cCl_takeToken 44 = .ok (.iload_n 2, 1) := by decide +kernel
theorem dCl_takeToken_45 : decode cCl_takeToken 45 = .ok (.iload 4, 2) := by decide +kernel
theorem dCl_takeToken_47 : decode cCl_takeToken 47 = .ok (.iconst 4, 1) := by decide +kernel
theorem dCl_takeToken_48 : decode cCl_takeToken 48 = .ok (.ishr, 1) := by decide +kernel
theorem dCl_takeToken_49 : decode cCl_takeToken 49 = .ok (.iload_n 3, 1) := by decide +kernel
theorem dCl_takeToken_50 : decode cCl_takeToken 50 = .ok (.aload_n 0, 1) := by decide +kernel
theorem dCl_takeToken_51 : decode cCl_takeToken 51 = .ok (.getfield 19, 3) := by decide +kernel
theorem dCl_takeToken_54 : decode cCl_takeToken 54 = .ok (.isub, 1) := by decide +kernel
theorem dCl_takeToken_55 : decode cCl_takeToken 55 = .ok (.invokestatic 29, 3) := by decide +kernel
theorem dCl_takeToken_58 : decode cCl_takeToken 58 = .ok (.invokevirtual 35, 3) := by decide +kernel
theorem dCl_takeToken_61 : decode cCl_takeToken 61 = .ok (.ifCond .ne 5, 3) := by decide +kernel
theorem dCl_takeToken_64 : decode cCl_takeToken 64 = .ok (.iconst 0, 1) := by decide +kernel
theorem dCl_takeToken_65 : decode cCl_takeToken 65 = .ok (.ireturn, 1) := by decide +kernel
theorem dCl_takeToken_66 : decode cCl_takeToken 66 = .ok (.iload 4, 2) := by decide +kernel
theorem dCl_takeToken_68 : decode cCl_takeToken 68 = .ok (.bipush 15, 2) := by decide +kernel
theorem dCl_takeToken_70 : decode cCl_takeToken 70 = .ok (.iand, 1) := by decide +kernel
theorem dCl_takeToken_71 : decode cCl_takeToken 71 = .ok (.istore 5, 2) := by decide +kernel
theorem dCl_takeToken_73 : decode cCl_takeToken 73 = .ok (.iload 5, 2) := by decide +kernel
theorem dCl_takeToken_75 : decode cCl_takeToken 75 = .ok (.ifCond .eq 33, 3) := by decide +kernel
theorem dCl_takeToken_78 : decode cCl_takeToken 78 = .ok (.aload_n 0, 1) := by decide +kernel
theorem dCl_takeToken_79 : decode cCl_takeToken 79 = .ok (.getfield 19, 3) := by decide +kernel
theorem dCl_takeToken_82 : decode cCl_takeToken 82 = .ok (.iload_n 3, 1) := by decide +kernel
theorem dCl_takeToken_83 : decode cCl_takeToken 83 = .ok (.if_icmp .ge 25, 3) := by decide +kernel
theorem dCl_takeToken_86 : decode cCl_takeToken 86 = .ok (.aload_n 0, 1) := by decide +kernel
theorem dCl_takeToken_87 : decode cCl_takeToken 87 = .ok (.aload_n 1, 1) := by decide +kernel
theorem dCl_takeToken_88 : decode cCl_takeToken 88 = .ok (.iload_n 2, 1) := by decide +kernel
theorem dCl_takeToken_89 : decode cCl_takeToken 89 = .ok (.iload 5, 2) := by decide +kernel
theorem dCl_takeToken_91 : decode cCl_takeToken 91 = .ok (.iconst 2, 1) := by decide +kernel
theorem dCl_takeToken_92 : decode cCl_takeToken 92 = .ok (.iadd, 1) := by decide +kernel
theorem dCl_takeToken_93 : decode cCl_takeToken 93 = .ok (.iload_n 3, 1) := by decide +kernel
theorem dCl_takeToken_94 : decode cCl_takeToken 94 = .ok (.aload_n 0, 1) := by decide +kernel
theorem dCl_takeToken_95 : decode cCl_takeToken 95 = .ok (.getfield 19, 3) := by decide +kernel
theorem dCl_takeToken_98 : decode cCl_takeToken 98 = .ok (.isub, 1) := by decide +kernel
theorem dCl_takeToken_99 : decode cCl_takeToken 99 = .ok (.invokestatic 29, 3) := by decide +kernel
theorem dCl_takeToken_102 : decode cCl_takeToken 102 = .ok (.invokevirtual 38, 3) := by decide +kernel
theorem dCl_takeToken_105 : decode cCl_takeToken 105 = .ok (.ifCond .eq 7, 3) := by decide +kernel
theorem dCl_takeToken_108 : decode cCl_takeToken 108 = .ok (.iconst 1, 1) := by decide +kernel
theorem dCl_takeToken_109 : decode cCl_takeToken 109 = .ok (.goto 4, 3) := by decide +kernel
theorem dCl_takeToken_112 : decode cCl_takeToken 112 = .ok (.iconst 0, 1) := by decide +kernel
theorem dCl_takeToken_113 : decode cCl_takeToken 113 = .ok (.ireturn, 1) := by decide +kernel
theorem dCl_takeLiterals_0 : decode cCl_takeLiterals 0 = .ok (.aload_n 0, 1) := by decide +kernel
theorem dCl_takeLiterals_1 : decode cCl_takeLiterals 1 = .ok (.getfield 22, 3) := by decide +kernel
theorem dCl_takeLiterals_4 : decode cCl_takeLiterals 4 = .ok (.iload_n 3, 1) := by decide +kernel
theorem dCl_takeLiterals_5 : decode cCl_takeLiterals 5 = .ok (.iadd, 1) := by decide +kernel
theorem dCl_takeLiterals_6 : decode cCl_takeLiterals 6 = .ok (.bipush 16, 2) := by decide +kernel
theorem dCl_takeLiterals_8 : decode cCl_takeLiterals 8 = .ok (.if_icmp .le 5, 3) := by decide +kernel
theorem dCl_takeLiterals_11 : decode cCl_takeLiterals 11 = .ok (.iconst 0, 1) := by decide +kernel
theorem dCl_takeLiterals_12 : decode cCl_takeLiterals 12 = .ok (.ireturn, 1) := by decide +kernel
theorem dCl_takeLiterals_13 : decode cCl_takeLiterals 13 = .ok (.iconst 0, 1) := by decide +kernel
theorem dCl_takeLiterals_14 : decode cCl_takeLiterals 14 = .ok (.istore 4, 2) := by decide +kernel
theorem dCl_takeLiterals_16 : decode cCl_takeLiterals 16 = .ok (.iload 4, 2) := by decide +kernel
theorem dCl_takeLiterals_18 : decode cCl_takeLiterals 18 = .ok (.iload_n 3, 1) := by decide +kernel
theorem dCl_takeLiterals_19 : decode cCl_takeLiterals 19 = .ok (.if_icmp .ge 46, 3) := by decide +kernel
theorem dCl_takeLiterals_22 : decode cCl_takeLiterals 22 = .ok (.aload_n 0, 1) := by decide +kernel
theorem dCl_takeLiterals_23 : decode cCl_takeLiterals 23 = .ok (.getfield 9, 3) := by decide +kernel
theorem dCl_takeLiterals_26 : decode cCl_takeLiterals 26 = .ok (.aload_n 0, 1) := by decide +kernel
theorem dCl_takeLiterals_27 : decode cCl_takeLiterals 27 = .ok (.getfield 19, 3) := by decide +kernel
theorem dCl_takeLiterals_30 : decode cCl_takeLiterals 30 = .ok (.aload_n 1, 1) := by decide +kernel
theorem dCl_takeLiterals_31 : decode cCl_takeLiterals 31 = .ok (.iload_n 2, 1) := by decide +kernel
theorem dCl_takeLiterals_32 : decode cCl_takeLiterals 32 = .ok (.aload_n 0, 1) := by decide +kernel
theorem dCl_takeLiterals_33 : decode cCl_takeLiterals 33 = .ok (.getfield 22, 3) := by decide +kernel
theorem dCl_takeLiterals_36 : decode cCl_takeLiterals 36 = .ok (.iadd, 1) := by decide +kernel
theorem dCl_takeLiterals_37 : decode cCl_takeLiterals 37 = .ok (.iaload, 1) := by decide +kernel
theorem dCl_takeLiterals_38 : decode cCl_takeLiterals 38 = .ok (.iastore, 1) := by decide +kernel
theorem dCl_takeLiterals_39 : decode cCl_takeLiterals 39 = .ok (.aload_n 0, 1) := by decide +kernel
theorem dCl_takeLiterals_40 : decode cCl_takeLiterals 40 = .ok (.dup, 1) := by decide +kernel
theorem dCl_takeLiterals_41 : decode cCl_takeLiterals 41 = .ok (.getfield 19, 3) := by decide +kernel
theorem dCl_takeLiterals_44 : decode cCl_takeLiterals 44 = .ok (.iconst 1, 1) := by decide +kernel
theorem dCl_takeLiterals_45 : decode cCl_takeLiterals 45 = .ok (.iadd, 1) := by decide +kernel
theorem dCl_takeLiterals_46 : decode cCl_takeLiterals 46 = .ok (.putfield 19, 3) := by decide +kernel
theorem dCl_takeLiterals_49 : decode cCl_takeLiterals 49 = .ok (.aload_n 0, 1) := by decide +kernel
theorem dCl_takeLiterals_50 : decode cCl_takeLiterals 50 = .ok (.dup, 1) := by decide +kernel
theorem dCl_takeLiterals_51 : decode cCl_takeLiterals 51 = .ok (.getfield 22, 3) := by decide +kernel
theorem dCl_takeLiterals_54 : decode cCl_takeLiterals 54 = .ok (.iconst 1, 1) := by decide +kernel
theorem dCl_takeLiterals_55 : decode cCl_takeLiterals 55 = .ok (.iadd, 1) := by decide +kernel
theorem dCl_takeLiterals_56 : decode cCl_takeLiterals 56 = .ok (.putfield 22, 3) := by decide +kernel
theorem dCl_takeLiterals_59 : decode cCl_takeLiterals 59 = .ok (.iinc 4 1, 3) := by decide +kernel
theorem dCl_takeLiterals_62 : decode cCl_takeLiterals 62 = .ok (.goto (-46), 3) := by decide +kernel
theorem dCl_takeLiterals_65 : decode cCl_takeLiterals 65 = .ok (.iconst 1, 1) := by decide +kernel
theorem dCl_takeLiterals_66 : decode cCl_takeLiterals 66 = .ok (.ireturn, 1) := by decide +kernel
theorem dCl_takeMatch_0 : decode cCl_takeMatch 0 = .ok (.aload_n 0, 1) := by decide +kernel
theorem dCl_takeMatch_1 : decode cCl_takeMatch 1 = .ok (.getfield 22, 3) := by decide +kernel
theorem dCl_takeMatch_4 : decode cCl_takeMatch 4 = .ok (.bipush 16, 2) := by decide +kernel
theorem dCl_takeMatch_6 : decode cCl_takeMatch 6 = .ok (.if_icmp .lt 5, 3) := by decide +kernel
theorem dCl_takeMatch_9 : decode cCl_takeMatch 9 = .ok (.iconst 0, 1) := by decide +kernel
theorem dCl_takeMatch_10 : decode cCl_takeMatch 10 = .ok (.ireturn, 1) := by decide +kernel
theorem dCl_takeMatch_11 : decode cCl_takeMatch 11 = .ok (.aload_n 1, 1) := by decide +kernel
theorem dCl_takeMatch_12 : decode cCl_takeMatch 12 = .ok (.iload_n 2, 1) := by decide +kernel
theorem dCl_takeMatch_13 : decode cCl_takeMatch 13 = .ok (.aload_n 0, 1) := by decide +kernel
theorem dCl_takeMatch_14 : decode cCl_takeMatch 14 = .ok (.getfield 22, 3) := by decide +kernel
theorem dCl_takeMatch_17 : decode cCl_takeMatch 17 = .ok (.iadd, 1) := by decide +kernel
theorem dCl_takeMatch_18 : decode cCl_takeMatch 18 = .ok (.iaload, 1) := by decide +kernel
theorem dCl_takeMatch_19 : decode cCl_takeMatch 19 = .ok (.istore 4, 2) := by decide +kernel
theorem dCl_takeMatch_21 : decode cCl_takeMatch 21 = .ok (.aload_n 0, 1) := by decide +kernel
theorem dCl_takeMatch_22 : decode cCl_takeMatch 22 = .ok (.dup, 1) := by decide +kernel
theorem dCl_takeMatch_23 : decode cCl_takeMatch 23 = .ok (.getfield 22, 3) := by decide +kernel
theorem dCl_takeMatch_26 : decode cCl_takeMatch 26 = .ok (.iconst 1, 1) := by decide +kernel
theorem dCl_takeMatch_27 : decode cCl_takeMatch 27 = .ok (.iadd, 1) := by decide +kernel
theorem dCl_takeMatch_28 : decode cCl_takeMatch 28 = .ok (.putfield 22, 3) := by decide +kernel
theorem dCl_takeMatch_31 : decode cCl_takeMatch 31 = .ok (.iload 4, 2) := by decide +kernel
theorem dCl_takeMatch_33 : decode cCl_takeMatch 33 = .ok (.ifCond .eq 12, 3) := by decide +kernel
theorem dCl_takeMatch_36 : decode cCl_takeMatch 36 = .ok (.iload 4, 2) := by decide +kernel
theorem dCl_takeMatch_38 : decode cCl_takeMatch 38 = .ok (.aload_n 0, 1) := by decide +kernel
theorem dCl_takeMatch_39 : decode cCl_takeMatch 39 = .ok (.getfield 19, 3) := by decide +kernel
theorem dCl_takeMatch_42 : decode cCl_takeMatch 42 = .ok (.if_icmp .le 5, 3) := by decide +kernel
theorem dCl_takeMatch_45 : decode cCl_takeMatch 45 = .ok (.iconst 0, 1) := by decide +kernel
theorem dCl_takeMatch_46 : decode cCl_takeMatch 46 = .ok (.ireturn, 1) := by decide +kernel
theorem dCl_takeMatch_47 : decode cCl_takeMatch 47 = .ok (.iconst 0, 1) := by decide +kernel
theorem dCl_takeMatch_48 : decode cCl_takeMatch 48 = .ok (.istore 5, 2) := by decide +kernel
theorem dCl_takeMatch_50 : decode cCl_takeMatch 50 = .ok (.iload 5, 2) := by decide +kernel
theorem dCl_takeMatch_52 : decode cCl_takeMatch 52 = .ok (.iload_n 3, 1) := by decide +kernel
theorem dCl_takeMatch_53 : decode cCl_takeMatch 53 = .ok (.if_icmp .ge 40, 3) := by decide +kernel
theorem dCl_takeMatch_56 : decode cCl_takeMatch 56 = .ok (.aload_n 0, 1) := by decide +kernel
theorem dCl_takeMatch_57 : decode cCl_takeMatch 57 = .ok (.getfield 9, 3) := by decide +kernel
theorem dCl_takeMatch_60 : decode cCl_takeMatch 60 = .ok (.aload_n 0, 1) := by decide +kernel
theorem dCl_takeMatch_61 : decode cCl_takeMatch 61 = .ok (.getfield 19, 3) := by decide +kernel
theorem dCl_takeMatch_64 : decode cCl_takeMatch 64 = .ok (.aload_n 0, 1) := by decide +kernel
theorem dCl_takeMatch_65 : decode cCl_takeMatch 65 = .ok (.getfield 9, 3) := by decide +kernel
theorem dCl_takeMatch_68 : decode cCl_takeMatch 68 = .ok (.aload_n 0, 1) := by decide +kernel
theorem dCl_takeMatch_69 : decode cCl_takeMatch 69 = .ok (.getfield 19, 3) := by decide +kernel
theorem dCl_takeMatch_72 : decode cCl_takeMatch 72 = .ok (.iload 4, 2) := by decide +kernel
theorem dCl_takeMatch_74 : decode cCl_takeMatch 74 = .ok (.isub, 1) := by decide +kernel
theorem dCl_takeMatch_75 : decode cCl_takeMatch 75 = .ok (.iaload, 1) := by decide +kernel
theorem dCl_takeMatch_76 : decode cCl_takeMatch 76 = .ok (.iastore, 1) := by decide +kernel
theorem dCl_takeMatch_77 : decode cCl_takeMatch 77 = .ok (.aload_n 0, 1) := by decide +kernel
theorem dCl_takeMatch_78 : decode cCl_takeMatch 78 = .ok (.dup, 1) := by decide +kernel
theorem dCl_takeMatch_79 : decode cCl_takeMatch 79 = .ok (.getfield 19, 3) := by decide +kernel
theorem dCl_takeMatch_82 : decode cCl_takeMatch 82 = .ok (.iconst 1, 1) := by decide +kernel
theorem dCl_takeMatch_83 : decode cCl_takeMatch 83 = .ok (.iadd, 1) := by decide +kernel
theorem dCl_takeMatch_84 : decode cCl_takeMatch 84 = .ok (.putfield 19, 3) := by decide +kernel
theorem dCl_takeMatch_87 : decode cCl_takeMatch 87 = .ok (.iinc 5 1, 3) := by decide +kernel
theorem dCl_takeMatch_90 : decode cCl_takeMatch 90 = .ok (.goto (-40), 3) := by decide +kernel
theorem dCl_takeMatch_93 : decode cCl_takeMatch 93 = .ok (.iconst 1, 1) := by decide +kernel
theorem dCl_takeMatch_94 : decode cCl_takeMatch 94 = .ok (.ireturn, 1) := by decide +kernel
theorem dDe_byteAt_0 : decode cDe_byteAt 0 = .ok (.iload_n 1, 1) := by decide +kernel
theorem dDe_byteAt_1 : decode cDe_byteAt 1 = .ok (.ifCond .lt 19, 3) := by decide +kernel
theorem dDe_byteAt_4 : decode cDe_byteAt 4 = .ok (.iload_n 1, 1) := by decide +kernel
theorem dDe_byteAt_5 : decode cDe_byteAt 5 = .ok (.sipush 1024, 3) := by decide +kernel
theorem dDe_byteAt_8 : decode cDe_byteAt 8 = .ok (.if_icmp .ge 12, 3) := by decide +kernel
theorem dDe_byteAt_11 : decode cDe_byteAt 11 = .ok (.aload_n 0, 1) := by decide +kernel
theorem dDe_byteAt_12 : decode cDe_byteAt 12 = .ok (.getfield 9, 3) := by decide +kernel
theorem dDe_byteAt_15 : decode cDe_byteAt 15 = .ok (.iload_n 1, 1) := by decide +kernel
theorem dDe_byteAt_16 : decode cDe_byteAt 16 = .ok (.iaload, 1) := by decide +kernel
theorem dDe_byteAt_17 : decode cDe_byteAt 17 = .ok (.goto 4, 3) := by decide +kernel
theorem dDe_byteAt_20 : decode cDe_byteAt 20 = .ok (.iconst 0, 1) := by decide +kernel
theorem dDe_byteAt_21 : decode cDe_byteAt 21 = .ok (.ireturn, 1) := by decide +kernel
theorem dDe_put_0 : decode cDe_put 0 = .ok (.iload_n 1, 1) := by decide +kernel
theorem dDe_put_1 : decode cDe_put 1 = .ok (.ifCond .lt 17, 3) := by decide +kernel
theorem dDe_put_4 : decode cDe_put 4 = .ok (.iload_n 1, 1) := by decide +kernel
theorem dDe_put_5 : decode cDe_put 5 = .ok (.sipush 1024, 3) := by decide +kernel
theorem dDe_put_8 : decode cDe_put 8 = .ok (.if_icmp .ge 10, 3) := by decide +kernel
theorem dDe_put_11 : decode cDe_put 11 = .ok (.aload_n 0, 1) := by decide +kernel
theorem dDe_put_12 : decode cDe_put 12 = .ok (.getfield 9, 3) := by decide +kernel
theorem dDe_put_15 : decode cDe_put 15 = .ok (.iload_n 1, 1) := by decide +kernel
theorem dDe_put_16 : decode cDe_put 16 = .ok (.iload_n 2, 1) := by decide +kernel
theorem dDe_put_17 : decode cDe_put 17 = .ok (.iastore, 1) := by decide +kernel
theorem dDe_put_18 : decode cDe_put 18 = .ok (.aload_n 0, 1) := by decide +kernel
theorem dDe_put_19 : decode cDe_put 19 = .ok (.iconst 0, 1) := by decide +kernel
theorem dDe_put_20 : decode cDe_put 20 = .ok (.putfield 19, 3) := by decide +kernel
theorem dDe_put_23 : decode cDe_put 23 = .ok (.return_, 1) := by decide +kernel
theorem dDe_takeOver_0 : decode cDe_takeOver 0 = .ok (.aload_n 1, 1) := by decide +kernel
theorem dDe_takeOver_1 : decode cDe_takeOver 1 = .ok (.iconst 0, 1) := by decide +kernel
theorem dDe_takeOver_2 : decode cDe_takeOver 2 = .ok (.aload_n 0, 1) := by decide +kernel
theorem dDe_takeOver_3 : decode cDe_takeOver 3 = .ok (.getfield 9, 3) := by decide +kernel
theorem dDe_takeOver_6 : decode cDe_takeOver 6 = .ok (.iconst 0, 1) := by decide +kernel
theorem dDe_takeOver_7 : decode cDe_takeOver 7 = .ok (.sipush 1024, 3) := by decide +kernel
theorem dDe_takeOver_10 : decode cDe_takeOver 10 = .ok (.invokestatic 23, 3) := by decide +kernel
theorem dDe_takeOver_13 : decode cDe_takeOver 13 = .ok (.aload_n 0, 1) := by decide +kernel
theorem dDe_takeOver_14 : decode cDe_takeOver 14 = .ok (.iconst 0, 1) := by decide +kernel
theorem dDe_takeOver_15 : decode cDe_takeOver 15 = .ok (.putfield 19, 3) := by decide +kernel
theorem dDe_takeOver_18 : decode cDe_takeOver 18 = .ok (.return_, 1) := by decide +kernel
theorem dDe_renewCheck_0 : decode cDe_renewCheck 0 = .ok (.aload_n 0, 1) := by decide +kernel
theorem dDe_renewCheck_1 : decode cDe_renewCheck 1 = .ok (.getfield 9, 3) := by decide +kernel
theorem dDe_renewCheck_4 : decode cDe_renewCheck 4 = .ok (.invokestatic 29, 3) := by decide +kernel
theorem dDe_renewCheck_7 : decode cDe_renewCheck 7 = .ok (.aload_n 0, 1) := by decide +kernel
theorem dDe_renewCheck_8 : decode cDe_renewCheck 8 = .ok (.iconst 0, 1) := by decide +kernel
theorem dDe_renewCheck_9 : decode cDe_renewCheck 9 = .ok (.putfield 19, 3) := by decide +kernel
theorem dDe_renewCheck_12 : decode cDe_renewCheck 12 = .ok (.return_, 1) := by decide +kernel
theorem dDe_open_0 : decode cDe_open 0 = .ok (.aload_n 0, 1) := by decide +kernel
theorem dDe_open_1 : decode cDe_open 1 = .ok (.aload_n 0, 1) := by decide +kernel
theorem dDe_open_2 : decode cDe_open 2 = .ok (.invokevirtual 33, 3) := by decide +kernel
theorem dDe_open_5 : decode cDe_open 5 = .ok (.putfield 19, 3) := by decide +kernel
theorem dDe_open_8 : decode cDe_open 8 = .ok (.aload_n 0, 1) := by decide +kernel
theorem dDe_open_9 : decode cDe_open 9 = .ok (.getfield 19, 3) := by decide +kernel
theorem dDe_open_12 : decode cDe_open 12 = .ok (.ifCond .eq 27, 3) := by decide +kernel
theorem dDe_open_15 : decode cDe_open 15 = .ok (.aload_n 0, 1) := by decide +kernel
theorem dDe_open_16 : decode cDe_open 16 = .ok (.aload_n 0, 1) := by decide +kernel
theorem dDe_open_17 : decode cDe_open 17 = .ok (.getfield 9, 3) := by decide +kernel
theorem dDe_open_20 : decode cDe_open 20 = .ok (.iconst 3, 1) := by decide +kernel
theorem dDe_open_21 : decode cDe_open 21 = .ok (.iaload, 1) := by decide +kernel
theorem dDe_open_22 : decode cDe_open 22 = .ok (.putfield 37, 3) := by decide +kernel
theorem dDe_open_25 : decode cDe_open 25 = .ok (.aload_n 0, 1) := by decide +kernel
theorem dDe_open_26 : decode cDe_open 26 = .ok (.aload_n 0, 1) := by decide +kernel
theorem dDe_open_27 : decode cDe_open 27 = .ok (.getfield 9, 3) := by decide +kernel
theorem dDe_open_30 : decode cDe_open 30 = .ok (.iconst 4, 1) := by decide +kernel
theorem dDe_open_31 : decode cDe_open 31 = .ok (.iaload, 1) := by decide +kernel
theorem dDe_open_32 : decode cDe_open 32 = .ok (.putfield 41, 3) := by decide +kernel
theorem dDe_open_35 : decode cDe_open 35 = .ok (.aload_n 0, 1) := by decide +kernel
theorem dDe_open_36 : decode cDe_open 36 = .ok (.invokevirtual 44, 3) := by decide +kernel
theorem dDe_open_39 : decode cDe_open 39 = .ok (.aload_n 0, 1) := by decide +kernel
theorem dDe_open_40 : decode cDe_open 40 = .ok (.getfield 19, 3) := by decide +kernel
theorem dDe_open_43 : decode cDe_open 43 = .ok (.ireturn, 1) := by decide +kernel
theorem dDe_isHeaderRight_0 : decode cDe_isHeaderRight 0 = .ok (.aload_n 0, 1) := by decide +kernel
theorem dDe_isHeaderRight_1 : decode cDe_isHeaderRight 1 = .ok (.getfield 9, 3) := by decide +kernel
theorem dDe_isHeaderRight_4 : decode cDe_isHeaderRight 4 = .ok (.iconst 0, 1) := by decide +kernel
theorem dDe_isHeaderRight_5 : decode cDe_isHeaderRight 5 = .ok (.iaload, 1) := by decide +kernel
theorem dDe_isHeaderRight_6 : decode cDe_isHeaderRight 6 = .ok (.sipush 225, 3) := by decide +kernel
theorem dDe_isHeaderRight_9 : decode cDe_isHeaderRight 9 = .ok (.if_icmp .ne 107, 3) := by decide +kernel
theorem dDe_isHeaderRight_12 : decode cDe_isHeaderRight 12 = .ok (.aload_n 0, 1) := by decide +kernel
theorem dDe_isHeaderRight_13 : decode cDe_isHeaderRight 13 = .ok (.getfield 9, 3) := by decide +kernel
theorem dDe_isHeaderRight_16 : decode cDe_isHeaderRight 16 = .ok (.iconst 1, 1) := by decide +kernel
theorem dDe_isHeaderRight_17 : decode cDe_isHeaderRight 17 = .ok (.iaload, 1) := by decide +kernel
theorem dDe_isHeaderRight_18 : decode cDe_isHeaderRight 18 = .ok (.sipush 245, 3) := by decide +kernel
theorem dDe_isHeaderRight_21 : decode cDe_isHeaderRight 21 = .ok (.if_icmp .ne 95, 3) := by decide +kernel
theorem dDe_isHeaderRight_24 : decode cDe_isHeaderRight 24 = .ok (.aload_n 0, 1) := by decide +kernel
theorem dDe_isHeaderRight_25 : decode cDe_isHeaderRight 25 = .ok (.getfield 9, 3) := by decide +kernel
theorem dDe_isHeaderRight_28 : decode cDe_isHeaderRight 28 = .ok (.bipush 14, 2) := by decide +kernel
theorem dDe_isHeaderRight_30 : decode cDe_isHeaderRight 30 = .ok (.iaload, 1) := by decide +kernel
theorem dDe_isHeaderRight_31 : decode cDe_isHeaderRight 31 = .ok (.bipush 8, 2) := by decide +kernel
theorem dDe_isHeaderRight_33 : decode cDe_isHeaderRight 33 = .ok (.ishl, 1) := by decide +kernel
theorem dDe_isHeaderRight_34 : decode cDe_isHeaderRight 34 = .ok (.aload_n 0, 1) := by decide +kernel
theorem dDe_isHeaderRight_35 : decode cDe_isHeaderRight 35 = .ok (.getfield 9, 3) := by decide +kernel
theorem dDe_isHeaderRight_38 : decode cDe_isHeaderRight 38 = .ok (.bipush 15, 2) := by decide +kernel
theorem dDe_isHeaderRight_40 : decode cDe_isHeaderRight 40 = .ok (.iaload, 1) := by decide +kernel
theorem dDe_isHeaderRight_41 : decode cDe_isHeaderRight 41 = .ok (.ior, 1) := by decide +kernel
theorem dDe_isHeaderRight_42 : decode cDe_isHeaderRight 42 = .ok (.aload_n 0, 1) := by decide +kernel
theorem dDe_isHeaderRight_43 : decode cDe_isHeaderRight 43 = .ok (.getfield 9, 3) := by decide +kernel
theorem dDe_isHeaderRight_46 : decode cDe_isHeaderRight 46 = .ok (.invokestatic 47, 3) := by decide +kernel
theorem dDe_isHeaderRight_49 : decode cDe_isHeaderRight 49 = .ok (.if_icmp .ne 67, 3) := by decide +kernel
theorem dDe_isHeaderRight_52 : decode cDe_isHeaderRight 52 = .ok (.aload_n 0, 1) := by decide +kernel
theorem dDe_isHeaderRight_53 : decode cDe_isHeaderRight 53 = .ok (.getfield 9, 3) := by decide +kernel
theorem dDe_isHeaderRight_56 : decode cDe_isHeaderRight 56 = .ok (.iconst 2, 1) := by decide +kernel
theorem dDe_isHeaderRight_57 : decode cDe_isHeaderRight 57 = .ok (.iaload, 1) := by decide +kernel
theorem dDe_isHeaderRight_58 : decode cDe_isHeaderRight 58 = .ok (.bipush 7, 2) := by decide +kernel
theorem dDe_isHeaderRight_60 : decode cDe_isHeaderRight 60 = .ok (.if_icmp .gt 56, 3) := by decide +kernel
theorem dDe_isHeaderRight_63 : decode cDe_isHeaderRight 63 = .ok (.aload_n 0, 1) := by decide +kernel
theorem dDe_isHeaderRight_64 : decode cDe_isHeaderRight 64 = .ok (.getfield 9, 3) := by decide +kernel
theorem dDe_isHeaderRight_67 : decode cDe_isHeaderRight 67 = .ok (.iconst 4, 1) := by decide +kernel
theorem dDe_isHeaderRight_68 : decode cDe_isHeaderRight 68 = .ok (.iaload, 1) := by decide +kernel
theorem dDe_isHeaderRight_69 : decode cDe_isHeaderRight 69 = .ok (.iconst 1, 1) := by decide +kernel
theorem dDe_isHeaderRight_70 : decode cDe_isHeaderRight 70 = .ok (.if_icmp .lt 46, 3) := by decide +kernel
theorem dDe_isHeaderRight_73 : decode cDe_isHeaderRight 73 = .ok (.aload_n 0, 1) := by decide +kernel
theorem dDe_isHeaderRight_74 : decode cDe_isHeaderRight 74 = .ok (.getfield 9, 3) := by decide +kernel
theorem dDe_isHeaderRight_77 : decode cDe_isHeaderRight 77 = .ok (.iconst 4, 1) := by decide +kernel
theorem dDe_isHeaderRight_78 : decode cDe_isHeaderRight 78 = .ok (.iaload, 1) := by decide +kernel
theorem dDe_isHeaderRight_79 : decode cDe_isHeaderRight 79 = .ok (.bipush 64, 2) := by decide +kernel
theorem dDe_isHeaderRight_81 : decode cDe_isHeaderRight 81 = .ok (.if_icmp .gt 35, 3) := by decide +kernel
theorem dDe_isHeaderRight_84 : decode cDe_isHeaderRight 84 = .ok (.aload_n 0, 1) := by decide +kernel
theorem dDe_isHeaderRight_85 : decode cDe_isHeaderRight 85 = .ok (.getfield 9, 3) := by decide +kernel
theorem dDe_isHeaderRight_88 : decode cDe_isHeaderRight 88 = .ok (.iconst 3, 1) := by decide +kernel
theorem dDe_isHeaderRight_89 : decode cDe_isHeaderRight 89 = .ok (.iaload, 1) := by decide +kernel
theorem dDe_isHeaderRight_90 : decode cDe_isHeaderRight 90 = .ok (.iconst 1, 1) := by decide +kernel
theorem dDe_isHeaderRight_91 : decode cDe_isHeaderRight 91 = .ok (.if_icmp .lt 25, 3) := by decide +kernel
theorem dDe_isHeaderRight_94 : decode cDe_isHeaderRight 94 = .ok (.aload_n 0, 1) := by decide +kernel
theorem dDe_isHeaderRight_95 : decode cDe_isHeaderRight 95 = .ok (.getfield 9, 3) := by decide +kernel
theorem dDe_isHeaderRight_98 : decode cDe_isHeaderRight 98 = .ok (.iconst 3, 1) := by decide +kernel
theorem dDe_isHeaderRight_99 : decode cDe_isHeaderRight 99 = .ok (.iaload, 1) := by decide +kernel
theorem dDe_isHeaderRight_100 : decode cDe_isHeaderRight 100 = .ok (.invokestatic 51, 3) := by decide +kernel
theorem dDe_isHeaderRight_103 : decode cDe_isHeaderRight 103 = .ok (.aload_n 0, 1) := by decide +kernel
theorem dDe_isHeaderRight_104 : decode cDe_isHeaderRight 104 = .ok (.getfield 9, 3) := by decide +kernel
theorem dDe_isHeaderRight_107 : decode cDe_isHeaderRight 107 = .ok (.iconst 4, 1) := by decide +kernel
theorem dDe_isHeaderRight_108 : decode cDe_isHeaderRight 108 = .ok (.iaload, 1) := by decide +kernel
theorem dDe_isHeaderRight_109 : decode cDe_isHeaderRight 109 = .ok (.if_icmp .gt 7, 3) := by decide +kernel
theorem dDe_isHeaderRight_112 : decode cDe_isHeaderRight 112 = .ok (.iconst 1, 1) := by decide +kernel
theorem dDe_isHeaderRight_113 : decode cDe_isHeaderRight 113 = .ok (.goto 4, 3) := by decide +kernel
theorem dDe_isHeaderRight_116 : decode cDe_isHeaderRight 116 = .ok (.iconst 0, 1) := by decide +kernel
theorem dDe_isHeaderRight_117 : decode cDe_isHeaderRight 117 = .ok (.ireturn, 1) := by decide +kernel
theorem dDe_markInodes_0 : decode cDe_markInodes 0 = .ok (.aload_n 0, 1) := by decide +kernel
theorem dDe_markInodes_1 : decode cDe_markInodes 1 = .ok (.iconst 0, 1) := by decide +kernel
theorem dDe_markInodes_2 : decode cDe_markInodes 2 = .ok (.putfield 55, 3) := by decide +kernel
theorem dDe_markInodes_5 : decode cDe_markInodes 5 = .ok (.iconst 0, 1) := by decide +kernel
theorem dDe_markInodes_6 : decode cDe_markInodes 6 = .ok (.istore_n 1, 1) := by decide +kernel
theorem dDe_markInodes_7 : decode cDe_markInodes 7 = .ok (.iconst 0, 1) := by decide +kernel
theorem dDe_markInodes_8 : decode cDe_markInodes 8 = .ok (.istore_n 2, 1) := by decide +kernel
theorem dDe_markInodes_9 : decode cDe_markInodes 9 = .ok (.iload_n 2, 1) := by decide +kernel
theorem dDe_markInodes_10 : decode cDe_markInodes 10 = .ok (.bipush 126, 2) := by decide +kernel
theorem dDe_markInodes_12 : decode cDe_markInodes 12 = .ok (.if_icmp .ge 70, 3) := by decide +kernel
theorem dDe_markInodes_15 : decode cDe_markInodes 15 = .ok (.iload_n 2, 1) := by decide +kernel
theorem dDe_markInodes_16 : decode cDe_markInodes 16 = .ok (.aload_n 0, 1) := by decide +kernel
theorem dDe_markInodes_17 : decode cDe_markInodes 17 = .ok (.iload_n 2, 1) := by decide +kernel
theorem dDe_markInodes_18 : decode cDe_markInodes 18 = .ok (.invokevirtual 58, 3) := by decide +kernel
theorem dDe_markInodes_21 : decode cDe_markInodes 21 = .ok (.ifCond .eq 7, 3) := by decide +kernel
theorem dDe_markInodes_24 : decode cDe_markInodes 24 = .ok (.iconst 2, 1) := by decide +kernel
theorem dDe_markInodes_25 : decode cDe_markInodes 25 = .ok (.goto 4, 3) := by decide +kernel
theorem dDe_markInodes_28 : decode cDe_markInodes 28 = .ok (.iconst 1, 1) := by decide +kernel
theorem dDe_markInodes_29 : decode cDe_markInodes 29 = .ok (.iadd, 1) := by decide +kernel
theorem dDe_markInodes_30 : decode cDe_markInodes 30 = .ok (.istore_n 3, 1) := by decide +kernel
theorem dDe_markInodes_31 : decode cDe_markInodes 31 = .ok (.aload_n 0, 1) := by decide +kernel
theorem dDe_markInodes_32 : decode cDe_markInodes 32 = .ok (.getfield 15, 3) := by decide +kernel
theorem dDe_markInodes_35 : decode cDe_markInodes 35 = .ok (.iload_n 2, 1) := by decide +kernel
theorem dDe_markInodes_36 : decode cDe_markInodes 36 = .ok (.iload_n 2, 1) := by decide +kernel
theorem dDe_markInodes_37 : decode cDe_markInodes 37 = .ok (.iload_n 1, 1) := by decide +kernel
theorem dDe_markInodes_38 : decode cDe_markInodes 38 = .ok (.if_icmp .ne 15, 3) := by decide +kernel
theorem dDe_markInodes_41 : decode cDe_markInodes 41 = .ok (.iload_n 3, 1) := by decide +kernel
theorem dDe_markInodes_42 : decode cDe_markInodes 42 = .ok (.aload_n 0, 1) := by decide +kernel
theorem dDe_markInodes_43 : decode cDe_markInodes 43 = .ok (.getfield 37, 3) := by decide +kernel
theorem dDe_markInodes_46 : decode cDe_markInodes 46 = .ok (.if_icmp .gt 7, 3) := by decide +kernel
theorem dDe_markInodes_49 : decode cDe_markInodes 49 = .ok (.iconst 1, 1) := by decide +kernel
theorem dDe_markInodes_50 : decode cDe_markInodes 50 = .ok (.goto 4, 3) := by decide +kernel
theorem dDe_markInodes_53 : decode cDe_markInodes 53 = .ok (.iconst 0, 1) := by decide +kernel
theorem dDe_markInodes_54 : decode cDe_markInodes 54 = .ok (.bastore, 1) := by decide +kernel
theorem dDe_markInodes_55 : decode cDe_markInodes 55 = .ok (.aload_n 0, 1) := by decide +kernel
theorem dDe_markInodes_56 : decode cDe_markInodes 56 = .ok (.getfield 15, 3) := by decide +kernel
theorem dDe_markInodes_59 : decode cDe_markInodes 59 = .ok (.iload_n 2, 1) := by decide +kernel
theorem dDe_markInodes_60 : decode cDe_markInodes 60 = .ok (.baload, 1) := by decide +kernel
theorem dDe_markInodes_61 : decode cDe_markInodes 61 = .ok (.ifCond .eq 15, 3) := by decide +kernel
theorem dDe_markInodes_64 : decode cDe_markInodes 64 = .ok (.aload_n 0, 1) := by decide +kernel
theorem dDe_markInodes_65 : decode cDe_markInodes 65 = .ok (.dup, 1) := by decide +kernel
theorem dDe_markInodes_66 : decode cDe_markInodes 66 = .ok (.getfield 55, 3) := by decide +kernel
theorem dDe_markInodes_69 : decode cDe_markInodes 69 = .ok (.iconst 1, 1) := by decide +kernel
theorem dDe_markInodes_70 : decode cDe_markInodes 70 = .ok (.iadd, 1) := by decide +kernel
theorem dDe_markInodes_71 : decode cDe_markInodes 71 = .ok (.putfield 55, 3) := by decide +kernel
theorem dDe_markInodes_74 : decode cDe_markInodes 74 = .ok (.iload_n 3, 1) := by decide +kernel
theorem dDe_markInodes_75 : decode cDe_markInodes 75 = .ok (.istore_n 1, 1) := by decide +kernel
theorem dDe_markInodes_76 : decode cDe_markInodes 76 = .ok (.iinc 2 1, 3) := by decide +kernel
theorem dDe_markInodes_79 : decode cDe_markInodes 79 = .ok (.goto (-70), 3) := by decide +kernel
theorem dDe_markInodes_82 : decode cDe_markInodes 82 = .ok (.return_, 1) := by decide +kernel
theorem dDe_isInode_0 : decode cDe_isInode 0 = .ok (.iload_n 1, 1) := by decide +kernel
theorem dDe_isInode_1 : decode cDe_isInode 1 = .ok (.ifCond .lt 30, 3) := by decide +kernel
theorem dDe_isInode_4 : decode cDe_isInode 4 = .ok (.iload_n 1, 1) := by decide +kernel
theorem dDe_isInode_5 : decode cDe_isInode 5 = .ok (.aload_n 0, 1) := by decide +kernel
theorem dDe_isInode_6 : decode cDe_isInode 6 = .ok (.getfield 37, 3) := by decide +kernel
theorem dDe_isInode_9 : decode cDe_isInode 9 = .ok (.if_icmp .ge 22, 3) := by decide +kernel
theorem dDe_isInode_12 : decode cDe_isInode 12 = .ok (.iload_n 1, 1) := by decide +kernel
theorem dDe_isInode_13 : decode cDe_isInode 13 = .ok (.bipush 126, 2) := by decide +kernel
theorem dDe_isInode_15 : decode cDe_isInode 15 = .ok (.if_icmp .ge 16, 3) := by decide +kernel
theorem dDe_isInode_18 : decode cDe_isInode 18 = .ok (.aload_n 0, 1) := by decide +kernel
theorem dDe_isInode_19 : decode cDe_isInode 19 = .ok (.getfield 15, 3) := by decide +kernel
theorem dDe_isInode_22 : decode cDe_isInode 22 = .ok (.iload_n 1, 1) := by decide +kernel
theorem dDe_isInode_23 : decode cDe_isInode 23 = .ok (.baload, 1) := by decide +kernel
theorem dDe_isInode_24 : decode cDe_isInode 24 = .ok (.ifCond .eq 7, 3) := by decide +kernel
theorem dDe_isInode_27 : decode cDe_isInode 27 = .ok (.iconst 1, 1) := by decide +kernel
theorem dDe_isInode_28 : decode cDe_isInode 28 = .ok (.goto 4, 3) := by decide +kernel
theorem dDe_isInode_31 : decode cDe_isInode 31 = .ok (.iconst 0, 1) := by decide +kernel
theorem dDe_isInode_32 : decode cDe_isInode 32 = .ok (.ireturn, 1) := by decide +kernel
theorem dDe_slotByte_0 : decode cDe_slotByte 0 = .ok (.bipush 16, 2) := by decide +kernel
theorem dDe_slotByte_2 : decode cDe_slotByte 2 = .ok (.iload_n 1, 1) := by decide +kernel
theorem dDe_slotByte_3 : decode cDe_slotByte 3 = .ok (.bipush 8, 2) := by decide +kernel
theorem dDe_slotByte_5 : decode cDe_slotByte 5 = .ok (.imul, 1) := by decide +kernel
theorem dDe_slotByte_6 : decode cDe_slotByte 6 = .ok (.iadd, 1) := by decide +kernel
theorem dDe_slotByte_7 : decode cDe_slotByte 7 = .ok (.iload_n 2, 1) := by decide +kernel
theorem dDe_slotByte_8 : decode cDe_slotByte 8 = .ok (.iadd, 1) := by decide +kernel
theorem dDe_slotByte_9 : decode cDe_slotByte 9 = .ok (.istore_n 3, 1) := by decide +kernel
theorem dDe_slotByte_10 : decode cDe_slotByte 10 = .ok (.iload_n 3, 1) := by decide +kernel
theorem dDe_slotByte_11 : decode cDe_slotByte 11 = .ok (.ifCond .lt 19, 3) := by decide +kernel
theorem dDe_slotByte_14 : decode cDe_slotByte 14 = .ok (.iload_n 3, 1) := by decide +kernel
theorem dDe_slotByte_15 : decode cDe_slotByte 15 = .ok (.sipush 1024, 3) := by decide +kernel
theorem dDe_slotByte_18 : decode cDe_slotByte 18 = .ok (.if_icmp .ge 12, 3) := by decide +kernel
theorem dDe_slotByte_21 : decode cDe_slotByte 21 = .ok (.aload_n 0, 1) := by decide +kernel
theorem dDe_slotByte_22 : decode cDe_slotByte 22 = .ok (.getfield 9, 3) := by decide +kernel
theorem dDe_slotByte_25 : decode cDe_slotByte 25 = .ok (.iload_n 3, 1) := by decide +kernel
theorem dDe_slotByte_26 : decode cDe_slotByte 26 = .ok (.iaload, 1) := by decide +kernel
theorem dDe_slotByte_27 : decode cDe_slotByte 27 = .ok (.goto 4, 3) := by decide +kernel
theorem dDe_slotByte_30 : decode cDe_slotByte 30 = .ok (.iconst 0, 1) := by decide +kernel
theorem dDe_slotByte_31 : decode cDe_slotByte 31 = .ok (.ireturn, 1) := by decide +kernel
theorem dDe_isLong_0 : decode cDe_isLong 0 = .ok (.aload_n 0, 1) := by decide +kernel
theorem dDe_isLong_1 : decode cDe_isLong 1 = .ok (.iload_n 1, 1) := by decide +kernel
theorem dDe_isLong_2 : decode cDe_isLong 2 = .ok (.iconst 0, 1) := by decide +kernel
theorem dDe_isLong_3 : decode cDe_isLong 3 = .ok (.invokevirtual 62, 3) := by decide +kernel
theorem dDe_isLong_6 : decode cDe_isLong 6 = .ok (.iconst 1, 1) := by decide +kernel
theorem dDe_isLong_7 : decode cDe_isLong 7 = .ok (.iand, 1) := by decide +kernel
theorem dDe_isLong_8 : decode cDe_isLong 8 = .ok (.ifCond .eq 7, 3) := by decide +kernel
theorem dDe_isLong_11 : decode cDe_isLong 11 = .ok (.iconst 1, 1) := by decide +kernel
theorem dDe_isLong_12 : decode cDe_isLong 12 = .ok (.goto 4, 3) := by decide +kernel
theorem dDe_isLong_15 : decode cDe_isLong 15 = .ok (.iconst 0, 1) := by decide +kernel
theorem dDe_isLong_16 : decode cDe_isLong 16 = .ok (.ireturn, 1) := by decide +kernel
theorem dDe_kindOf_0 : decode cDe_kindOf 0 = .ok (.aload_n 0, 1) := by decide +kernel
theorem dDe_kindOf_1 : decode cDe_kindOf 1 = .ok (.iload_n 1, 1) := by decide +kernel
theorem dDe_kindOf_2 : decode cDe_kindOf 2 = .ok (.iconst 0, 1) := by decide +kernel
theorem dDe_kindOf_3 : decode cDe_kindOf 3 = .ok (.invokevirtual 62, 3) := by decide +kernel
theorem dDe_kindOf_6 : decode cDe_kindOf 6 = .ok (.iconst 1, 1) := by decide +kernel
theorem dDe_kindOf_7 : decode cDe_kindOf 7 = .ok (.ishr, 1) := by decide +kernel
theorem dDe_kindOf_8 : decode cDe_kindOf 8 = .ok (.iconst 3, 1) := by decide +kernel
theorem dDe_kindOf_9 : decode cDe_kindOf 9 = .ok (.iand, 1) := by decide +kernel
theorem dDe_kindOf_10 : decode cDe_kindOf 10 = .ok (.ireturn, 1) := by decide +kernel
theorem dDe_layoutOf_0 : decode cDe_layoutOf 0 = .ok (.aload_n 0, 1) := by decide +kernel
theorem dDe_layoutOf_1 : decode cDe_layoutOf 1 = .ok (.iload_n 1, 1) := by decide +kernel
theorem dDe_layoutOf_2 : decode cDe_layoutOf 2 = .ok (.iconst 0, 1) := by decide +kernel
theorem dDe_layoutOf_3 : decode cDe_layoutOf 3 = .ok (.invokevirtual 62, 3) := by decide +kernel
theorem dDe_layoutOf_6 : decode cDe_layoutOf 6 = .ok (.iconst 3, 1) := by decide +kernel
theorem dDe_layoutOf_7 : decode cDe_layoutOf 7 = .ok (.ishr, 1) := by decide +kernel
theorem dDe_layoutOf_8 : decode cDe_layoutOf 8 = .ok (.iconst 3, 1) := by decide +kernel
theorem dDe_layoutOf_9 : decode cDe_layoutOf 9 = .ok (.iand, 1) := by decide +kernel
theorem dDe_layoutOf_10 : decode cDe_layoutOf 10 = .ok (.ireturn, 1) := by decide +kernel
theorem dDe_sizeOf_0 : decode cDe_sizeOf 0 = .ok (.aload_n 0, 1) := by decide +kernel
theorem dDe_sizeOf_1 : decode cDe_sizeOf 1 = .ok (.iload_n 1, 1) := by decide +kernel
theorem dDe_sizeOf_2 : decode cDe_sizeOf 2 = .ok (.iconst 1, 1) := by decide +kernel
theorem dDe_sizeOf_3 : decode cDe_sizeOf 3 = .ok (.invokevirtual 62, 3) := by decide +kernel
theorem dDe_sizeOf_6 : decode cDe_sizeOf 6 = .ok (.ireturn, 1) := by decide +kernel
theorem dDe_firstBlockOf_0 : decode cDe_firstBlockOf 0 = .ok (.aload_n 0, 1) := by decide +kernel
theorem dDe_firstBlockOf_1 : decode cDe_firstBlockOf 1 = .ok (.iload_n 1, 1) := by decide +kernel
theorem dDe_firstBlockOf_2 : decode cDe_firstBlockOf 2 = .ok (.iconst 2, 1) := by decide +kernel
theorem dDe_firstBlockOf_3 : decode cDe_firstBlockOf 3 = .ok (.invokevirtual 62, 3) := by decide +kernel
theorem dDe_firstBlockOf_6 : decode cDe_firstBlockOf 6 = .ok (.ireturn, 1) := by decide +kernel
theorem dDe_countOf_0 : decode cDe_countOf 0 = .ok (.aload_n 0, 1) := by decide +kernel
theorem dDe_countOf_1 : decode cDe_countOf 1 = .ok (.iload_n 1, 1) := by decide +kernel
theorem dDe_countOf_2 : decode cDe_countOf 2 = .ok (.iconst 3, 1) := by decide +kernel
theorem dDe_countOf_3 : decode cDe_countOf 3 = .ok (.invokevirtual 62, 3) := by decide +kernel
theorem dDe_countOf_6 : decode cDe_countOf 6 = .ok (.ireturn, 1) := by decide +kernel
theorem dDe_blocksOf_0 : decode cDe_blocksOf 0 = .ok (.aload_n 0, 1) := by decide +kernel
theorem dDe_blocksOf_1 : decode cDe_blocksOf 1 = .ok (.iload_n 1, 1) := by decide +kernel
theorem dDe_blocksOf_2 : decode cDe_blocksOf 2 = .ok (.invokevirtual 66, 3) := by decide +kernel
theorem dDe_blocksOf_5 : decode cDe_blocksOf 5 = .ok (.lookupswitch 43 #[(1, 27), (2, 36)], 27) := by decide +kernel
theorem dDe_blocksOf_32 : decode cDe_blocksOf 32 = .ok (.aload_n 0, 1) := by decide +kernel
theorem dDe_blocksOf_33 : decode cDe_blocksOf 33 = .ok (.iload_n 1, 1) := by decide +kernel
theorem dDe_blocksOf_34 : decode cDe_blocksOf 34 = .ok (.invokevirtual 69, 3) := by decide +kernel
theorem dDe_blocksOf_37 : decode cDe_blocksOf 37 = .ok (.bipush 16, 2) := by decide +kernel
theorem dDe_blocksOf_39 : decode cDe_blocksOf 39 = .ok (.idiv, 1) := by decide +kernel
theorem dDe_blocksOf_40 : decode cDe_blocksOf 40 = .ok (.ireturn, 1) := by decide +kernel
theorem dDe_blocksOf_41 : decode cDe_blocksOf 41 = .ok (.aload_n 0, 1) := by decide +kernel
theorem dDe_blocksOf_42 : decode cDe_blocksOf 42 = .ok (.iload_n 1, 1) := by decide +kernel
theorem dDe_blocksOf_43 : decode cDe_blocksOf 43 = .ok (.iconst 4, 1) := by decide +kernel
theorem dDe_blocksOf_44 : decode cDe_blocksOf 44 = .ok (.invokevirtual 62, 3) := by decide +kernel
theorem dDe_blocksOf_47 : decode cDe_blocksOf 47 = .ok (.ireturn, 1) := by decide +kernel
theorem dDe_blocksOf_48 : decode cDe_blocksOf 48 = .ok (.aload_n 0, 1) := by decide +kernel
theorem dDe_blocksOf_49 : decode cDe_blocksOf 49 = .ok (.iload_n 1, 1) := by decide +kernel
theorem dDe_blocksOf_50 : decode cDe_blocksOf 50 = .ok (.invokevirtual 69, 3) := by decide +kernel
theorem dDe_blocksOf_53 : decode cDe_blocksOf 53 = .ok (.invokestatic 72, 3) := by decide +kernel
theorem dDe_blocksOf_56 : decode cDe_blocksOf 56 = .ok (.ireturn, 1) := by decide +kernel
theorem dDe_isBad_0 : decode cDe_isBad 0 = .ok (.aload_n 0, 1) := by decide +kernel
theorem dDe_isBad_1 : decode cDe_isBad 1 = .ok (.iload_n 1, 1) := by decide +kernel
theorem dDe_isBad_2 : decode cDe_isBad 2 = .ok (.invokevirtual 75, 3) := by decide +kernel
theorem dDe_isBad_5 : decode cDe_isBad 5 = .ok (.istore_n 2, 1) := by decide +kernel
theorem dDe_isBad_6 : decode cDe_isBad 6 = .ok (.iload_n 2, 1) := by decide +kernel
theorem dDe_isBad_7 : decode cDe_isBad 7 = .ok (.iconst 3, 1) := by decide +kernel
theorem dDe_isBad_8 : decode cDe_isBad 8 = .ok (.if_icmp .eq 17, 3) := by decide +kernel
theorem dDe_isBad_11 : decode cDe_isBad 11 = .ok (.iload_n 2, 1) := by decide +kernel
theorem dDe_isBad_12 : decode cDe_isBad 12 = .ok (.ifCond .ne 15, 3) := by decide +kernel
theorem dDe_isBad_15 : decode cDe_isBad 15 = .ok (.aload_n 0, 1) := by decide +kernel
theorem dDe_isBad_16 : decode cDe_isBad 16 = .ok (.iload_n 1, 1) := by decide +kernel
theorem dDe_isBad_17 : decode cDe_isBad 17 = .ok (.invokevirtual 69, 3) := by decide +kernel
theorem dDe_isBad_20 : decode cDe_isBad 20 = .ok (.iconst 3, 1) := by decide +kernel
theorem dDe_isBad_21 : decode cDe_isBad 21 = .ok (.irem, 1) := by decide +kernel
theorem dDe_isBad_22 : decode cDe_isBad 22 = .ok (.ifCond .eq 5, 3) := by decide +kernel
theorem dDe_isBad_25 : decode cDe_isBad 25 = .ok (.iconst 1, 1) := by decide +kernel
theorem dDe_isBad_26 : decode cDe_isBad 26 = .ok (.ireturn, 1) := by decide +kernel
theorem dDe_isBad_27 : decode cDe_isBad 27 = .ok (.aload_n 0, 1) := by decide +kernel
theorem dDe_isBad_28 : decode cDe_isBad 28 = .ok (.iload_n 1, 1) := by decide +kernel
theorem dDe_isBad_29 : decode cDe_isBad 29 = .ok (.invokevirtual 66, 3) := by decide +kernel
theorem dDe_isBad_32 : decode cDe_isBad 32 = .ok (.tableswitch 104 1 3 #[30, 69, 28], 28) := by decide +kernel
theorem dDe_isBad_60 : decode cDe_isBad 60 = .ok (.iconst 1, 1) := by decide +kernel
theorem dDe_isBad_61 : decode cDe_isBad 61 = .ok (.ireturn, 1) := by decide +kernel
theorem dDe_isBad_62 : decode cDe_isBad 62 = .ok (.aload_n 0, 1) := by decide +kernel
theorem dDe_isBad_63 : decode cDe_isBad 63 = .ok (.iload_n 1, 1) := by decide +kernel
theorem dDe_isBad_64 : decode cDe_isBad 64 = .ok (.invokevirtual 69, 3) := by decide +kernel
theorem dDe_isBad_67 : decode cDe_isBad 67 = .ok (.bipush 16, 2) := by decide +kernel
theorem dDe_isBad_69 : decode cDe_isBad 69 = .ok (.irem, 1) := by decide +kernel
theorem dDe_isBad_70 : decode cDe_isBad 70 = .ok (.aload_n 0, 1) := by decide +kernel
theorem dDe_isBad_71 : decode cDe_isBad 71 = .ok (.iload_n 1, 1) := by decide +kernel
theorem dDe_isBad_72 : decode cDe_isBad 72 = .ok (.invokevirtual 58, 3) := by decide +kernel
theorem dDe_isBad_75 : decode cDe_isBad 75 = .ok (.ifCond .eq 8, 3) := by decide +kernel
theorem dDe_isBad_78 : decode cDe_isBad 78 = .ok (.bipush 12, 2) := by decide +kernel
theorem dDe_isBad_80 : decode cDe_isBad 80 = .ok (.goto 4, 3) := by decide +kernel
theorem dDe_isBad_83 : decode cDe_isBad 83 = .ok (.iconst 4, 1) := by decide +kernel
theorem dDe_isBad_84 : decode cDe_isBad 84 = .ok (.if_icmp .gt 11, 3) := by decide +kernel
theorem dDe_isBad_87 : decode cDe_isBad 87 = .ok (.aload_n 0, 1) := by decide +kernel
theorem dDe_isBad_88 : decode cDe_isBad 88 = .ok (.iload_n 1, 1) := by decide +kernel
theorem dDe_isBad_89 : decode cDe_isBad 89 = .ok (.invokevirtual 78, 3) := by decide +kernel
theorem dDe_isBad_92 : decode cDe_isBad 92 = .ok (.ifCond .ne 7, 3) := by decide +kernel
theorem dDe_isBad_95 : decode cDe_isBad 95 = .ok (.iconst 1, 1) := by decide +kernel
theorem dDe_isBad_96 : decode cDe_isBad 96 = .ok (.goto 4, 3) := by decide +kernel
theorem dDe_isBad_99 : decode cDe_isBad 99 = .ok (.iconst 0, 1) := by decide +kernel
theorem dDe_isBad_100 : decode cDe_isBad 100 = .ok (.ireturn, 1) := by decide +kernel
theorem dDe_isBad_101 : decode cDe_isBad 101 = .ok (.iload_n 2, 1) := by decide +kernel
theorem dDe_isBad_102 : decode cDe_isBad 102 = .ok (.iconst 1, 1) := by decide +kernel
theorem dDe_isBad_103 : decode cDe_isBad 103 = .ok (.if_icmp .ne 27, 3) := by decide +kernel
theorem dDe_isBad_106 : decode cDe_isBad 106 = .ok (.aload_n 0, 1) := by decide +kernel
theorem dDe_isBad_107 : decode cDe_isBad 107 = .ok (.iload_n 1, 1) := by decide +kernel
theorem dDe_isBad_108 : decode cDe_isBad 108 = .ok (.invokevirtual 58, 3) := by decide +kernel
theorem dDe_isBad_111 : decode cDe_isBad 111 = .ok (.ifCond .eq 19, 3) := by decide +kernel
theorem dDe_isBad_114 : decode cDe_isBad 114 = .ok (.aload_n 0, 1) := by decide +kernel
theorem dDe_isBad_115 : decode cDe_isBad 115 = .ok (.iload_n 1, 1) := by decide +kernel
theorem dDe_isBad_116 : decode cDe_isBad 116 = .ok (.invokevirtual 81, 3) := by decide +kernel
theorem dDe_isBad_119 : decode cDe_isBad 119 = .ok (.ifCond .eq 11, 3) := by decide +kernel
theorem dDe_isBad_122 : decode cDe_isBad 122 = .ok (.aload_n 0, 1) := by decide +kernel
theorem dDe_isBad_123 : decode cDe_isBad 123 = .ok (.iload_n 1, 1) := by decide +kernel
theorem dDe_isBad_124 : decode cDe_isBad 124 = .ok (.invokevirtual 78, 3) := by decide +kernel
theorem dDe_isBad_127 : decode cDe_isBad 127 = .ok (.ifCond .ne 7, 3) := by decide +kernel
theorem dDe_isBad_130 : decode cDe_isBad 130 = .ok (.iconst 1, 1) := by decide +kernel
theorem dDe_isBad_131 : decode cDe_isBad 131 = .ok (.goto 4, 3) := by decide +kernel
theorem dDe_isBad_134 : decode cDe_isBad 134 = .ok (.iconst 0, 1) := by decide +kernel
theorem dDe_isBad_135 : decode cDe_isBad 135 = .ok (.ireturn, 1) := by decide +kernel
theorem dDe_isBad_136 : decode cDe_isBad 136 = .ok (.aload_n 0, 1) := by decide +kernel
theorem dDe_isBad_137 : decode cDe_isBad 137 = .ok (.iload_n 1, 1) := by decide +kernel
theorem dDe_isBad_138 : decode cDe_isBad 138 = .ok (.invokevirtual 78, 3) := by decide +kernel
theorem dDe_isBad_141 : decode cDe_isBad 141 = .ok (.ifCond .ne 7, 3) := by decide +kernel
theorem dDe_isBad_144 : decode cDe_isBad 144 = .ok (.iconst 1, 1) := by decide +kernel
theorem dDe_isBad_145 : decode cDe_isBad 145 = .ok (.goto 4, 3) := by decide +kernel
theorem dDe_isBad_148 : decode cDe_isBad 148 = .ok (.iconst 0, 1) := by decide +kernel
theorem dDe_isBad_149 : decode cDe_isBad 149 = .ok (.ireturn, 1) := by decide +kernel
theorem dDe_hasItsBlocks_0 : decode cDe_hasItsBlocks 0 = .ok (.aload_n 0, 1) := by decide +kernel
theorem dDe_hasItsBlocks_1 : decode cDe_hasItsBlocks 1 = .ok (.iload_n 1, 1) := by decide +kernel
theorem dDe_hasItsBlocks_2 : decode cDe_hasItsBlocks 2 = .ok (.invokevirtual 84, 3) := by decide +kernel
theorem dDe_hasItsBlocks_5 : decode cDe_hasItsBlocks 5 = .ok (.istore_n 2, 1) := by decide +kernel
theorem dDe_hasItsBlocks_6 : decode cDe_hasItsBlocks 6 = .ok (.aload_n 0, 1) := by decide +kernel
theorem dDe_hasItsBlocks_7 : decode cDe_hasItsBlocks 7 = .ok (.iload_n 1, 1) := by decide +kernel
theorem dDe_hasItsBlocks_8 : decode cDe_hasItsBlocks 8 = .ok (.invokevirtual 87, 3) := by decide +kernel
theorem dDe_hasItsBlocks_11 : decode cDe_hasItsBlocks 11 = .ok (.istore_n 3, 1) := by decide +kernel
theorem dDe_hasItsBlocks_12 : decode cDe_hasItsBlocks 12 = .ok (.iload_n 2, 1) := by decide +kernel
theorem dDe_hasItsBlocks_13 : decode cDe_hasItsBlocks 13 = .ok (.ifCond .eq 24, 3) := by decide +kernel
theorem dDe_hasItsBlocks_16 : decode cDe_hasItsBlocks 16 = .ok (.iload_n 3, 1) := by decide +kernel
theorem dDe_hasItsBlocks_17 : decode cDe_hasItsBlocks 17 = .ok (.aload_n 0, 1) := by decide +kernel
theorem dDe_hasItsBlocks_18 : decode cDe_hasItsBlocks 18 = .ok (.getfield 37, 3) := by decide +kernel
theorem dDe_hasItsBlocks_21 : decode cDe_hasItsBlocks 21 = .ok (.invokestatic 51, 3) := by decide +kernel
theorem dDe_hasItsBlocks_24 : decode cDe_hasItsBlocks 24 = .ok (.if_icmp .lt 17, 3) := by decide +kernel
theorem dDe_hasItsBlocks_27 : decode cDe_hasItsBlocks 27 = .ok (.iload_n 3, 1) := by decide +kernel
theorem dDe_hasItsBlocks_28 : decode cDe_hasItsBlocks 28 = .ok (.iload_n 2, 1) := by decide +kernel
theorem dDe_hasItsBlocks_29 : decode cDe_hasItsBlocks 29 = .ok (.iadd, 1) := by decide +kernel
theorem dDe_hasItsBlocks_30 : decode cDe_hasItsBlocks 30 = .ok (.aload_n 0, 1) := by decide +kernel
theorem dDe_hasItsBlocks_31 : decode cDe_hasItsBlocks 31 = .ok (.getfield 41, 3) := by decide +kernel
theorem dDe_hasItsBlocks_34 : decode cDe_hasItsBlocks 34 = .ok (.if_icmp .gt 7, 3) := by decide +kernel
theorem dDe_hasItsBlocks_37 : decode cDe_hasItsBlocks 37 = .ok (.iconst 1, 1) := by decide +kernel
theorem dDe_hasItsBlocks_38 : decode cDe_hasItsBlocks 38 = .ok (.goto 4, 3) := by decide +kernel
theorem dDe_hasItsBlocks_41 : decode cDe_hasItsBlocks 41 = .ok (.iconst 0, 1) := by decide +kernel
theorem dDe_hasItsBlocks_42 : decode cDe_hasItsBlocks 42 = .ok (.ireturn, 1) := by decide +kernel
theorem dDe_hasRightEnds_0 : decode cDe_hasRightEnds 0 = .ok (.aload_n 0, 1) := by decide +kernel
theorem dDe_hasRightEnds_1 : decode cDe_hasRightEnds 1 = .ok (.iload_n 1, 1) := by decide +kernel
theorem dDe_hasRightEnds_2 : decode cDe_hasRightEnds 2 = .ok (.iconst 4, 1) := by decide +kernel
theorem dDe_hasRightEnds_3 : decode cDe_hasRightEnds 3 = .ok (.invokevirtual 62, 3) := by decide +kernel
theorem dDe_hasRightEnds_6 : decode cDe_hasRightEnds 6 = .ok (.istore_n 2, 1) := by decide +kernel
theorem dDe_hasRightEnds_7 : decode cDe_hasRightEnds 7 = .ok (.iload_n 2, 1) := by decide +kernel
theorem dDe_hasRightEnds_8 : decode cDe_hasRightEnds 8 = .ok (.iconst 1, 1) := by decide +kernel
theorem dDe_hasRightEnds_9 : decode cDe_hasRightEnds 9 = .ok (.if_icmp .lt 9, 3) := by decide +kernel
theorem dDe_hasRightEnds_12 : decode cDe_hasRightEnds 12 = .ok (.iload_n 2, 1) := by decide +kernel
theorem dDe_hasRightEnds_13 : decode cDe_hasRightEnds 13 = .ok (.bipush 11, 2) := by decide +kernel
theorem dDe_hasRightEnds_15 : decode cDe_hasRightEnds 15 = .ok (.if_icmp .le 5, 3) := by decide +kernel
theorem dDe_hasRightEnds_18 : decode cDe_hasRightEnds 18 = .ok (.iconst 0, 1) := by decide +kernel
theorem dDe_hasRightEnds_19 : decode cDe_hasRightEnds 19 = .ok (.ireturn, 1) := by decide +kernel
theorem dDe_hasRightEnds_20 : decode cDe_hasRightEnds 20 = .ok (.iconst 0, 1) := by decide +kernel
theorem dDe_hasRightEnds_21 : decode cDe_hasRightEnds 21 = .ok (.istore_n 3, 1) := by decide +kernel
theorem dDe_hasRightEnds_22 : decode cDe_hasRightEnds 22 = .ok (.iload_n 3, 1) := by decide +kernel
theorem dDe_hasRightEnds_23 : decode cDe_hasRightEnds 23 = .ok (.iload_n 2, 1) := by decide +kernel
theorem dDe_hasRightEnds_24 : decode cDe_hasRightEnds 24 = .ok (.if_icmp .ge 26, 3) := by decide +kernel
theorem dDe_hasRightEnds_27 : decode cDe_hasRightEnds 27 = .ok (.aload_n 0, 1) := by decide +kernel
theorem dDe_hasRightEnds_28 : decode cDe_hasRightEnds 28 = .ok (.iload_n 1, 1) := by decide +kernel
theorem dDe_hasRightEnds_29 : decode cDe_hasRightEnds 29 = .ok (.iload_n 3, 1) := by decide +kernel
theorem dDe_hasRightEnds_30 : decode cDe_hasRightEnds 30 = .ok (.invokevirtual 90, 3) := by decide +kernel
theorem dDe_hasRightEnds_33 : decode cDe_hasRightEnds 33 = .ok (.aload_n 0, 1) := by decide +kernel
theorem dDe_hasRightEnds_34 : decode cDe_hasRightEnds 34 = .ok (.iload_n 1, 1) := by decide +kernel
theorem dDe_hasRightEnds_35 : decode cDe_hasRightEnds 35 = .ok (.iload_n 3, 1) := by decide +kernel
theorem dDe_hasRightEnds_36 : decode cDe_hasRightEnds 36 = .ok (.invokevirtual 93, 3) := by decide +kernel
theorem dDe_hasRightEnds_39 : decode cDe_hasRightEnds 39 = .ok (.if_icmp .gt 5, 3) := by decide +kernel
theorem dDe_hasRightEnds_42 : decode cDe_hasRightEnds 42 = .ok (.iconst 0, 1) := by decide +kernel
theorem dDe_hasRightEnds_43 : decode cDe_hasRightEnds 43 = .ok (.ireturn, 1) := by decide +kernel
theorem dDe_hasRightEnds_44 : decode cDe_hasRightEnds 44 = .ok (.iinc 3 1, 3) := by decide +kernel
theorem dDe_hasRightEnds_47 : decode cDe_hasRightEnds 47 = .ok (.goto (-25), 3) := by decide +kernel
theorem dDe_hasRightEnds_50 : decode cDe_hasRightEnds 50 = .ok (.aload_n 0, 1) := by decide +kernel
theorem dDe_hasRightEnds_51 : decode cDe_hasRightEnds 51 = .ok (.iload_n 1, 1) := by decide +kernel
theorem dDe_hasRightEnds_52 : decode cDe_hasRightEnds 52 = .ok (.iload_n 2, 1) := by decide +kernel
theorem dDe_hasRightEnds_53 : decode cDe_hasRightEnds 53 = .ok (.iconst 1, 1) := by decide +kernel
theorem dDe_hasRightEnds_54 : decode cDe_hasRightEnds 54 = .ok (.isub, 1) := by decide +kernel
theorem dDe_hasRightEnds_55 : decode cDe_hasRightEnds 55 = .ok (.invokevirtual 90, 3) := by decide +kernel
theorem dDe_hasRightEnds_58 : decode cDe_hasRightEnds 58 = .ok (.aload_n 0, 1) := by decide +kernel
theorem dDe_hasRightEnds_59 : decode cDe_hasRightEnds 59 = .ok (.iload_n 1, 1) := by decide +kernel
theorem dDe_hasRightEnds_60 : decode cDe_hasRightEnds 60 = .ok (.invokevirtual 69, 3) := by decide +kernel
theorem dDe_hasRightEnds_63 : decode cDe_hasRightEnds 63 = .ok (.if_icmp .ne 7, 3) := by decide +kernel
theorem dDe_hasRightEnds_66 : decode cDe_hasRightEnds 66 = .ok (.iconst 1, 1) := by decide +kernel
theorem dDe_hasRightEnds_67 : decode cDe_hasRightEnds 67 = .ok (.goto 4, 3) := by decide +kernel
theorem dDe_hasRightEnds_70 : decode cDe_hasRightEnds 70 = .ok (.iconst 0, 1) := by decide +kernel
theorem dDe_hasRightEnds_71 : decode cDe_hasRightEnds 71 = .ok (.ireturn, 1) := by decide +kernel
theorem dDe_clusterStart_0 : decode cDe_clusterStart 0 = .ok (.iload_n 2, 1) := by decide +kernel
theorem dDe_clusterStart_1 : decode cDe_clusterStart 1 = .ok (.ifCond .ne 7, 3) := by decide +kernel
theorem dDe_clusterStart_4 : decode cDe_clusterStart 4 = .ok (.iconst 0, 1) := by decide +kernel
theorem dDe_clusterStart_5 : decode cDe_clusterStart 5 = .ok (.goto 11, 3) := by decide +kernel
theorem dDe_clusterStart_8 : decode cDe_clusterStart 8 = .ok (.aload_n 0, 1) := by decide +kernel
theorem dDe_clusterStart_9 : decode cDe_clusterStart 9 = .ok (.iload_n 1, 1) := by decide +kernel
theorem dDe_clusterStart_10 : decode cDe_clusterStart 10 = .ok (.iload_n 2, 1) := by decide +kernel
theorem dDe_clusterStart_11 : decode cDe_clusterStart 11 = .ok (.iconst 1, 1) := by decide +kernel
theorem dDe_clusterStart_12 : decode cDe_clusterStart 12 = .ok (.isub, 1) := by decide +kernel
theorem dDe_clusterStart_13 : decode cDe_clusterStart 13 = .ok (.invokevirtual 90, 3) := by decide +kernel
theorem dDe_clusterStart_16 : decode cDe_clusterStart 16 = .ok (.ireturn, 1) := by decide +kernel
theorem dDe_clusterEnd_0 : decode cDe_clusterEnd 0 = .ok (.aload_n 0, 1) := by decide +kernel
theorem dDe_clusterEnd_1 : decode cDe_clusterEnd 1 = .ok (.iload_n 1, 1) := by decide +kernel
theorem dDe_clusterEnd_2 : decode cDe_clusterEnd 2 = .ok (.iconst 5, 1) := by decide +kernel
theorem dDe_clusterEnd_3 : decode cDe_clusterEnd 3 = .ok (.iload_n 2, 1) := by decide +kernel
theorem dDe_clusterEnd_4 : decode cDe_clusterEnd 4 = .ok (.iadd, 1) := by decide +kernel
theorem dDe_clusterEnd_5 : decode cDe_clusterEnd 5 = .ok (.invokevirtual 62, 3) := by decide +kernel
theorem dDe_clusterEnd_8 : decode cDe_clusterEnd 8 = .ok (.ireturn, 1) := by decide +kernel
theorem dDe_clusterWith_0 : decode cDe_clusterWith 0 = .ok (.iconst 0, 1) := by decide +kernel
theorem dDe_clusterWith_1 : decode cDe_clusterWith 1 = .ok (.istore_n 3, 1) := by decide +kernel
theorem dDe_clusterWith_2 : decode cDe_clusterWith 2 = .ok (.iload_n 3, 1) := by decide +kernel
theorem dDe_clusterWith_3 : decode cDe_clusterWith 3 = .ok (.bipush 10, 2) := by decide +kernel
theorem dDe_clusterWith_5 : decode cDe_clusterWith 5 = .ok (.if_icmp .ge 19, 3) := by decide +kernel
theorem dDe_clusterWith_8 : decode cDe_clusterWith 8 = .ok (.iload_n 2, 1) := by decide +kernel
theorem dDe_clusterWith_9 : decode cDe_clusterWith 9 = .ok (.aload_n 0, 1) := by decide +kernel
theorem dDe_clusterWith_10 : decode cDe_clusterWith 10 = .ok (.iload_n 1, 1) := by decide +kernel
theorem dDe_clusterWith_11 : decode cDe_clusterWith 11 = .ok (.iload_n 3, 1) := by decide +kernel
theorem dDe_clusterWith_12 : decode cDe_clusterWith 12 = .ok (.invokevirtual 90, 3) := by decide +kernel
theorem dDe_clusterWith_15 : decode cDe_clusterWith 15 = .ok (.if_icmp .lt 9, 3) := by decide +kernel
theorem dDe_clusterWith_18 : decode cDe_clusterWith 18 = .ok (.iinc 3 1, 3) := by decide +kernel
theorem dDe_clusterWith_21 : decode cDe_clusterWith 21 = .ok (.goto (-19), 3) := by decide +kernel
theorem dDe_clusterWith_24 : decode cDe_clusterWith 24 = .ok (.iload_n 3, 1) := by decide +kernel
theorem dDe_clusterWith_25 : decode cDe_clusterWith 25 = .ok (.ireturn, 1) := by decide +kernel
theorem dDe_unpack_0 : decode cDe_unpack 0 = .ok (.aload_n 0, 1) := by decide +kernel
theorem dDe_unpack_1 : decode cDe_unpack 1 = .ok (.iload_n 1, 1) := by decide +kernel
theorem dDe_unpack_2 : decode cDe_unpack 2 = .ok (.iload_n 2, 1) := by decide +kernel
theorem dDe_unpack_3 : decode cDe_unpack 3 = .ok (.invokevirtual 90, 3) := by decide +kernel
theorem dDe_unpack_6 : decode cDe_unpack 6 = .ok (.aload_n 0, 1) := by decide +kernel
theorem dDe_unpack_7 : decode cDe_unpack 7 = .ok (.iload_n 1, 1) := by decide +kernel
theorem dDe_unpack_8 : decode cDe_unpack 8 = .ok (.iload_n 2, 1) := by decide +kernel
theorem dDe_unpack_9 : decode cDe_unpack 9 = .ok (.invokevirtual 93, 3) := by decide +kernel
theorem dDe_unpack_12 : decode cDe_unpack 12 = .ok (.isub, 1) := by decide +kernel
theorem dDe_unpack_13 : decode cDe_unpack 13 = .ok (.istore 4, 2) := by decide +kernel
theorem dDe_unpack_15 : decode cDe_unpack 15 = .ok (.aload_n 3, 1) := by decide +kernel
theorem dDe_unpack_16 : decode cDe_unpack 16 = .ok (.aload_n 0, 1) := by decide +kernel
theorem dDe_unpack_17 : decode cDe_unpack 17 = .ok (.getfield 9, 3) := by decide +kernel
theorem dDe_unpack_20 : decode cDe_unpack 20 = .ok (.aload_n 0, 1) := by decide +kernel
theorem dDe_unpack_21 : decode cDe_unpack 21 = .ok (.iload_n 1, 1) := by decide +kernel
theorem dDe_unpack_22 : decode cDe_unpack 22 = .ok (.invokevirtual 87, 3) := by decide +kernel
theorem dDe_unpack_25 : decode cDe_unpack 25 = .ok (.iload_n 2, 1) := by decide +kernel
theorem dDe_unpack_26 : decode cDe_unpack 26 = .ok (.iadd, 1) := by decide +kernel
theorem dDe_unpack_27 : decode cDe_unpack 27 = .ok (.bipush 16, 2) := by decide +kernel
theorem dDe_unpack_29 : decode cDe_unpack 29 = .ok (.imul, 1) := by decide +kernel
theorem dDe_unpack_30 : decode cDe_unpack 30 = .ok (.iload 4, 2) := by decide +kernel
theorem dDe_unpack_32 : decode cDe_unpack 32 = .ok (.invokevirtual 96, 3) := by decide +kernel
theorem dDe_unpack_35 : decode cDe_unpack 35 = .ok (.ireturn, 1) := by decide +kernel
theorem dDe_dataAt_0 : decode cDe_dataAt 0 = .ok (.aload_n 0, 1) := by decide +kernel
theorem dDe_dataAt_1 : decode cDe_dataAt 1 = .ok (.iload_n 1, 1) := by decide +kernel
theorem dDe_dataAt_2 : decode cDe_dataAt 2 = .ok (.invokevirtual 84, 3) := by decide +kernel
theorem dDe_dataAt_5 : decode cDe_dataAt 5 = .ok (.bipush 16, 2) := by decide +kernel
theorem dDe_dataAt_7 : decode cDe_dataAt 7 = .ok (.imul, 1) := by decide +kernel
theorem dDe_dataAt_8 : decode cDe_dataAt 8 = .ok (.istore_n 3, 1) := by decide +kernel
theorem dDe_dataAt_9 : decode cDe_dataAt 9 = .ok (.iload_n 2, 1) := by decide +kernel
theorem dDe_dataAt_10 : decode cDe_dataAt 10 = .ok (.iload_n 3, 1) := by decide +kernel
theorem dDe_dataAt_11 : decode cDe_dataAt 11 = .ok (.if_icmp .lt 14, 3) := by decide +kernel
theorem dDe_dataAt_14 : decode cDe_dataAt 14 = .ok (.aload_n 0, 1) := by decide +kernel
theorem dDe_dataAt_15 : decode cDe_dataAt 15 = .ok (.iload_n 1, 1) := by decide +kernel
theorem dDe_dataAt_16 : decode cDe_dataAt 16 = .ok (.iconst 4, 1) := by decide +kernel
theorem dDe_dataAt_17 : decode cDe_dataAt 17 = .ok (.iload_n 2, 1) := by decide +kernel
theorem dDe_dataAt_18 : decode cDe_dataAt 18 = .ok (.iadd, 1) := by decide +kernel
theorem dDe_dataAt_19 : decode cDe_dataAt 19 = .ok (.iload_n 3, 1) := by decide +kernel
theorem dDe_dataAt_20 : decode cDe_dataAt 20 = .ok (.isub, 1) := by decide +kernel
theorem dDe_dataAt_21 : decode cDe_dataAt 21 = .ok (.invokevirtual 62, 3) := by decide +kernel
theorem dDe_dataAt_24 : decode cDe_dataAt 24 = .ok (.ireturn, 1) := by decide +kernel
theorem dDe_dataAt_25 : decode cDe_dataAt 25 = .ok (.aload_n 0, 1) := by decide +kernel
theorem dDe_dataAt_26 : decode cDe_dataAt 26 = .ok (.aload_n 0, 1) := by decide +kernel
theorem dDe_dataAt_27 : decode cDe_dataAt 27 = .ok (.iload_n 1, 1) := by decide +kernel
theorem dDe_dataAt_28 : decode cDe_dataAt 28 = .ok (.invokevirtual 87, 3) := by decide +kernel
theorem dDe_dataAt_31 : decode cDe_dataAt 31 = .ok (.bipush 16, 2) := by decide +kernel
theorem dDe_dataAt_33 : decode cDe_dataAt 33 = .ok (.imul, 1) := by decide +kernel
theorem dDe_dataAt_34 : decode cDe_dataAt 34 = .ok (.iload_n 2, 1) := by decide +kernel
theorem dDe_dataAt_35 : decode cDe_dataAt 35 = .ok (.iadd, 1) := by decide +kernel
theorem dDe_dataAt_36 : decode cDe_dataAt 36 = .ok (.invokevirtual 102, 3) := by decide +kernel
theorem dDe_dataAt_39 : decode cDe_dataAt 39 = .ok (.ireturn, 1) := by decide +kernel
