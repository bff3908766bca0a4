theorem dDe_lookUp_0 : decode cDe_lookUp 0 = .ok (.iconst 0, 1) := by decide +kernel
theorem dDe_lookUp_1 : decode cDe_lookUp 1 = .ok (.istore_n 3, 1) := by decide +kernel
theorem dDe_lookUp_2 : decode cDe_lookUp 2 = .ok (.aload_n 0, 1) := by decide +kernel
theorem dDe_lookUp_3 : decode cDe_lookUp 3 = .ok (.iload_n 1, 1) := by decide +kernel
theorem dDe_lookUp_4 : decode cDe_lookUp 4 = .ok (.invokevirtual 69, 3) := by decide +kernel
theorem dDe_lookUp_7 : decode cDe_lookUp 7 = .ok (.iconst 3, 1) := by decide +kernel
theorem dDe_lookUp_8 : decode cDe_lookUp 8 = .ok (.idiv, 1) := by decide +kernel
theorem dDe_lookUp_9 : decode cDe_lookUp 9 = .ok (.istore 4, 2) := by decide +kernel
theorem dDe_lookUp_11 : decode cDe_lookUp 11 = .ok (.iconst 0, 1) := by decide +kernel
theorem dDe_lookUp_12 : decode cDe_lookUp 12 = .ok (.istore 5, 2) := by decide +kernel
theorem dDe_lookUp_14 : decode cDe_lookUp 14 = .ok (.iload 5, 2) := by decide +kernel
theorem dDe_lookUp_16 : decode cDe_lookUp 16 = .ok (.sipush 255, 3) := by decide +kernel
theorem dDe_lookUp_19 : decode cDe_lookUp 19 = .ok (.if_icmp .ge 70, 3) := by decide +kernel
theorem dDe_lookUp_22 : decode cDe_lookUp 22 = .ok (.iload_n 3, 1) := by decide +kernel
theorem dDe_lookUp_23 : decode cDe_lookUp 23 = .ok (.iload 4, 2) := by decide +kernel
theorem dDe_lookUp_25 : decode cDe_lookUp 25 = .ok (.if_icmp .ge 64, 3) := by decide +kernel
theorem dDe_lookUp_28 : decode cDe_lookUp 28 = .ok (.iload_n 3, 1) := by decide +kernel
theorem dDe_lookUp_29 : decode cDe_lookUp 29 = .ok (.iload 4, 2) := by decide +kernel
theorem dDe_lookUp_31 : decode cDe_lookUp 31 = .ok (.iadd, 1) := by decide +kernel
theorem dDe_lookUp_32 : decode cDe_lookUp 32 = .ok (.iconst 2, 1) := by decide +kernel
theorem dDe_lookUp_33 : decode cDe_lookUp 33 = .ok (.idiv, 1) := by decide +kernel
theorem dDe_lookUp_34 : decode cDe_lookUp 34 = .ok (.istore 6, 2) := by decide +kernel
theorem dDe_lookUp_36 : decode cDe_lookUp 36 = .ok (.aload_n 0, 1) := by decide +kernel
theorem dDe_lookUp_37 : decode cDe_lookUp 37 = .ok (.iload_n 1, 1) := by decide +kernel
theorem dDe_lookUp_38 : decode cDe_lookUp 38 = .ok (.iload 6, 2) := by decide +kernel
theorem dDe_lookUp_40 : decode cDe_lookUp 40 = .ok (.iconst 3, 1) := by decide +kernel
theorem dDe_lookUp_41 : decode cDe_lookUp 41 = .ok (.imul, 1) := by decide +kernel
theorem dDe_lookUp_42 : decode cDe_lookUp 42 = .ok (.invokevirtual 105, 3) := by decide +kernel
theorem dDe_lookUp_45 : decode cDe_lookUp 45 = .ok (.istore 7, 2) := by decide +kernel
theorem dDe_lookUp_47 : decode cDe_lookUp 47 = .ok (.iload 7, 2) := by decide +kernel
theorem dDe_lookUp_49 : decode cDe_lookUp 49 = .ok (.iload_n 2, 1) := by decide +kernel
theorem dDe_lookUp_50 : decode cDe_lookUp 50 = .ok (.if_icmp .ne 15, 3) := by decide +kernel
theorem dDe_lookUp_53 : decode cDe_lookUp 53 = .ok (.aload_n 0, 1) := by decide +kernel
theorem dDe_lookUp_54 : decode cDe_lookUp 54 = .ok (.iload_n 1, 1) := by decide +kernel
theorem dDe_lookUp_55 : decode cDe_lookUp 55 = .ok (.iload 6, 2) := by decide +kernel
theorem dDe_lookUp_57 : decode cDe_lookUp 57 = .ok (.iconst 3, 1) := by decide +kernel
theorem dDe_lookUp_58 : decode cDe_lookUp 58 = .ok (.imul, 1) := by decide +kernel
theorem dDe_lookUp_59 : decode cDe_lookUp 59 = .ok (.iconst 1, 1) := by decide +kernel
theorem dDe_lookUp_60 : decode cDe_lookUp 60 = .ok (.iadd, 1) := by decide +kernel
theorem dDe_lookUp_61 : decode cDe_lookUp 61 = .ok (.invokevirtual 105, 3) := by decide +kernel
theorem dDe_lookUp_64 : decode cDe_lookUp 64 = .ok (.ireturn, 1) := by decide +kernel
theorem dDe_lookUp_65 : decode cDe_lookUp 65 = .ok (.iload_n 2, 1) := by decide +kernel
theorem dDe_lookUp_66 : decode cDe_lookUp 66 = .ok (.iload 7, 2) := by decide +kernel
theorem dDe_lookUp_68 : decode cDe_lookUp 68 = .ok (.if_icmp .ge 10, 3) := by decide +kernel
theorem dDe_lookUp_71 : decode cDe_lookUp 71 = .ok (.iload 6, 2) := by decide +kernel
theorem dDe_lookUp_73 : decode cDe_lookUp 73 = .ok (.istore 4, 2) := by decide +kernel
theorem dDe_lookUp_75 : decode cDe_lookUp 75 = .ok (.goto 8, 3) := by decide +kernel
theorem dDe_lookUp_78 : decode cDe_lookUp 78 = .ok (.iload 6, 2) := by decide +kernel
theorem dDe_lookUp_80 : decode cDe_lookUp 80 = .ok (.iconst 1, 1) := by decide +kernel
theorem dDe_lookUp_81 : decode cDe_lookUp 81 = .ok (.iadd, 1) := by decide +kernel
theorem dDe_lookUp_82 : decode cDe_lookUp 82 = .ok (.istore_n 3, 1) := by decide +kernel
theorem dDe_lookUp_83 : decode cDe_lookUp 83 = .ok (.iinc 5 1, 3) := by decide +kernel
theorem dDe_lookUp_86 : decode cDe_lookUp 86 = .ok (.goto (-72), 3) := by decide +kernel
theorem dDe_lookUp_89 : decode cDe_lookUp 89 = .ok (.iconst (-1), 1) := by decide +kernel
theorem dDe_lookUp_90 : decode cDe_lookUp 90 = .ok (.ireturn, 1) := by decide +kernel
theorem dDe_hasWrongEntry_0 : decode cDe_hasWrongEntry 0 = .ok (.iconst (-1), 1) := by decide +kernel
theorem dDe_hasWrongEntry_1 : decode cDe_hasWrongEntry 1 = .ok (.istore_n 2, 1) := by decide +kernel
theorem dDe_hasWrongEntry_2 : decode cDe_hasWrongEntry 2 = .ok (.iconst 0, 1) := by decide +kernel
theorem dDe_hasWrongEntry_3 : decode cDe_hasWrongEntry 3 = .ok (.istore_n 3, 1) := by decide +kernel
theorem dDe_hasWrongEntry_4 : decode cDe_hasWrongEntry 4 = .ok (.iload_n 3, 1) := by decide +kernel
theorem dDe_hasWrongEntry_5 : decode cDe_hasWrongEntry 5 = .ok (.aload_n 0, 1) := by decide +kernel
theorem dDe_hasWrongEntry_6 : decode cDe_hasWrongEntry 6 = .ok (.iload_n 1, 1) := by decide +kernel
theorem dDe_hasWrongEntry_7 : decode cDe_hasWrongEntry 7 = .ok (.invokevirtual 69, 3) := by decide +kernel
theorem dDe_hasWrongEntry_10 : decode cDe_hasWrongEntry 10 = .ok (.if_icmp .ge 64, 3) := by decide +kernel
theorem dDe_hasWrongEntry_13 : decode cDe_hasWrongEntry 13 = .ok (.aload_n 0, 1) := by decide +kernel
theorem dDe_hasWrongEntry_14 : decode cDe_hasWrongEntry 14 = .ok (.iload_n 1, 1) := by decide +kernel
theorem dDe_hasWrongEntry_15 : decode cDe_hasWrongEntry 15 = .ok (.iload_n 3, 1) := by decide +kernel
theorem dDe_hasWrongEntry_16 : decode cDe_hasWrongEntry 16 = .ok (.invokevirtual 105, 3) := by decide +kernel
theorem dDe_hasWrongEntry_19 : decode cDe_hasWrongEntry 19 = .ok (.istore 4, 2) := by decide +kernel
theorem dDe_hasWrongEntry_21 : decode cDe_hasWrongEntry 21 = .ok (.aload_n 0, 1) := by decide +kernel
theorem dDe_hasWrongEntry_22 : decode cDe_hasWrongEntry 22 = .ok (.iload_n 1, 1) := by decide +kernel
theorem dDe_hasWrongEntry_23 : decode cDe_hasWrongEntry 23 = .ok (.iload_n 3, 1) := by decide +kernel
theorem dDe_hasWrongEntry_24 : decode cDe_hasWrongEntry 24 = .ok (.iconst 1, 1) := by decide +kernel
theorem dDe_hasWrongEntry_25 : decode cDe_hasWrongEntry 25 = .ok (.iadd, 1) := by decide +kernel
theorem dDe_hasWrongEntry_26 : decode cDe_hasWrongEntry 26 = .ok (.invokevirtual 105, 3) := by decide +kernel
theorem dDe_hasWrongEntry_29 : decode cDe_hasWrongEntry 29 = .ok (.istore 5, 2) := by decide +kernel
theorem dDe_hasWrongEntry_31 : decode cDe_hasWrongEntry 31 = .ok (.iload 4, 2) := by decide +kernel
theorem dDe_hasWrongEntry_33 : decode cDe_hasWrongEntry 33 = .ok (.iload_n 2, 1) := by decide +kernel
theorem dDe_hasWrongEntry_34 : decode cDe_hasWrongEntry 34 = .ok (.if_icmp .le 29, 3) := by decide +kernel
theorem dDe_hasWrongEntry_37 : decode cDe_hasWrongEntry 37 = .ok (.aload_n 0, 1) := by decide +kernel
theorem dDe_hasWrongEntry_38 : decode cDe_hasWrongEntry 38 = .ok (.iload 5, 2) := by decide +kernel
theorem dDe_hasWrongEntry_40 : decode cDe_hasWrongEntry 40 = .ok (.invokevirtual 108, 3) := by decide +kernel
theorem dDe_hasWrongEntry_43 : decode cDe_hasWrongEntry 43 = .ok (.ifCond .eq 20, 3) := by decide +kernel
theorem dDe_hasWrongEntry_46 : decode cDe_hasWrongEntry 46 = .ok (.aload_n 0, 1) := by decide +kernel
theorem dDe_hasWrongEntry_47 : decode cDe_hasWrongEntry 47 = .ok (.iload 5, 2) := by decide +kernel
theorem dDe_hasWrongEntry_49 : decode cDe_hasWrongEntry 49 = .ok (.invokevirtual 75, 3) := by decide +kernel
theorem dDe_hasWrongEntry_52 : decode cDe_hasWrongEntry 52 = .ok (.aload_n 0, 1) := by decide +kernel
theorem dDe_hasWrongEntry_53 : decode cDe_hasWrongEntry 53 = .ok (.iload_n 1, 1) := by decide +kernel
theorem dDe_hasWrongEntry_54 : decode cDe_hasWrongEntry 54 = .ok (.iload_n 3, 1) := by decide +kernel
theorem dDe_hasWrongEntry_55 : decode cDe_hasWrongEntry 55 = .ok (.iconst 2, 1) := by decide +kernel
theorem dDe_hasWrongEntry_56 : decode cDe_hasWrongEntry 56 = .ok (.iadd, 1) := by decide +kernel
theorem dDe_hasWrongEntry_57 : decode cDe_hasWrongEntry 57 = .ok (.invokevirtual 105, 3) := by decide +kernel
theorem dDe_hasWrongEntry_60 : decode cDe_hasWrongEntry 60 = .ok (.if_icmp .eq 5, 3) := by decide +kernel
theorem dDe_hasWrongEntry_63 : decode cDe_hasWrongEntry 63 = .ok (.iconst 1, 1) := by decide +kernel
theorem dDe_hasWrongEntry_64 : decode cDe_hasWrongEntry 64 = .ok (.ireturn, 1) := by decide +kernel
theorem dDe_hasWrongEntry_65 : decode cDe_hasWrongEntry 65 = .ok (.iload 4, 2) := by decide +kernel
theorem dDe_hasWrongEntry_67 : decode cDe_hasWrongEntry 67 = .ok (.istore_n 2, 1) := by decide +kernel
theorem dDe_hasWrongEntry_68 : decode cDe_hasWrongEntry 68 = .ok (.iinc 3 3, 3) := by decide +kernel
theorem dDe_hasWrongEntry_71 : decode cDe_hasWrongEntry 71 = .ok (.goto (-67), 3) := by decide +kernel
theorem dDe_hasWrongEntry_74 : decode cDe_hasWrongEntry 74 = .ok (.iconst 0, 1) := by decide +kernel
theorem dDe_hasWrongEntry_75 : decode cDe_hasWrongEntry 75 = .ok (.ireturn, 1) := by decide +kernel
theorem dPa_packContent_0 : decode cPa_packContent 0 = .ok (.aload_n 1, 1) := by decide +kernel
theorem dPa_packContent_1 : decode cPa_packContent 1 = .ok (.iload_n 2, 1) := by decide +kernel
theorem dPa_packContent_2 : decode cPa_packContent 2 = .ok (.aload_n 0, 1) := by decide +kernel
theorem dPa_packContent_3 : decode cPa_packContent 3 = .ok (.getfield 9, 3) := by decide +kernel
theorem dPa_packContent_6 : decode cPa_packContent 6 = .ok (.invokevirtual 21, 3) := by decide +kernel
theorem dPa_packContent_9 : decode cPa_packContent 9 = .ok (.aload_n 0, 1) := by decide +kernel
theorem dPa_packContent_10 : decode cPa_packContent 10 = .ok (.aload_n 1, 1) := by decide +kernel
theorem dPa_packContent_11 : decode cPa_packContent 11 = .ok (.iload_n 2, 1) := by decide +kernel
theorem dPa_packContent_12 : decode cPa_packContent 12 = .ok (.invokevirtual 27, 3) := by decide +kernel
theorem dPa_packContent_15 : decode cPa_packContent 15 = .ok (.putfield 31, 3) := by decide +kernel
theorem dPa_packContent_18 : decode cPa_packContent 18 = .ok (.aload_n 0, 1) := by decide +kernel
theorem dPa_packContent_19 : decode cPa_packContent 19 = .ok (.getfield 15, 3) := by decide +kernel
theorem dPa_packContent_22 : decode cPa_packContent 22 = .ok (.iconst 0, 1) := by decide +kernel
theorem dPa_packContent_23 : decode cPa_packContent 23 = .ok (.invokestatic 35, 3) := by decide +kernel
theorem dPa_packContent_26 : decode cPa_packContent 26 = .ok (.aload_n 0, 1) := by decide +kernel
theorem dPa_packContent_27 : decode cPa_packContent 27 = .ok (.iconst 0, 1) := by decide +kernel
theorem dPa_packContent_28 : decode cPa_packContent 28 = .ok (.putfield 41, 3) := by decide +kernel
theorem dPa_packContent_31 : decode cPa_packContent 31 = .ok (.aload_n 0, 1) := by decide +kernel
theorem dPa_packContent_32 : decode cPa_packContent 32 = .ok (.iconst 0, 1) := by decide +kernel
theorem dPa_packContent_33 : decode cPa_packContent 33 = .ok (.putfield 44, 3) := by decide +kernel
theorem dPa_packContent_36 : decode cPa_packContent 36 = .ok (.aload_n 0, 1) := by decide +kernel
theorem dPa_packContent_37 : decode cPa_packContent 37 = .ok (.getfield 44, 3) := by decide +kernel
theorem dPa_packContent_40 : decode cPa_packContent 40 = .ok (.bipush 11, 2) := by decide +kernel
theorem dPa_packContent_42 : decode cPa_packContent 42 = .ok (.if_icmp .ge 44, 3) := by decide +kernel
theorem dPa_packContent_45 : decode cPa_packContent 45 = .ok (.aload_n 0, 1) := by decide +kernel
theorem dPa_packContent_46 : decode cPa_packContent 46 = .ok (.getfield 41, 3) := by decide +kernel
theorem dPa_packContent_49 : decode cPa_packContent 49 = .ok (.aload_n 0, 1) := by decide +kernel
theorem dPa_packContent_50 : decode cPa_packContent 50 = .ok (.getfield 31, 3) := by decide +kernel
theorem dPa_packContent_53 : decode cPa_packContent 53 = .ok (.if_icmp .ge 33, 3) := by decide +kernel
theorem dPa_packContent_56 : decode cPa_packContent 56 = .ok (.aload_n 0, 1) := by decide +kernel
theorem dPa_packContent_57 : decode cPa_packContent 57 = .ok (.invokevirtual 47, 3) := by decide +kernel
theorem dPa_packContent_60 : decode cPa_packContent 60 = .ok (.aload_n 0, 1) := by decide +kernel
theorem dPa_packContent_61 : decode cPa_packContent 61 = .ok (.getfield 18, 3) := by decide +kernel
theorem dPa_packContent_64 : decode cPa_packContent 64 = .ok (.aload_n 0, 1) := by decide +kernel
theorem dPa_packContent_65 : decode cPa_packContent 65 = .ok (.getfield 44, 3) := by decide +kernel
theorem dPa_packContent_68 : decode cPa_packContent 68 = .ok (.aload_n 0, 1) := by decide +kernel
theorem dPa_packContent_69 : decode cPa_packContent 69 = .ok (.getfield 41, 3) := by decide +kernel
theorem dPa_packContent_72 : decode cPa_packContent 72 = .ok (.iastore, 1) := by decide +kernel
theorem dPa_packContent_73 : decode cPa_packContent 73 = .ok (.aload_n 0, 1) := by decide +kernel
theorem dPa_packContent_74 : decode cPa_packContent 74 = .ok (.dup, 1) := by decide +kernel
theorem dPa_packContent_75 : decode cPa_packContent 75 = .ok (.getfield 44, 3) := by decide +kernel
theorem dPa_packContent_78 : decode cPa_packContent 78 = .ok (.iconst 1, 1) := by decide +kernel
theorem dPa_packContent_79 : decode cPa_packContent 79 = .ok (.iadd, 1) := by decide +kernel
theorem dPa_packContent_80 : decode cPa_packContent 80 = .ok (.putfield 44, 3) := by decide +kernel
theorem dPa_packContent_83 : decode cPa_packContent 83 = .ok (.goto (-47), 3) := by decide +kernel
theorem dPa_packContent_86 : decode cPa_packContent 86 = .ok (.aload_n 0, 1) := by decide +kernel
theorem dPa_packContent_87 : decode cPa_packContent 87 = .ok (.getfield 41, 3) := by decide +kernel
theorem dPa_packContent_90 : decode cPa_packContent 90 = .ok (.aload_n 0, 1) := by decide +kernel
theorem dPa_packContent_91 : decode cPa_packContent 91 = .ok (.getfield 31, 3) := by decide +kernel
theorem dPa_packContent_94 : decode cPa_packContent 94 = .ok (.if_icmp .lt 7, 3) := by decide +kernel
theorem dPa_packContent_97 : decode cPa_packContent 97 = .ok (.iconst 1, 1) := by decide +kernel
theorem dPa_packContent_98 : decode cPa_packContent 98 = .ok (.goto 4, 3) := by decide +kernel
theorem dPa_packContent_101 : decode cPa_packContent 101 = .ok (.iconst 0, 1) := by decide +kernel
theorem dPa_packContent_102 : decode cPa_packContent 102 = .ok (.ireturn, 1) := by decide +kernel
theorem dPa_packCluster_0 : decode cPa_packCluster 0 = .ok (.aload_n 0, 1) := by decide +kernel
theorem dPa_packCluster_1 : decode cPa_packCluster 1 = .ok (.aload_n 0, 1) := by decide +kernel
theorem dPa_packCluster_2 : decode cPa_packCluster 2 = .ok (.getfield 41, 3) := by decide +kernel
theorem dPa_packCluster_5 : decode cPa_packCluster 5 = .ok (.putfield 50, 3) := by decide +kernel
theorem dPa_packCluster_8 : decode cPa_packCluster 8 = .ok (.aload_n 0, 1) := by decide +kernel
theorem dPa_packCluster_9 : decode cPa_packCluster 9 = .ok (.iconst 0, 1) := by decide +kernel
theorem dPa_packCluster_10 : decode cPa_packCluster 10 = .ok (.putfield 53, 3) := by decide +kernel
theorem dPa_packCluster_13 : decode cPa_packCluster 13 = .ok (.iconst 1, 1) := by decide +kernel
theorem dPa_packCluster_14 : decode cPa_packCluster 14 = .ok (.istore_n 1, 1) := by decide +kernel
theorem dPa_packCluster_15 : decode cPa_packCluster 15 = .ok (.iconst 0, 1) := by decide +kernel
theorem dPa_packCluster_16 : decode cPa_packCluster 16 = .ok (.istore_n 2, 1) := by decide +kernel
theorem dPa_packCluster_17 : decode cPa_packCluster 17 = .ok (.iload_n 2, 1) := by decide +kernel
theorem dPa_packCluster_18 : decode cPa_packCluster 18 = .ok (.bipush 16, 2) := by decide +kernel
theorem dPa_packCluster_20 : decode cPa_packCluster 20 = .ok (.if_icmp .ge 46, 3) := by decide +kernel
theorem dPa_packCluster_23 : decode cPa_packCluster 23 = .ok (.iload_n 1, 1) := by decide +kernel
theorem dPa_packCluster_24 : decode cPa_packCluster 24 = .ok (.ifCond .eq 42, 3) := by decide +kernel
theorem dPa_packCluster_27 : decode cPa_packCluster 27 = .ok (.aload_n 0, 1) := by decide +kernel
theorem dPa_packCluster_28 : decode cPa_packCluster 28 = .ok (.invokevirtual 56, 3) := by decide +kernel
theorem dPa_packCluster_31 : decode cPa_packCluster 31 = .ok (.ifCond .eq 27, 3) := by decide +kernel
theorem dPa_packCluster_34 : decode cPa_packCluster 34 = .ok (.aload_n 0, 1) := by decide +kernel
theorem dPa_packCluster_35 : decode cPa_packCluster 35 = .ok (.getfield 41, 3) := by decide +kernel
theorem dPa_packCluster_38 : decode cPa_packCluster 38 = .ok (.aload_n 0, 1) := by decide +kernel
theorem dPa_packCluster_39 : decode cPa_packCluster 39 = .ok (.getfield 31, 3) := by decide +kernel
theorem dPa_packCluster_42 : decode cPa_packCluster 42 = .ok (.if_icmp .ge 16, 3) := by decide +kernel
theorem dPa_packCluster_45 : decode cPa_packCluster 45 = .ok (.aload_n 0, 1) := by decide +kernel
theorem dPa_packCluster_46 : decode cPa_packCluster 46 = .ok (.getfield 53, 3) := by decide +kernel
theorem dPa_packCluster_49 : decode cPa_packCluster 49 = .ok (.bipush 16, 2) := by decide +kernel
theorem dPa_packCluster_51 : decode cPa_packCluster 51 = .ok (.if_icmp .ge 7, 3) := by decide +kernel
theorem dPa_packCluster_54 : decode cPa_packCluster 54 = .ok (.iconst 1, 1) := by decide +kernel
theorem dPa_packCluster_55 : decode cPa_packCluster 55 = .ok (.goto 4, 3) := by decide +kernel
theorem dPa_packCluster_58 : decode cPa_packCluster 58 = .ok (.iconst 0, 1) := by decide +kernel
theorem dPa_packCluster_59 : decode cPa_packCluster 59 = .ok (.istore_n 1, 1) := by decide +kernel
theorem dPa_packCluster_60 : decode cPa_packCluster 60 = .ok (.iinc 2 1, 3) := by decide +kernel
theorem dPa_packCluster_63 : decode cPa_packCluster 63 = .ok (.goto (-46), 3) := by decide +kernel
theorem dPa_packCluster_66 : decode cPa_packCluster 66 = .ok (.return_, 1) := by decide +kernel
theorem dPa_putNext_0 : decode cPa_putNext 0 = .ok (.iconst 0, 1) := by decide +kernel
theorem dPa_putNext_1 : decode cPa_putNext 1 = .ok (.istore_n 1, 1) := by decide +kernel
theorem dPa_putNext_2 : decode cPa_putNext 2 = .ok (.aload_n 0, 1) := by decide +kernel
theorem dPa_putNext_3 : decode cPa_putNext 3 = .ok (.aload_n 0, 1) := by decide +kernel
theorem dPa_putNext_4 : decode cPa_putNext 4 = .ok (.getfield 41, 3) := by decide +kernel
theorem dPa_putNext_7 : decode cPa_putNext 7 = .ok (.invokevirtual 60, 3) := by decide +kernel
theorem dPa_putNext_10 : decode cPa_putNext 10 = .ok (.istore_n 2, 1) := by decide +kernel
theorem dPa_putNext_11 : decode cPa_putNext 11 = .ok (.iload_n 2, 1) := by decide +kernel
theorem dPa_putNext_12 : decode cPa_putNext 12 = .ok (.ifCond .ne 39, 3) := by decide +kernel
theorem dPa_putNext_15 : decode cPa_putNext 15 = .ok (.iload_n 1, 1) := by decide +kernel
theorem dPa_putNext_16 : decode cPa_putNext 16 = .ok (.bipush 15, 2) := by decide +kernel
theorem dPa_putNext_18 : decode cPa_putNext 18 = .ok (.if_icmp .ge 33, 3) := by decide +kernel
theorem dPa_putNext_21 : decode cPa_putNext 21 = .ok (.aload_n 0, 1) := by decide +kernel
theorem dPa_putNext_22 : decode cPa_putNext 22 = .ok (.getfield 41, 3) := by decide +kernel
theorem dPa_putNext_25 : decode cPa_putNext 25 = .ok (.iload_n 1, 1) := by decide +kernel
theorem dPa_putNext_26 : decode cPa_putNext 26 = .ok (.iadd, 1) := by decide +kernel
theorem dPa_putNext_27 : decode cPa_putNext 27 = .ok (.aload_n 0, 1) := by decide +kernel
theorem dPa_putNext_28 : decode cPa_putNext 28 = .ok (.getfield 31, 3) := by decide +kernel
theorem dPa_putNext_31 : decode cPa_putNext 31 = .ok (.if_icmp .ge 20, 3) := by decide +kernel
theorem dPa_putNext_34 : decode cPa_putNext 34 = .ok (.iinc 1 1, 3) := by decide +kernel
theorem dPa_putNext_37 : decode cPa_putNext 37 = .ok (.aload_n 0, 1) := by decide +kernel
theorem dPa_putNext_38 : decode cPa_putNext 38 = .ok (.aload_n 0, 1) := by decide +kernel
theorem dPa_putNext_39 : decode cPa_putNext 39 = .ok (.getfield 41, 3) := by decide +kernel
theorem dPa_putNext_42 : decode cPa_putNext 42 = .ok (.iload_n 1, 1) := by decide +kernel
theorem dPa_putNext_43 : decode cPa_putNext 43 = .ok (.iadd, 1) := by decide +kernel
theorem dPa_putNext_44 : decode cPa_putNext 44 = .ok (.invokevirtual 60, 3) := by decide +kernel
theorem dPa_putNext_47 : decode cPa_putNext 47 = .ok (.istore_n 2, 1) := by decide +kernel
theorem dPa_putNext_48 : decode cPa_putNext 48 = .ok (.goto (-37), 3) := by decide +kernel
theorem dPa_putNext_51 : decode cPa_putNext 51 = .ok (.bipush 16, 2) := by decide +kernel
theorem dPa_putNext_53 : decode cPa_putNext 53 = .ok (.aload_n 0, 1) := by decide +kernel
theorem dPa_putNext_54 : decode cPa_putNext 54 = .ok (.getfield 53, 3) := by decide +kernel
theorem dPa_putNext_57 : decode cPa_putNext 57 = .ok (.isub, 1) := by decide +kernel
theorem dPa_putNext_58 : decode cPa_putNext 58 = .ok (.iconst 1, 1) := by decide +kernel
theorem dPa_putNext_59 : decode cPa_putNext 59 = .ok (.isub, 1) := by decide +kernel
theorem dPa_putNext_60 : decode cPa_putNext 60 = .ok (.istore_n 3, 1) := by decide +kernel
theorem dPa_putNext_61 : decode cPa_putNext 61 = .ok (.iload_n 1, 1) := by decide +kernel
theorem dPa_putNext_62 : decode cPa_putNext 62 = .ok (.iload_n 2, 1) := by decide +kernel
theorem dPa_putNext_63 : decode cPa_putNext 63 = .ok (.ifCond .le 7, 3) := by decide +kernel
theorem dPa_putNext_66 : decode cPa_putNext 66 = .ok (.iconst 1, 1) := by decide +kernel
theorem dPa_putNext_67 : decode cPa_putNext 67 = .ok (.goto 4, 3) := by decide +kernel
theorem dPa_putNext_70 : decode cPa_putNext 70 = .ok (.iconst 0, 1) := by decide +kernel
theorem dPa_putNext_71 : decode cPa_putNext 71 = .ok (.iadd, 1) := by decide +kernel
theorem dPa_putNext_72 : decode cPa_putNext 72 = .ok (.iload_n 3, 1) := by decide +kernel
theorem dPa_putNext_73 : decode cPa_putNext 73 = .ok (.if_icmp .gt 11, 3) := by decide +kernel
theorem dPa_putNext_76 : decode cPa_putNext 76 = .ok (.aload_n 0, 1) := by decide +kernel
theorem dPa_putNext_77 : decode cPa_putNext 77 = .ok (.iload_n 1, 1) := by decide +kernel
theorem dPa_putNext_78 : decode cPa_putNext 78 = .ok (.iload_n 2, 1) := by decide +kernel
theorem dPa_putNext_79 : decode cPa_putNext 79 = .ok (.invokevirtual 63, 3) := by decide +kernel
theorem dPa_putNext_82 : decode cPa_putNext 82 = .ok (.iconst 1, 1) := by decide +kernel
theorem dPa_putNext_83 : decode cPa_putNext 83 = .ok (.ireturn, 1) := by decide +kernel
theorem dPa_putNext_84 : decode cPa_putNext 84 = .ok (.iload_n 1, 1) := by decide +kernel
theorem dPa_putNext_85 : decode cPa_putNext 85 = .ok (.iload_n 3, 1) := by decide +kernel
theorem dPa_putNext_86 : decode cPa_putNext 86 = .ok (.invokestatic 67, 3) := by decide +kernel
theorem dPa_putNext_89 : decode cPa_putNext 89 = .ok (.istore 4, 2) := by decide +kernel
theorem dPa_putNext_91 : decode cPa_putNext 91 = .ok (.iload 4, 2) := by decide +kernel
theorem dPa_putNext_93 : decode cPa_putNext 93 = .ok (.ifCond .le 10, 3) := by decide +kernel
theorem dPa_putNext_96 : decode cPa_putNext 96 = .ok (.aload_n 0, 1) := by decide +kernel
theorem dPa_putNext_97 : decode cPa_putNext 97 = .ok (.iload 4, 2) := by decide +kernel
theorem dPa_putNext_99 : decode cPa_putNext 99 = .ok (.iconst 0, 1) := by decide +kernel
theorem dPa_putNext_100 : decode cPa_putNext 100 = .ok (.invokevirtual 63, 3) := by decide +kernel
theorem dPa_putNext_103 : decode cPa_putNext 103 = .ok (.iconst 0, 1) := by decide +kernel
theorem dPa_putNext_104 : decode cPa_putNext 104 = .ok (.ireturn, 1) := by decide +kernel
theorem dPa_matchAt_0 : decode cPa_matchAt 0 = .ok (.bipush 17, 2) := by decide +kernel
theorem dPa_matchAt_2 : decode cPa_matchAt 2 = .ok (.aload_n 0, 1) := by decide +kernel
theorem dPa_matchAt_3 : decode cPa_matchAt 3 = .ok (.getfield 31, 3) := by decide +kernel
theorem dPa_matchAt_6 : decode cPa_matchAt 6 = .ok (.iload_n 1, 1) := by decide +kernel
theorem dPa_matchAt_7 : decode cPa_matchAt 7 = .ok (.isub, 1) := by decide +kernel
theorem dPa_matchAt_8 : decode cPa_matchAt 8 = .ok (.invokestatic 67, 3) := by decide +kernel
theorem dPa_matchAt_11 : decode cPa_matchAt 11 = .ok (.istore_n 2, 1) := by decide +kernel
theorem dPa_matchAt_12 : decode cPa_matchAt 12 = .ok (.iconst 2, 1) := by decide +kernel
theorem dPa_matchAt_13 : decode cPa_matchAt 13 = .ok (.istore_n 3, 1) := by decide +kernel
theorem dPa_matchAt_14 : decode cPa_matchAt 14 = .ok (.aload_n 0, 1) := by decide +kernel
theorem dPa_matchAt_15 : decode cPa_matchAt 15 = .ok (.iconst 0, 1) := by decide +kernel
theorem dPa_matchAt_16 : decode cPa_matchAt 16 = .ok (.putfield 73, 3) := by decide +kernel
theorem dPa_matchAt_19 : decode cPa_matchAt 19 = .ok (.iconst 1, 1) := by decide +kernel
theorem dPa_matchAt_20 : decode cPa_matchAt 20 = .ok (.istore 4, 2) := by decide +kernel
theorem dPa_matchAt_22 : decode cPa_matchAt 22 = .ok (.iload 4, 2) := by decide +kernel
theorem dPa_matchAt_24 : decode cPa_matchAt 24 = .ok (.iload_n 1, 1) := by decide +kernel
theorem dPa_matchAt_25 : decode cPa_matchAt 25 = .ok (.aload_n 0, 1) := by decide +kernel
theorem dPa_matchAt_26 : decode cPa_matchAt 26 = .ok (.getfield 50, 3) := by decide +kernel
theorem dPa_matchAt_29 : decode cPa_matchAt 29 = .ok (.isub, 1) := by decide +kernel
theorem dPa_matchAt_30 : decode cPa_matchAt 30 = .ok (.if_icmp .gt 68, 3) := by decide +kernel
theorem dPa_matchAt_33 : decode cPa_matchAt 33 = .ok (.iload_n 3, 1) := by decide +kernel
theorem dPa_matchAt_34 : decode cPa_matchAt 34 = .ok (.iload_n 2, 1) := by decide +kernel
theorem dPa_matchAt_35 : decode cPa_matchAt 35 = .ok (.if_icmp .ge 63, 3) := by decide +kernel
theorem dPa_matchAt_38 : decode cPa_matchAt 38 = .ok (.iconst 0, 1) := by decide +kernel
theorem dPa_matchAt_39 : decode cPa_matchAt 39 = .ok (.istore 5, 2) := by decide +kernel
theorem dPa_matchAt_41 : decode cPa_matchAt 41 = .ok (.iload 5, 2) := by decide +kernel
theorem dPa_matchAt_43 : decode cPa_matchAt 43 = .ok (.iload_n 2, 1) := by decide +kernel
theorem dPa_matchAt_44 : decode cPa_matchAt 44 = .ok (.if_icmp .ge 33, 3) := by decide +kernel
theorem dPa_matchAt_47 : decode cPa_matchAt 47 = .ok (.aload_n 0, 1) := by decide +kernel
theorem dPa_matchAt_48 : decode cPa_matchAt 48 = .ok (.getfield 9, 3) := by decide +kernel
theorem dPa_matchAt_51 : decode cPa_matchAt 51 = .ok (.iload_n 1, 1) := by decide +kernel
theorem dPa_matchAt_52 : decode cPa_matchAt 52 = .ok (.iload 5, 2) := by decide +kernel
theorem dPa_matchAt_54 : decode cPa_matchAt 54 = .ok (.iadd, 1) := by decide +kernel
theorem dPa_matchAt_55 : decode cPa_matchAt 55 = .ok (.iaload, 1) := by decide +kernel
theorem dPa_matchAt_56 : decode cPa_matchAt 56 = .ok (.aload_n 0, 1) := by decide +kernel
theorem dPa_matchAt_57 : decode cPa_matchAt 57 = .ok (.getfield 9, 3) := by decide +kernel
theorem dPa_matchAt_60 : decode cPa_matchAt 60 = .ok (.iload_n 1, 1) := by decide +kernel
theorem dPa_matchAt_61 : decode cPa_matchAt 61 = .ok (.iload 5, 2) := by decide +kernel
theorem dPa_matchAt_63 : decode cPa_matchAt 63 = .ok (.iadd, 1) := by decide +kernel
theorem dPa_matchAt_64 : decode cPa_matchAt 64 = .ok (.iload 4, 2) := by decide +kernel
theorem dPa_matchAt_66 : decode cPa_matchAt 66 = .ok (.isub, 1) := by decide +kernel
theorem dPa_matchAt_67 : decode cPa_matchAt 67 = .ok (.iaload, 1) := by decide +kernel
theorem dPa_matchAt_68 : decode cPa_matchAt 68 = .ok (.if_icmp .ne 9, 3) := by decide +kernel
theorem dPa_matchAt_71 : decode cPa_matchAt 71 = .ok (.iinc 5 1, 3) := by decide +kernel
theorem dPa_matchAt_74 : decode cPa_matchAt 74 = .ok (.goto (-33), 3) := by decide +kernel
theorem dPa_matchAt_77 : decode cPa_matchAt 77 = .ok (.iload 5, 2) := by decide +kernel
theorem dPa_matchAt_79 : decode cPa_matchAt 79 = .ok (.iload_n 3, 1) := by decide +kernel
theorem dPa_matchAt_80 : decode cPa_matchAt 80 = .ok (.if_icmp .le 12, 3) := by decide +kernel
theorem dPa_matchAt_83 : decode cPa_matchAt 83 = .ok (.iload 5, 2) := by decide +kernel
theorem dPa_matchAt_85 : decode cPa_matchAt 85 = .ok (.istore_n 3, 1) := by decide +kernel
theorem dPa_matchAt_86 : decode cPa_matchAt 86 = .ok (.aload_n 0, 1) := by decide +kernel
theorem dPa_matchAt_87 : decode cPa_matchAt 87 = .ok (.iload 4, 2) := by decide +kernel
theorem dPa_matchAt_89 : decode cPa_matchAt 89 = .ok (.putfield 73, 3) := by decide +kernel
theorem dPa_matchAt_92 : decode cPa_matchAt 92 = .ok (.iinc 4 1, 3) := by decide +kernel
theorem dPa_matchAt_95 : decode cPa_matchAt 95 = .ok (.goto (-73), 3) := by decide +kernel
theorem dPa_matchAt_98 : decode cPa_matchAt 98 = .ok (.aload_n 0, 1) := by decide +kernel
theorem dPa_matchAt_99 : decode cPa_matchAt 99 = .ok (.getfield 73, 3) := by decide +kernel
theorem dPa_matchAt_102 : decode cPa_matchAt 102 = .ok (.ifCond .ne 7, 3) := by decide +kernel
theorem dPa_matchAt_105 : decode cPa_matchAt 105 = .ok (.iconst 0, 1) := by decide +kernel
theorem dPa_matchAt_106 : decode cPa_matchAt 106 = .ok (.goto 4, 3) := by decide +kernel
theorem dPa_matchAt_109 : decode cPa_matchAt 109 = .ok (.iload_n 3, 1) := by decide +kernel
theorem dPa_matchAt_110 : decode cPa_matchAt 110 = .ok (.ireturn, 1) := by decide +kernel
theorem dPa_putToken_0 : decode cPa_putToken 0 = .ok (.aload_n 0, 1) := by decide +kernel
theorem dPa_putToken_1 : decode cPa_putToken 1 = .ok (.iload_n 1, 1) := by decide +kernel
theorem dPa_putToken_2 : decode cPa_putToken 2 = .ok (.iconst 4, 1) := by decide +kernel
theorem dPa_putToken_3 : decode cPa_putToken 3 = .ok (.ishl, 1) := by decide +kernel
theorem dPa_putToken_4 : decode cPa_putToken 4 = .ok (.iload_n 2, 1) := by decide +kernel
theorem dPa_putToken_5 : decode cPa_putToken 5 = .ok (.ifCond .le 11, 3) := by decide +kernel
theorem dPa_putToken_8 : decode cPa_putToken 8 = .ok (.iload_n 2, 1) := by decide +kernel
theorem dPa_putToken_9 : decode cPa_putToken 9 = .ok (.iconst 3, 1) := by decide +kernel
theorem dPa_putToken_10 : decode cPa_putToken 10 = .ok (.isub, 1) := by decide +kernel
theorem dPa_putToken_11 : decode cPa_putToken 11 = .ok (.iconst 1, 1) := by decide +kernel
theorem dPa_putToken_12 : decode cPa_putToken 12 = .ok (.iadd, 1) := by decide +kernel
theorem dPa_putToken_13 : decode cPa_putToken 13 = .ok (.goto 4, 3) := by decide +kernel
theorem dPa_putToken_16 : decode cPa_putToken 16 = .ok (.iconst 0, 1) := by decide +kernel
theorem dPa_putToken_17 : decode cPa_putToken 17 = .ok (.ior, 1) := by decide +kernel
theorem dPa_putToken_18 : decode cPa_putToken 18 = .ok (.invokevirtual 76, 3) := by decide +kernel
theorem dPa_putToken_21 : decode cPa_putToken 21 = .ok (.iconst 0, 1) := by decide +kernel
theorem dPa_putToken_22 : decode cPa_putToken 22 = .ok (.istore_n 3, 1) := by decide +kernel
theorem dPa_putToken_23 : decode cPa_putToken 23 = .ok (.iload_n 3, 1) := by decide +kernel
theorem dPa_putToken_24 : decode cPa_putToken 24 = .ok (.iload_n 1, 1) := by decide +kernel
theorem dPa_putToken_25 : decode cPa_putToken 25 = .ok (.if_icmp .ge 24, 3) := by decide +kernel
theorem dPa_putToken_28 : decode cPa_putToken 28 = .ok (.aload_n 0, 1) := by decide +kernel
theorem dPa_putToken_29 : decode cPa_putToken 29 = .ok (.aload_n 0, 1) := by decide +kernel
theorem dPa_putToken_30 : decode cPa_putToken 30 = .ok (.getfield 9, 3) := by decide +kernel
theorem dPa_putToken_33 : decode cPa_putToken 33 = .ok (.aload_n 0, 1) := by decide +kernel
theorem dPa_putToken_34 : decode cPa_putToken 34 = .ok (.getfield 41, 3) := by decide +kernel
theorem dPa_putToken_37 : decode cPa_putToken 37 = .ok (.iload_n 3, 1) := by decide +kernel
theorem dPa_putToken_38 : decode cPa_putToken 38 = .ok (.iadd, 1) := by decide +kernel
theorem dPa_putToken_39 : decode cPa_putToken 39 = .ok (.iaload, 1) := by decide +kernel
theorem dPa_putToken_40 : decode cPa_putToken 40 = .ok (.invokevirtual 76, 3) := by decide +kernel
theorem dPa_putToken_43 : decode cPa_putToken 43 = .ok (.iinc 3 1, 3) := by decide +kernel
theorem dPa_putToken_46 : decode cPa_putToken 46 = .ok (.goto (-23), 3) := by decide +kernel
theorem dPa_putToken_49 : decode cPa_putToken 49 = .ok (.iload_n 2, 1) := by decide +kernel
theorem dPa_putToken_50 : decode cPa_putToken 50 = .ok (.ifCond .le 11, 3) := by decide +kernel
theorem dPa_putToken_53 : decode cPa_putToken 53 = .ok (.aload_n 0, 1) := by decide +kernel
theorem dPa_putToken_54 : decode cPa_putToken 54 = .ok (.aload_n 0, 1) := by decide +kernel
theorem dPa_putToken_55 : decode cPa_putToken 55 = .ok (.getfield 73, 3) := by decide +kernel
theorem dPa_putToken_58 : decode cPa_putToken 58 = .ok (.invokevirtual 76, 3) := by decide +kernel
theorem dPa_putToken_61 : decode cPa_putToken 61 = .ok (.aload_n 0, 1) := by decide +kernel
theorem dPa_putToken_62 : decode cPa_putToken 62 = .ok (.dup, 1) := by decide +kernel
theorem dPa_putToken_63 : decode cPa_putToken 63 = .ok (.getfield 41, 3) := by decide +kernel
theorem dPa_putToken_66 : decode cPa_putToken 66 = .ok (.iload_n 1, 1) := by decide +kernel
theorem dPa_putToken_67 : decode cPa_putToken 67 = .ok (.iload_n 2, 1) := by decide +kernel
theorem dPa_putToken_68 : decode cPa_putToken 68 = .ok (.iadd, 1) := by decide +kernel
theorem dPa_putToken_69 : decode cPa_putToken 69 = .ok (.iadd, 1) := by decide +kernel
theorem dPa_putToken_70 : decode cPa_putToken 70 = .ok (.putfield 41, 3) := by decide +kernel
theorem dPa_putToken_73 : decode cPa_putToken 73 = .ok (.return_, 1) := by decide +kernel
theorem dPa_putByte_0 : decode cPa_putByte 0 = .ok (.aload_n 0, 1) := by decide +kernel
theorem dPa_putByte_1 : decode cPa_putByte 1 = .ok (.getfield 15, 3) := by decide +kernel
theorem dPa_putByte_4 : decode cPa_putByte 4 = .ok (.aload_n 0, 1) := by decide +kernel
theorem dPa_putByte_5 : decode cPa_putByte 5 = .ok (.getfield 44, 3) := by decide +kernel
theorem dPa_putByte_8 : decode cPa_putByte 8 = .ok (.bipush 16, 2) := by decide +kernel
theorem dPa_putByte_10 : decode cPa_putByte 10 = .ok (.imul, 1) := by decide +kernel
theorem dPa_putByte_11 : decode cPa_putByte 11 = .ok (.aload_n 0, 1) := by decide +kernel
theorem dPa_putByte_12 : decode cPa_putByte 12 = .ok (.getfield 53, 3) := by decide +kernel
theorem dPa_putByte_15 : decode cPa_putByte 15 = .ok (.iadd, 1) := by decide +kernel
theorem dPa_putByte_16 : decode cPa_putByte 16 = .ok (.iload_n 1, 1) := by decide +kernel
theorem dPa_putByte_17 : decode cPa_putByte 17 = .ok (.iastore, 1) := by decide +kernel
theorem dPa_putByte_18 : decode cPa_putByte 18 = .ok (.aload_n 0, 1) := by decide +kernel
theorem dPa_putByte_19 : decode cPa_putByte 19 = .ok (.dup, 1) := by decide +kernel
theorem dPa_putByte_20 : decode cPa_putByte 20 = .ok (.getfield 53, 3) := by decide +kernel
theorem dPa_putByte_23 : decode cPa_putByte 23 = .ok (.iconst 1, 1) := by decide +kernel
theorem dPa_putByte_24 : decode cPa_putByte 24 = .ok (.iadd, 1) := by decide +kernel
theorem dPa_putByte_25 : decode cPa_putByte 25 = .ok (.putfield 53, 3) := by decide +kernel
theorem dPa_putByte_28 : decode cPa_putByte 28 = .ok (.return_, 1) := by decide +kernel
theorem dTr_isFull_0 : decode cTr_isFull 0 = .ok (.aload_n 0, 1) := by decide +kernel
theorem dTr_isFull_1 : decode cTr_isFull 1 = .ok (.getfield 33, 3) := by decide +kernel
theorem dTr_isFull_4 : decode cTr_isFull 4 = .ok (.bipush 16, 2) := by decide +kernel
theorem dTr_isFull_6 : decode cTr_isFull 6 = .ok (.if_icmp .lt 7, 3) := by decide +kernel
theorem dTr_isFull_9 : decode cTr_isFull 9 = .ok (.iconst 1, 1) := by decide +kernel
theorem dTr_isFull_10 : decode cTr_isFull 10 = .ok (.goto 4, 3) := by decide +kernel
theorem dTr_isFull_13 : decode cTr_isFull 13 = .ok (.iconst 0, 1) := by decide +kernel
theorem dTr_isFull_14 : decode cTr_isFull 14 = .ok (.ireturn, 1) := by decide +kernel
theorem dTr_isNodeOf_0 : decode cTr_isNodeOf 0 = .ok (.iload_n 1, 1) := by decide +kernel
theorem dTr_isNodeOf_1 : decode cTr_isNodeOf 1 = .ok (.ifCond .lt 25, 3) := by decide +kernel
theorem dTr_isNodeOf_4 : decode cTr_isNodeOf 4 = .ok (.iload_n 1, 1) := by decide +kernel
theorem dTr_isNodeOf_5 : decode cTr_isNodeOf 5 = .ok (.aload_n 0, 1) := by decide +kernel
theorem dTr_isNodeOf_6 : decode cTr_isNodeOf 6 = .ok (.getfield 33, 3) := by decide +kernel
theorem dTr_isNodeOf_9 : decode cTr_isNodeOf 9 = .ok (.if_icmp .ge 17, 3) := by decide +kernel
theorem dTr_isNodeOf_12 : decode cTr_isNodeOf 12 = .ok (.aload_n 0, 1) := by decide +kernel
theorem dTr_isNodeOf_13 : decode cTr_isNodeOf 13 = .ok (.getfield 9, 3) := by decide +kernel
theorem dTr_isNodeOf_16 : decode cTr_isNodeOf 16 = .ok (.iload_n 1, 1) := by decide +kernel
theorem dTr_isNodeOf_17 : decode cTr_isNodeOf 17 = .ok (.iaload, 1) := by decide +kernel
theorem dTr_isNodeOf_18 : decode cTr_isNodeOf 18 = .ok (.iload_n 2, 1) := by decide +kernel
theorem dTr_isNodeOf_19 : decode cTr_isNodeOf 19 = .ok (.if_icmp .ne 7, 3) := by decide +kernel
theorem dTr_isNodeOf_22 : decode cTr_isNodeOf 22 = .ok (.iconst 1, 1) := by decide +kernel
theorem dTr_isNodeOf_23 : decode cTr_isNodeOf 23 = .ok (.goto 4, 3) := by decide +kernel
theorem dTr_isNodeOf_26 : decode cTr_isNodeOf 26 = .ok (.iconst 0, 1) := by decide +kernel
theorem dTr_isNodeOf_27 : decode cTr_isNodeOf 27 = .ok (.ireturn, 1) := by decide +kernel
theorem dTr_kindOf_0 : decode cTr_kindOf 0 = .ok (.aload_n 0, 1) := by decide +kernel
theorem dTr_kindOf_1 : decode cTr_kindOf 1 = .ok (.getfield 9, 3) := by decide +kernel
theorem dTr_kindOf_4 : decode cTr_kindOf 4 = .ok (.iload_n 1, 1) := by decide +kernel
theorem dTr_kindOf_5 : decode cTr_kindOf 5 = .ok (.iaload, 1) := by decide +kernel
theorem dTr_kindOf_6 : decode cTr_kindOf 6 = .ok (.ireturn, 1) := by decide +kernel
theorem dTr_countOf_0 : decode cTr_countOf 0 = .ok (.aload_n 0, 1) := by decide +kernel
theorem dTr_countOf_1 : decode cTr_countOf 1 = .ok (.getfield 15, 3) := by decide +kernel
theorem dTr_countOf_4 : decode cTr_countOf 4 = .ok (.iload_n 1, 1) := by decide +kernel
theorem dTr_countOf_5 : decode cTr_countOf 5 = .ok (.iaload, 1) := by decide +kernel
theorem dTr_countOf_6 : decode cTr_countOf 6 = .ok (.ireturn, 1) := by decide +kernel
theorem dTr_contentSize_0 : decode cTr_contentSize 0 = .ok (.aload_n 0, 1) := by decide +kernel
theorem dTr_contentSize_1 : decode cTr_contentSize 1 = .ok (.getfield 18, 3) := by decide +kernel
theorem dTr_contentSize_4 : decode cTr_contentSize 4 = .ok (.iload_n 1, 1) := by decide +kernel
theorem dTr_contentSize_5 : decode cTr_contentSize 5 = .ok (.iaload, 1) := by decide +kernel
theorem dTr_contentSize_6 : decode cTr_contentSize 6 = .ok (.ireturn, 1) := by decide +kernel
theorem dTr_nodeAt_0 : decode cTr_nodeAt 0 = .ok (.aload_n 0, 1) := by decide +kernel
theorem dTr_nodeAt_1 : decode cTr_nodeAt 1 = .ok (.getfield 24, 3) := by decide +kernel
theorem dTr_nodeAt_4 : decode cTr_nodeAt 4 = .ok (.iload_n 1, 1) := by decide +kernel
theorem dTr_nodeAt_5 : decode cTr_nodeAt 5 = .ok (.bipush 26, 2) := by decide +kernel
theorem dTr_nodeAt_7 : decode cTr_nodeAt 7 = .ok (.imul, 1) := by decide +kernel
theorem dTr_nodeAt_8 : decode cTr_nodeAt 8 = .ok (.iload_n 2, 1) := by decide +kernel
theorem dTr_nodeAt_9 : decode cTr_nodeAt 9 = .ok (.iadd, 1) := by decide +kernel
theorem dTr_nodeAt_10 : decode cTr_nodeAt 10 = .ok (.iaload, 1) := by decide +kernel
theorem dTr_nodeAt_11 : decode cTr_nodeAt 11 = .ok (.ireturn, 1) := by decide +kernel
theorem dTr_newNode_0 : decode cTr_newNode 0 = .ok (.aload_n 0, 1) := by decide +kernel
theorem dTr_newNode_1 : decode cTr_newNode 1 = .ok (.getfield 33, 3) := by decide +kernel
theorem dTr_newNode_4 : decode cTr_newNode 4 = .ok (.istore_n 2, 1) := by decide +kernel
theorem dTr_newNode_5 : decode cTr_newNode 5 = .ok (.aload_n 0, 1) := by decide +kernel
theorem dTr_newNode_6 : decode cTr_newNode 6 = .ok (.getfield 9, 3) := by decide +kernel
theorem dTr_newNode_9 : decode cTr_newNode 9 = .ok (.iload_n 2, 1) := by decide +kernel
theorem dTr_newNode_10 : decode cTr_newNode 10 = .ok (.iload_n 1, 1) := by decide +kernel
theorem dTr_newNode_11 : decode cTr_newNode 11 = .ok (.iastore, 1) := by decide +kernel
theorem dTr_newNode_12 : decode cTr_newNode 12 = .ok (.aload_n 0, 1) := by decide +kernel
theorem dTr_newNode_13 : decode cTr_newNode 13 = .ok (.dup, 1) := by decide +kernel
theorem dTr_newNode_14 : decode cTr_newNode 14 = .ok (.getfield 33, 3) := by decide +kernel
theorem dTr_newNode_17 : decode cTr_newNode 17 = .ok (.iconst 1, 1) := by decide +kernel
theorem dTr_newNode_18 : decode cTr_newNode 18 = .ok (.iadd, 1) := by decide +kernel
theorem dTr_newNode_19 : decode cTr_newNode 19 = .ok (.putfield 33, 3) := by decide +kernel
theorem dTr_newNode_22 : decode cTr_newNode 22 = .ok (.iload_n 2, 1) := by decide +kernel
theorem dTr_newNode_23 : decode cTr_newNode 23 = .ok (.ireturn, 1) := by decide +kernel
theorem dTr_enter_0 : decode cTr_enter 0 = .ok (.aload_n 0, 1) := by decide +kernel
theorem dTr_enter_1 : decode cTr_enter 1 = .ok (.getfield 24, 3) := by decide +kernel
theorem dTr_enter_4 : decode cTr_enter 4 = .ok (.iload_n 1, 1) := by decide +kernel
theorem dTr_enter_5 : decode cTr_enter 5 = .ok (.bipush 26, 2) := by decide +kernel
theorem dTr_enter_7 : decode cTr_enter 7 = .ok (.imul, 1) := by decide +kernel
theorem dTr_enter_8 : decode cTr_enter 8 = .ok (.iload_n 2, 1) := by decide +kernel
theorem dTr_enter_9 : decode cTr_enter 9 = .ok (.iadd, 1) := by decide +kernel
theorem dTr_enter_10 : decode cTr_enter 10 = .ok (.iload_n 3, 1) := by decide +kernel
theorem dTr_enter_11 : decode cTr_enter 11 = .ok (.iastore, 1) := by decide +kernel
theorem dTr_enter_12 : decode cTr_enter 12 = .ok (.aload_n 0, 1) := by decide +kernel
theorem dTr_enter_13 : decode cTr_enter 13 = .ok (.getfield 15, 3) := by decide +kernel
theorem dTr_enter_16 : decode cTr_enter 16 = .ok (.iload_n 3, 1) := by decide +kernel
theorem dTr_enter_17 : decode cTr_enter 17 = .ok (.dup2, 1) := by decide +kernel
theorem dTr_enter_18 : decode cTr_enter 18 = .ok (.iaload, 1) := by decide +kernel
theorem dTr_enter_19 : decode cTr_enter 19 = .ok (.iconst 1, 1) := by decide +kernel
theorem dTr_enter_20 : decode cTr_enter 20 = .ok (.iadd, 1) := by decide +kernel
theorem dTr_enter_21 : decode cTr_enter 21 = .ok (.iastore, 1) := by decide +kernel
theorem dTr_enter_22 : decode cTr_enter 22 = .ok (.return_, 1) := by decide +kernel
theorem dTr_leave_0 : decode cTr_leave 0 = .ok (.aload_n 0, 1) := by decide +kernel
theorem dTr_leave_1 : decode cTr_leave 1 = .ok (.getfield 15, 3) := by decide +kernel
theorem dTr_leave_4 : decode cTr_leave 4 = .ok (.aload_n 0, 1) := by decide +kernel
theorem dTr_leave_5 : decode cTr_leave 5 = .ok (.iload_n 1, 1) := by decide +kernel
theorem dTr_leave_6 : decode cTr_leave 6 = .ok (.iload_n 2, 1) := by decide +kernel
theorem dTr_leave_7 : decode cTr_leave 7 = .ok (.invokevirtual 37, 3) := by decide +kernel
theorem dTr_leave_10 : decode cTr_leave 10 = .ok (.dup2, 1) := by decide +kernel
theorem dTr_leave_11 : decode cTr_leave 11 = .ok (.iaload, 1) := by decide +kernel
theorem dTr_leave_12 : decode cTr_leave 12 = .ok (.iconst 1, 1) := by decide +kernel
theorem dTr_leave_13 : decode cTr_leave 13 = .ok (.isub, 1) := by decide +kernel
theorem dTr_leave_14 : decode cTr_leave 14 = .ok (.iastore, 1) := by decide +kernel
theorem dTr_leave_15 : decode cTr_leave 15 = .ok (.aload_n 0, 1) := by decide +kernel
theorem dTr_leave_16 : decode cTr_leave 16 = .ok (.getfield 24, 3) := by decide +kernel
theorem dTr_leave_19 : decode cTr_leave 19 = .ok (.iload_n 1, 1) := by decide +kernel
theorem dTr_leave_20 : decode cTr_leave 20 = .ok (.bipush 26, 2) := by decide +kernel
theorem dTr_leave_22 : decode cTr_leave 22 = .ok (.imul, 1) := by decide +kernel
theorem dTr_leave_23 : decode cTr_leave 23 = .ok (.iload_n 2, 1) := by decide +kernel
theorem dTr_leave_24 : decode cTr_leave 24 = .ok (.iadd, 1) := by decide +kernel
theorem dTr_leave_25 : decode cTr_leave 25 = .ok (.iconst (-1), 1) := by decide +kernel
theorem dTr_leave_26 : decode cTr_leave 26 = .ok (.iastore, 1) := by decide +kernel
theorem dTr_leave_27 : decode cTr_leave 27 = .ok (.return_, 1) := by decide +kernel
theorem dTr_extend_0 : decode cTr_extend 0 = .ok (.aload_n 0, 1) := by decide +kernel
theorem dTr_extend_1 : decode cTr_extend 1 = .ok (.getfield 21, 3) := by decide +kernel
theorem dTr_extend_4 : decode cTr_extend 4 = .ok (.iload_n 1, 1) := by decide +kernel
theorem dTr_extend_5 : decode cTr_extend 5 = .ok (.bipush 60, 2) := by decide +kernel
theorem dTr_extend_7 : decode cTr_extend 7 = .ok (.imul, 1) := by decide +kernel
theorem dTr_extend_8 : decode cTr_extend 8 = .ok (.aload_n 0, 1) := by decide +kernel
theorem dTr_extend_9 : decode cTr_extend 9 = .ok (.getfield 18, 3) := by decide +kernel
theorem dTr_extend_12 : decode cTr_extend 12 = .ok (.iload_n 1, 1) := by decide +kernel
theorem dTr_extend_13 : decode cTr_extend 13 = .ok (.iaload, 1) := by decide +kernel
theorem dTr_extend_14 : decode cTr_extend 14 = .ok (.iadd, 1) := by decide +kernel
theorem dTr_extend_15 : decode cTr_extend 15 = .ok (.iload_n 2, 1) := by decide +kernel
theorem dTr_extend_16 : decode cTr_extend 16 = .ok (.iastore, 1) := by decide +kernel
theorem dTr_extend_17 : decode cTr_extend 17 = .ok (.aload_n 0, 1) := by decide +kernel
theorem dTr_extend_18 : decode cTr_extend 18 = .ok (.getfield 18, 3) := by decide +kernel
theorem dTr_extend_21 : decode cTr_extend 21 = .ok (.iload_n 1, 1) := by decide +kernel
theorem dTr_extend_22 : decode cTr_extend 22 = .ok (.dup2, 1) := by decide +kernel
theorem dTr_extend_23 : decode cTr_extend 23 = .ok (.iaload, 1) := by decide +kernel
theorem dTr_extend_24 : decode cTr_extend 24 = .ok (.iconst 1, 1) := by decide +kernel
theorem dTr_extend_25 : decode cTr_extend 25 = .ok (.iadd, 1) := by decide +kernel
theorem dTr_extend_26 : decode cTr_extend 26 = .ok (.iastore, 1) := by decide +kernel
theorem dTr_extend_27 : decode cTr_extend 27 = .ok (.aload_n 0, 1) := by decide +kernel
theorem dTr_extend_28 : decode cTr_extend 28 = .ok (.getfield 18, 3) := by decide +kernel
theorem dTr_extend_31 : decode cTr_extend 31 = .ok (.iload_n 1, 1) := by decide +kernel
theorem dTr_extend_32 : decode cTr_extend 32 = .ok (.iaload, 1) := by decide +kernel
theorem dTr_extend_33 : decode cTr_extend 33 = .ok (.ireturn, 1) := by decide +kernel
theorem dTr_dataSize_0 : decode cTr_dataSize 0 = .ok (.aload_n 0, 1) := by decide +kernel
theorem dTr_dataSize_1 : decode cTr_dataSize 1 = .ok (.getfield 9, 3) := by decide +kernel
theorem dTr_dataSize_4 : decode cTr_dataSize 4 = .ok (.iload_n 1, 1) := by decide +kernel
theorem dTr_dataSize_5 : decode cTr_dataSize 5 = .ok (.iaload, 1) := by decide +kernel
theorem dTr_dataSize_6 : decode cTr_dataSize 6 = .ok (.ifCond .eq 10, 3) := by decide +kernel
theorem dTr_dataSize_9 : decode cTr_dataSize 9 = .ok (.aload_n 0, 1) := by decide +kernel
theorem dTr_dataSize_10 : decode cTr_dataSize 10 = .ok (.getfield 18, 3) := by decide +kernel
theorem dTr_dataSize_13 : decode cTr_dataSize 13 = .ok (.iload_n 1, 1) := by decide +kernel
theorem dTr_dataSize_14 : decode cTr_dataSize 14 = .ok (.iaload, 1) := by decide +kernel
theorem dTr_dataSize_15 : decode cTr_dataSize 15 = .ok (.ireturn, 1) := by decide +kernel
theorem dTr_dataSize_16 : decode cTr_dataSize 16 = .ok (.iconst 0, 1) := by decide +kernel
theorem dTr_dataSize_17 : decode cTr_dataSize 17 = .ok (.istore_n 2, 1) := by decide +kernel
theorem dTr_dataSize_18 : decode cTr_dataSize 18 = .ok (.iconst 0, 1) := by decide +kernel
theorem dTr_dataSize_19 : decode cTr_dataSize 19 = .ok (.istore_n 3, 1) := by decide +kernel
theorem dTr_dataSize_20 : decode cTr_dataSize 20 = .ok (.iload_n 3, 1) := by decide +kernel
theorem dTr_dataSize_21 : decode cTr_dataSize 21 = .ok (.bipush 26, 2) := by decide +kernel
theorem dTr_dataSize_23 : decode cTr_dataSize 23 = .ok (.if_icmp .ge 22, 3) := by decide +kernel
theorem dTr_dataSize_26 : decode cTr_dataSize 26 = .ok (.aload_n 0, 1) := by decide +kernel
theorem dTr_dataSize_27 : decode cTr_dataSize 27 = .ok (.iload_n 1, 1) := by decide +kernel
theorem dTr_dataSize_28 : decode cTr_dataSize 28 = .ok (.iload_n 3, 1) := by decide +kernel
theorem dTr_dataSize_29 : decode cTr_dataSize 29 = .ok (.invokevirtual 37, 3) := by decide +kernel
theorem dTr_dataSize_32 : decode cTr_dataSize 32 = .ok (.iconst (-1), 1) := by decide +kernel
theorem dTr_dataSize_33 : decode cTr_dataSize 33 = .ok (.if_icmp .eq 6, 3) := by decide +kernel
theorem dTr_dataSize_36 : decode cTr_dataSize 36 = .ok (.iinc 2 3, 3) := by decide +kernel
theorem dTr_dataSize_39 : decode cTr_dataSize 39 = .ok (.iinc 3 1, 3) := by decide +kernel
theorem dTr_dataSize_42 : decode cTr_dataSize 42 = .ok (.goto (-22), 3) := by decide +kernel
theorem dTr_dataSize_45 : decode cTr_dataSize 45 = .ok (.iload_n 2, 1) := by decide +kernel
theorem dTr_dataSize_46 : decode cTr_dataSize 46 = .ok (.ireturn, 1) := by decide +kernel
theorem dTr_copyContent_0 : decode cTr_copyContent 0 = .ok (.aload_n 0, 1) := by decide +kernel
theorem dTr_copyContent_1 : decode cTr_copyContent 1 = .ok (.getfield 21, 3) := by decide +kernel
theorem dTr_copyContent_4 : decode cTr_copyContent 4 = .ok (.iload_n 1, 1) := by decide +kernel
theorem dTr_copyContent_5 : decode cTr_copyContent 5 = .ok (.bipush 60, 2) := by decide +kernel
theorem dTr_copyContent_7 : decode cTr_copyContent 7 = .ok (.imul, 1) := by decide +kernel
theorem dTr_copyContent_8 : decode cTr_copyContent 8 = .ok (.aload_n 2, 1) := by decide +kernel
theorem dTr_copyContent_9 : decode cTr_copyContent 9 = .ok (.iconst 0, 1) := by decide +kernel
theorem dTr_copyContent_10 : decode cTr_copyContent 10 = .ok (.aload_n 0, 1) := by decide +kernel
theorem dTr_copyContent_11 : decode cTr_copyContent 11 = .ok (.getfield 18, 3) := by decide +kernel
theorem dTr_copyContent_14 : decode cTr_copyContent 14 = .ok (.iload_n 1, 1) := by decide +kernel
theorem dTr_copyContent_15 : decode cTr_copyContent 15 = .ok (.iaload, 1) := by decide +kernel
theorem dTr_copyContent_16 : decode cTr_copyContent 16 = .ok (.invokestatic 41, 3) := by decide +kernel
theorem dTr_copyContent_19 : decode cTr_copyContent 19 = .ok (.return_, 1) := by decide +kernel
