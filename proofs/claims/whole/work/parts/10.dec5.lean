theorem dR_check0_0 : decode cR_check0 0 = .ok (.aload_n 0, 1) := by decide +kernel
theorem dR_check0_1 : decode cR_check0 1 = .ok (.aload_n 0, 1) := by decide +kernel
theorem dR_check0_2 : decode cR_check0 2 = .ok (.getfield 132, 3) := by decide +kernel
theorem dR_check0_5 : decode cR_check0 5 = .ok (.ifCond .eq 7, 3) := by decide +kernel
theorem dR_check0_8 : decode cR_check0 8 = .ok (.iconst 0, 1) := by decide +kernel
theorem dR_check0_9 : decode cR_check0 9 = .ok (.goto 4, 3) := by decide +kernel
theorem dR_check0_12 : decode cR_check0 12 = .ok (.iconst 1, 1) := by decide +kernel
theorem dR_check0_13 : decode cR_check0 13 = .ok (.putfield 69, 3) := by decide +kernel
theorem dR_check0_16 : decode cR_check0 16 = .ok (.aload_n 0, 1) := by decide +kernel
theorem dR_check0_17 : decode cR_check0 17 = .ok (.getfield 69, 3) := by decide +kernel
theorem dR_check0_20 : decode cR_check0 20 = .ok (.ifCond .le 5, 3) := by decide +kernel
theorem dR_check0_23 : decode cR_check0 23 = .ok (.iconst 0, 1) := by decide +kernel
theorem dR_check0_24 : decode cR_check0 24 = .ok (.ireturn, 1) := by decide +kernel
theorem dR_check0_25 : decode cR_check0 25 = .ok (.iconst (-1), 1) := by decide +kernel
theorem dR_check0_26 : decode cR_check0 26 = .ok (.istore_n 1, 1) := by decide +kernel
theorem dR_check0_27 : decode cR_check0 27 = .ok (.aload_n 0, 1) := by decide +kernel
theorem dR_check0_28 : decode cR_check0 28 = .ok (.getfield 143, 3) := by decide +kernel
theorem dR_check0_31 : decode cR_check0 31 = .ok (.iconst 1, 1) := by decide +kernel
theorem dR_check0_32 : decode cR_check0 32 = .ok (.isub, 1) := by decide +kernel
theorem dR_check0_33 : decode cR_check0 33 = .ok (.istore_n 2, 1) := by decide +kernel
theorem dR_check0_34 : decode cR_check0 34 = .ok (.iload_n 2, 1) := by decide +kernel
theorem dR_check0_35 : decode cR_check0 35 = .ok (.ifCond .lt 32, 3) := by decide +kernel
theorem dR_check0_38 : decode cR_check0 38 = .ok (.aload_n 0, 1) := by decide +kernel
theorem dR_check0_39 : decode cR_check0 39 = .ok (.getfield 54, 3) := by decide +kernel
theorem dR_check0_42 : decode cR_check0 42 = .ok (.iload_n 2, 1) := by decide +kernel
theorem dR_check0_43 : decode cR_check0 43 = .ok (.baload, 1) := by decide +kernel
theorem dR_check0_44 : decode cR_check0 44 = .ok (.ifCond .eq 15, 3) := by decide +kernel
theorem dR_check0_47 : decode cR_check0 47 = .ok (.aload_n 0, 1) := by decide +kernel
theorem dR_check0_48 : decode cR_check0 48 = .ok (.iload_n 2, 1) := by decide +kernel
theorem dR_check0_49 : decode cR_check0 49 = .ok (.invokevirtual 204, 3) := by decide +kernel
theorem dR_check0_52 : decode cR_check0 52 = .ok (.ifCond .eq 7, 3) := by decide +kernel
theorem dR_check0_55 : decode cR_check0 55 = .ok (.iload_n 2, 1) := by decide +kernel
theorem dR_check0_56 : decode cR_check0 56 = .ok (.goto 4, 3) := by decide +kernel
theorem dR_check0_59 : decode cR_check0 59 = .ok (.iload_n 1, 1) := by decide +kernel
theorem dR_check0_60 : decode cR_check0 60 = .ok (.istore_n 1, 1) := by decide +kernel
theorem dR_check0_61 : decode cR_check0 61 = .ok (.iinc 2 (-1), 3) := by decide +kernel
theorem dR_check0_64 : decode cR_check0 64 = .ok (.goto (-30), 3) := by decide +kernel
theorem dR_check0_67 : decode cR_check0 67 = .ok (.iload_n 1, 1) := by decide +kernel
theorem dR_check0_68 : decode cR_check0 68 = .ok (.ireturn, 1) := by decide +kernel
theorem dBu_giveSlots_0 : decode cBu_giveSlots 0 = .ok (.aload_n 0, 1) := by decide +kernel
theorem dBu_giveSlots_1 : decode cBu_giveSlots 1 = .ok (.iconst 0, 1) := by decide +kernel
theorem dBu_giveSlots_2 : decode cBu_giveSlots 2 = .ok (.putfield 35, 3) := by decide +kernel
theorem dBu_giveSlots_5 : decode cBu_giveSlots 5 = .ok (.iconst 0, 1) := by decide +kernel
theorem dBu_giveSlots_6 : decode cBu_giveSlots 6 = .ok (.istore_n 3, 1) := by decide +kernel
theorem dBu_giveSlots_7 : decode cBu_giveSlots 7 = .ok (.iload_n 3, 1) := by decide +kernel
theorem dBu_giveSlots_8 : decode cBu_giveSlots 8 = .ok (.bipush 16, 2) := by decide +kernel
theorem dBu_giveSlots_10 : decode cBu_giveSlots 10 = .ok (.if_icmp .ge 70, 3) := by decide +kernel
theorem dBu_giveSlots_13 : decode cBu_giveSlots 13 = .ok (.aload_n 0, 1) := by decide +kernel
theorem dBu_giveSlots_14 : decode cBu_giveSlots 14 = .ok (.getfield 22, 3) := by decide +kernel
theorem dBu_giveSlots_17 : decode cBu_giveSlots 17 = .ok (.iload_n 3, 1) := by decide +kernel
theorem dBu_giveSlots_18 : decode cBu_giveSlots 18 = .ok (.iconst (-1), 1) := by decide +kernel
theorem dBu_giveSlots_19 : decode cBu_giveSlots 19 = .ok (.iastore, 1) := by decide +kernel
theorem dBu_giveSlots_20 : decode cBu_giveSlots 20 = .ok (.aload_n 1, 1) := by decide +kernel
theorem dBu_giveSlots_21 : decode cBu_giveSlots 21 = .ok (.iload_n 3, 1) := by decide +kernel
theorem dBu_giveSlots_22 : decode cBu_giveSlots 22 = .ok (.invokevirtual 39, 3) := by decide +kernel
theorem dBu_giveSlots_25 : decode cBu_giveSlots 25 = .ok (.ifCond .le 49, 3) := by decide +kernel
theorem dBu_giveSlots_28 : decode cBu_giveSlots 28 = .ok (.aload_n 0, 1) := by decide +kernel
theorem dBu_giveSlots_29 : decode cBu_giveSlots 29 = .ok (.getfield 25, 3) := by decide +kernel
theorem dBu_giveSlots_32 : decode cBu_giveSlots 32 = .ok (.iload_n 3, 1) := by decide +kernel
theorem dBu_giveSlots_33 : decode cBu_giveSlots 33 = .ok (.aload_n 0, 1) := by decide +kernel
theorem dBu_giveSlots_34 : decode cBu_giveSlots 34 = .ok (.aload_n 1, 1) := by decide +kernel
theorem dBu_giveSlots_35 : decode cBu_giveSlots 35 = .ok (.iload_n 3, 1) := by decide +kernel
theorem dBu_giveSlots_36 : decode cBu_giveSlots 36 = .ok (.iload_n 2, 1) := by decide +kernel
theorem dBu_giveSlots_37 : decode cBu_giveSlots 37 = .ok (.invokevirtual 44, 3) := by decide +kernel
theorem dBu_giveSlots_40 : decode cBu_giveSlots 40 = .ok (.iastore, 1) := by decide +kernel
theorem dBu_giveSlots_41 : decode cBu_giveSlots 41 = .ok (.aload_n 0, 1) := by decide +kernel
theorem dBu_giveSlots_42 : decode cBu_giveSlots 42 = .ok (.getfield 22, 3) := by decide +kernel
theorem dBu_giveSlots_45 : decode cBu_giveSlots 45 = .ok (.iload_n 3, 1) := by decide +kernel
theorem dBu_giveSlots_46 : decode cBu_giveSlots 46 = .ok (.aload_n 0, 1) := by decide +kernel
theorem dBu_giveSlots_47 : decode cBu_giveSlots 47 = .ok (.getfield 35, 3) := by decide +kernel
theorem dBu_giveSlots_50 : decode cBu_giveSlots 50 = .ok (.iastore, 1) := by decide +kernel
theorem dBu_giveSlots_51 : decode cBu_giveSlots 51 = .ok (.aload_n 0, 1) := by decide +kernel
theorem dBu_giveSlots_52 : decode cBu_giveSlots 52 = .ok (.dup, 1) := by decide +kernel
theorem dBu_giveSlots_53 : decode cBu_giveSlots 53 = .ok (.getfield 35, 3) := by decide +kernel
theorem dBu_giveSlots_56 : decode cBu_giveSlots 56 = .ok (.aload_n 0, 1) := by decide +kernel
theorem dBu_giveSlots_57 : decode cBu_giveSlots 57 = .ok (.aload_n 1, 1) := by decide +kernel
theorem dBu_giveSlots_58 : decode cBu_giveSlots 58 = .ok (.iload_n 3, 1) := by decide +kernel
theorem dBu_giveSlots_59 : decode cBu_giveSlots 59 = .ok (.invokevirtual 48, 3) := by decide +kernel
theorem dBu_giveSlots_62 : decode cBu_giveSlots 62 = .ok (.ifCond .eq 7, 3) := by decide +kernel
theorem dBu_giveSlots_65 : decode cBu_giveSlots 65 = .ok (.iconst 2, 1) := by decide +kernel
theorem dBu_giveSlots_66 : decode cBu_giveSlots 66 = .ok (.goto 4, 3) := by decide +kernel
theorem dBu_giveSlots_69 : decode cBu_giveSlots 69 = .ok (.iconst 1, 1) := by decide +kernel
theorem dBu_giveSlots_70 : decode cBu_giveSlots 70 = .ok (.iadd, 1) := by decide +kernel
theorem dBu_giveSlots_71 : decode cBu_giveSlots 71 = .ok (.putfield 35, 3) := by decide +kernel
theorem dBu_giveSlots_74 : decode cBu_giveSlots 74 = .ok (.iinc 3 1, 3) := by decide +kernel
theorem dBu_giveSlots_77 : decode cBu_giveSlots 77 = .ok (.goto (-70), 3) := by decide +kernel
theorem dBu_giveSlots_80 : decode cBu_giveSlots 80 = .ok (.return_, 1) := by decide +kernel
theorem dBu_layOut_0 : decode cBu_layOut 0 = .ok (.aload_n 0, 1) := by decide +kernel
theorem dBu_layOut_1 : decode cBu_layOut 1 = .ok (.getfield 9, 3) := by decide +kernel
theorem dBu_layOut_4 : decode cBu_layOut 4 = .ok (.iconst 0, 1) := by decide +kernel
theorem dBu_layOut_5 : decode cBu_layOut 5 = .ok (.invokestatic 52, 3) := by decide +kernel
theorem dBu_layOut_8 : decode cBu_layOut 8 = .ok (.aload_n 0, 1) := by decide +kernel
theorem dBu_layOut_9 : decode cBu_layOut 9 = .ok (.aload_n 0, 1) := by decide +kernel
theorem dBu_layOut_10 : decode cBu_layOut 10 = .ok (.getfield 35, 3) := by decide +kernel
theorem dBu_layOut_13 : decode cBu_layOut 13 = .ok (.invokestatic 58, 3) := by decide +kernel
theorem dBu_layOut_16 : decode cBu_layOut 16 = .ok (.putfield 61, 3) := by decide +kernel
theorem dBu_layOut_19 : decode cBu_layOut 19 = .ok (.aload_n 0, 1) := by decide +kernel
theorem dBu_layOut_20 : decode cBu_layOut 20 = .ok (.aload_n 0, 1) := by decide +kernel
theorem dBu_layOut_21 : decode cBu_layOut 21 = .ok (.getfield 61, 3) := by decide +kernel
theorem dBu_layOut_24 : decode cBu_layOut 24 = .ok (.putfield 64, 3) := by decide +kernel
theorem dBu_layOut_27 : decode cBu_layOut 27 = .ok (.iconst 0, 1) := by decide +kernel
theorem dBu_layOut_28 : decode cBu_layOut 28 = .ok (.istore_n 3, 1) := by decide +kernel
theorem dBu_layOut_29 : decode cBu_layOut 29 = .ok (.iload_n 3, 1) := by decide +kernel
theorem dBu_layOut_30 : decode cBu_layOut 30 = .ok (.bipush 16, 2) := by decide +kernel
theorem dBu_layOut_32 : decode cBu_layOut 32 = .ok (.if_icmp .ge 31, 3) := by decide +kernel
theorem dBu_layOut_35 : decode cBu_layOut 35 = .ok (.aload_n 0, 1) := by decide +kernel
theorem dBu_layOut_36 : decode cBu_layOut 36 = .ok (.getfield 22, 3) := by decide +kernel
theorem dBu_layOut_39 : decode cBu_layOut 39 = .ok (.iload_n 3, 1) := by decide +kernel
theorem dBu_layOut_40 : decode cBu_layOut 40 = .ok (.iaload, 1) := by decide +kernel
theorem dBu_layOut_41 : decode cBu_layOut 41 = .ok (.iconst (-1), 1) := by decide +kernel
theorem dBu_layOut_42 : decode cBu_layOut 42 = .ok (.if_icmp .eq 15, 3) := by decide +kernel
theorem dBu_layOut_45 : decode cBu_layOut 45 = .ok (.aload_n 0, 1) := by decide +kernel
theorem dBu_layOut_46 : decode cBu_layOut 46 = .ok (.aload_n 1, 1) := by decide +kernel
theorem dBu_layOut_47 : decode cBu_layOut 47 = .ok (.iload_n 3, 1) := by decide +kernel
theorem dBu_layOut_48 : decode cBu_layOut 48 = .ok (.iload_n 2, 1) := by decide +kernel
theorem dBu_layOut_49 : decode cBu_layOut 49 = .ok (.invokevirtual 67, 3) := by decide +kernel
theorem dBu_layOut_52 : decode cBu_layOut 52 = .ok (.ifCond .ne 5, 3) := by decide +kernel
theorem dBu_layOut_55 : decode cBu_layOut 55 = .ok (.iconst 0, 1) := by decide +kernel
theorem dBu_layOut_56 : decode cBu_layOut 56 = .ok (.ireturn, 1) := by decide +kernel
theorem dBu_layOut_57 : decode cBu_layOut 57 = .ok (.iinc 3 1, 3) := by decide +kernel
theorem dBu_layOut_60 : decode cBu_layOut 60 = .ok (.goto (-31), 3) := by decide +kernel
theorem dBu_layOut_63 : decode cBu_layOut 63 = .ok (.aload_n 0, 1) := by decide +kernel
theorem dBu_layOut_64 : decode cBu_layOut 64 = .ok (.iload_n 2, 1) := by decide +kernel
theorem dBu_layOut_65 : decode cBu_layOut 65 = .ok (.invokevirtual 71, 3) := by decide +kernel
theorem dBu_layOut_68 : decode cBu_layOut 68 = .ok (.iconst 1, 1) := by decide +kernel
theorem dBu_layOut_69 : decode cBu_layOut 69 = .ok (.ireturn, 1) := by decide +kernel
theorem dBu_chooseLayout_0 : decode cBu_chooseLayout 0 = .ok (.iload_n 3, 1) := by decide +kernel
theorem dBu_chooseLayout_1 : decode cBu_chooseLayout 1 = .ok (.iconst 4, 1) := by decide +kernel
theorem dBu_chooseLayout_2 : decode cBu_chooseLayout 2 = .ok (.iand, 1) := by decide +kernel
theorem dBu_chooseLayout_3 : decode cBu_chooseLayout 3 = .ok (.ifCond .eq 16, 3) := by decide +kernel
theorem dBu_chooseLayout_6 : decode cBu_chooseLayout 6 = .ok (.aload_n 1, 1) := by decide +kernel
theorem dBu_chooseLayout_7 : decode cBu_chooseLayout 7 = .ok (.iload_n 2, 1) := by decide +kernel
theorem dBu_chooseLayout_8 : decode cBu_chooseLayout 8 = .ok (.invokevirtual 75, 3) := by decide +kernel
theorem dBu_chooseLayout_11 : decode cBu_chooseLayout 11 = .ok (.iconst 1, 1) := by decide +kernel
theorem dBu_chooseLayout_12 : decode cBu_chooseLayout 12 = .ok (.if_icmp .ne 7, 3) := by decide +kernel
theorem dBu_chooseLayout_15 : decode cBu_chooseLayout 15 = .ok (.iconst 1, 1) := by decide +kernel
theorem dBu_chooseLayout_16 : decode cBu_chooseLayout 16 = .ok (.goto 4, 3) := by decide +kernel
theorem dBu_chooseLayout_19 : decode cBu_chooseLayout 19 = .ok (.iconst 0, 1) := by decide +kernel
theorem dBu_chooseLayout_20 : decode cBu_chooseLayout 20 = .ok (.istore 4, 2) := by decide +kernel
theorem dBu_chooseLayout_22 : decode cBu_chooseLayout 22 = .ok (.aload_n 1, 1) := by decide +kernel
theorem dBu_chooseLayout_23 : decode cBu_chooseLayout 23 = .ok (.iload_n 2, 1) := by decide +kernel
theorem dBu_chooseLayout_24 : decode cBu_chooseLayout 24 = .ok (.invokevirtual 78, 3) := by decide +kernel
theorem dBu_chooseLayout_27 : decode cBu_chooseLayout 27 = .ok (.istore 5, 2) := by decide +kernel
theorem dBu_chooseLayout_29 : decode cBu_chooseLayout 29 = .ok (.iload 4, 2) := by decide +kernel
theorem dBu_chooseLayout_31 : decode cBu_chooseLayout 31 = .ok (.ifCond .eq 32, 3) := by decide +kernel
theorem dBu_chooseLayout_34 : decode cBu_chooseLayout 34 = .ok (.aload_n 0, 1) := by decide +kernel
theorem dBu_chooseLayout_35 : decode cBu_chooseLayout 35 = .ok (.getfield 31, 3) := by decide +kernel
theorem dBu_chooseLayout_38 : decode cBu_chooseLayout 38 = .ok (.aload_n 1, 1) := by decide +kernel
theorem dBu_chooseLayout_39 : decode cBu_chooseLayout 39 = .ok (.iload_n 2, 1) := by decide +kernel
theorem dBu_chooseLayout_40 : decode cBu_chooseLayout 40 = .ok (.invokevirtual 81, 3) := by decide +kernel
theorem dBu_chooseLayout_43 : decode cBu_chooseLayout 43 = .ok (.ifCond .eq 20, 3) := by decide +kernel
theorem dBu_chooseLayout_46 : decode cBu_chooseLayout 46 = .ok (.aload_n 0, 1) := by decide +kernel
theorem dBu_chooseLayout_47 : decode cBu_chooseLayout 47 = .ok (.getfield 31, 3) := by decide +kernel
theorem dBu_chooseLayout_50 : decode cBu_chooseLayout 50 = .ok (.getfield 84, 3) := by decide +kernel
theorem dBu_chooseLayout_53 : decode cBu_chooseLayout 53 = .ok (.iload 5, 2) := by decide +kernel
theorem dBu_chooseLayout_55 : decode cBu_chooseLayout 55 = .ok (.invokestatic 15, 3) := by decide +kernel
theorem dBu_chooseLayout_58 : decode cBu_chooseLayout 58 = .ok (.if_icmp .ge 5, 3) := by decide +kernel
theorem dBu_chooseLayout_61 : decode cBu_chooseLayout 61 = .ok (.iconst 2, 1) := by decide +kernel
theorem dBu_chooseLayout_62 : decode cBu_chooseLayout 62 = .ok (.ireturn, 1) := by decide +kernel
theorem dBu_chooseLayout_63 : decode cBu_chooseLayout 63 = .ok (.iload 5, 2) := by decide +kernel
theorem dBu_chooseLayout_65 : decode cBu_chooseLayout 65 = .ok (.bipush 16, 2) := by decide +kernel
theorem dBu_chooseLayout_67 : decode cBu_chooseLayout 67 = .ok (.irem, 1) := by decide +kernel
theorem dBu_chooseLayout_68 : decode cBu_chooseLayout 68 = .ok (.istore 6, 2) := by decide +kernel
theorem dBu_chooseLayout_70 : decode cBu_chooseLayout 70 = .ok (.iload_n 3, 1) := by decide +kernel
theorem dBu_chooseLayout_71 : decode cBu_chooseLayout 71 = .ok (.iconst 1, 1) := by decide +kernel
theorem dBu_chooseLayout_72 : decode cBu_chooseLayout 72 = .ok (.iand, 1) := by decide +kernel
theorem dBu_chooseLayout_73 : decode cBu_chooseLayout 73 = .ok (.ifCond .eq 19, 3) := by decide +kernel
theorem dBu_chooseLayout_76 : decode cBu_chooseLayout 76 = .ok (.iload 6, 2) := by decide +kernel
theorem dBu_chooseLayout_78 : decode cBu_chooseLayout 78 = .ok (.ifCond .le 14, 3) := by decide +kernel
theorem dBu_chooseLayout_81 : decode cBu_chooseLayout 81 = .ok (.iload 6, 2) := by decide +kernel
theorem dBu_chooseLayout_83 : decode cBu_chooseLayout 83 = .ok (.bipush 12, 2) := by decide +kernel
theorem dBu_chooseLayout_85 : decode cBu_chooseLayout 85 = .ok (.if_icmp .gt 7, 3) := by decide +kernel
theorem dBu_chooseLayout_88 : decode cBu_chooseLayout 88 = .ok (.iconst 1, 1) := by decide +kernel
theorem dBu_chooseLayout_89 : decode cBu_chooseLayout 89 = .ok (.goto 4, 3) := by decide +kernel
theorem dBu_chooseLayout_92 : decode cBu_chooseLayout 92 = .ok (.iconst 0, 1) := by decide +kernel
theorem dBu_chooseLayout_93 : decode cBu_chooseLayout 93 = .ok (.ireturn, 1) := by decide +kernel
theorem dBu_isLong_0 : decode cBu_isLong 0 = .ok (.aload_n 0, 1) := by decide +kernel
theorem dBu_isLong_1 : decode cBu_isLong 1 = .ok (.getfield 25, 3) := by decide +kernel
theorem dBu_isLong_4 : decode cBu_isLong 4 = .ok (.iload_n 2, 1) := by decide +kernel
theorem dBu_isLong_5 : decode cBu_isLong 5 = .ok (.iaload, 1) := by decide +kernel
theorem dBu_isLong_6 : decode cBu_isLong 6 = .ok (.iconst 2, 1) := by decide +kernel
theorem dBu_isLong_7 : decode cBu_isLong 7 = .ok (.if_icmp .eq 25, 3) := by decide +kernel
theorem dBu_isLong_10 : decode cBu_isLong 10 = .ok (.aload_n 0, 1) := by decide +kernel
theorem dBu_isLong_11 : decode cBu_isLong 11 = .ok (.getfield 25, 3) := by decide +kernel
theorem dBu_isLong_14 : decode cBu_isLong 14 = .ok (.iload_n 2, 1) := by decide +kernel
theorem dBu_isLong_15 : decode cBu_isLong 15 = .ok (.iaload, 1) := by decide +kernel
theorem dBu_isLong_16 : decode cBu_isLong 16 = .ok (.iconst 1, 1) := by decide +kernel
theorem dBu_isLong_17 : decode cBu_isLong 17 = .ok (.if_icmp .ne 19, 3) := by decide +kernel
theorem dBu_isLong_20 : decode cBu_isLong 20 = .ok (.aload_n 1, 1) := by decide +kernel
theorem dBu_isLong_21 : decode cBu_isLong 21 = .ok (.iload_n 2, 1) := by decide +kernel
theorem dBu_isLong_22 : decode cBu_isLong 22 = .ok (.invokevirtual 78, 3) := by decide +kernel
theorem dBu_isLong_25 : decode cBu_isLong 25 = .ok (.bipush 16, 2) := by decide +kernel
theorem dBu_isLong_27 : decode cBu_isLong 27 = .ok (.irem, 1) := by decide +kernel
theorem dBu_isLong_28 : decode cBu_isLong 28 = .ok (.iconst 4, 1) := by decide +kernel
theorem dBu_isLong_29 : decode cBu_isLong 29 = .ok (.if_icmp .le 7, 3) := by decide +kernel
theorem dBu_isLong_32 : decode cBu_isLong 32 = .ok (.iconst 1, 1) := by decide +kernel
theorem dBu_isLong_33 : decode cBu_isLong 33 = .ok (.goto 4, 3) := by decide +kernel
theorem dBu_isLong_36 : decode cBu_isLong 36 = .ok (.iconst 0, 1) := by decide +kernel
theorem dBu_isLong_37 : decode cBu_isLong 37 = .ok (.ireturn, 1) := by decide +kernel
theorem dBu_putInode_0 : decode cBu_putInode 0 = .ok (.aload_n 1, 1) := by decide +kernel
theorem dBu_putInode_1 : decode cBu_putInode 1 = .ok (.iload_n 2, 1) := by decide +kernel
theorem dBu_putInode_2 : decode cBu_putInode 2 = .ok (.invokevirtual 78, 3) := by decide +kernel
theorem dBu_putInode_5 : decode cBu_putInode 5 = .ok (.istore 4, 2) := by decide +kernel
theorem dBu_putInode_7 : decode cBu_putInode 7 = .ok (.bipush 16, 2) := by decide +kernel
theorem dBu_putInode_9 : decode cBu_putInode 9 = .ok (.aload_n 0, 1) := by decide +kernel
theorem dBu_putInode_10 : decode cBu_putInode 10 = .ok (.getfield 22, 3) := by decide +kernel
theorem dBu_putInode_13 : decode cBu_putInode 13 = .ok (.iload_n 2, 1) := by decide +kernel
theorem dBu_putInode_14 : decode cBu_putInode 14 = .ok (.iaload, 1) := by decide +kernel
theorem dBu_putInode_15 : decode cBu_putInode 15 = .ok (.bipush 8, 2) := by decide +kernel
theorem dBu_putInode_17 : decode cBu_putInode 17 = .ok (.imul, 1) := by decide +kernel
theorem dBu_putInode_18 : decode cBu_putInode 18 = .ok (.iadd, 1) := by decide +kernel
theorem dBu_putInode_19 : decode cBu_putInode 19 = .ok (.istore 5, 2) := by decide +kernel
theorem dBu_putInode_21 : decode cBu_putInode 21 = .ok (.aload_n 0, 1) := by decide +kernel
theorem dBu_putInode_22 : decode cBu_putInode 22 = .ok (.getfield 9, 3) := by decide +kernel
theorem dBu_putInode_25 : decode cBu_putInode 25 = .ok (.iload 5, 2) := by decide +kernel
theorem dBu_putInode_27 : decode cBu_putInode 27 = .ok (.aload_n 0, 1) := by decide +kernel
theorem dBu_putInode_28 : decode cBu_putInode 28 = .ok (.aload_n 1, 1) := by decide +kernel
theorem dBu_putInode_29 : decode cBu_putInode 29 = .ok (.iload_n 2, 1) := by decide +kernel
theorem dBu_putInode_30 : decode cBu_putInode 30 = .ok (.invokevirtual 48, 3) := by decide +kernel
theorem dBu_putInode_33 : decode cBu_putInode 33 = .ok (.ifCond .eq 7, 3) := by decide +kernel
theorem dBu_putInode_36 : decode cBu_putInode 36 = .ok (.iconst 1, 1) := by decide +kernel
theorem dBu_putInode_37 : decode cBu_putInode 37 = .ok (.goto 4, 3) := by decide +kernel
theorem dBu_putInode_40 : decode cBu_putInode 40 = .ok (.iconst 0, 1) := by decide +kernel
theorem dBu_putInode_41 : decode cBu_putInode 41 = .ok (.aload_n 1, 1) := by decide +kernel
theorem dBu_putInode_42 : decode cBu_putInode 42 = .ok (.iload_n 2, 1) := by decide +kernel
theorem dBu_putInode_43 : decode cBu_putInode 43 = .ok (.invokevirtual 75, 3) := by decide +kernel
theorem dBu_putInode_46 : decode cBu_putInode 46 = .ok (.iconst 1, 1) := by decide +kernel
theorem dBu_putInode_47 : decode cBu_putInode 47 = .ok (.ishl, 1) := by decide +kernel
theorem dBu_putInode_48 : decode cBu_putInode 48 = .ok (.ior, 1) := by decide +kernel
theorem dBu_putInode_49 : decode cBu_putInode 49 = .ok (.aload_n 0, 1) := by decide +kernel
theorem dBu_putInode_50 : decode cBu_putInode 50 = .ok (.getfield 25, 3) := by decide +kernel
theorem dBu_putInode_53 : decode cBu_putInode 53 = .ok (.iload_n 2, 1) := by decide +kernel
theorem dBu_putInode_54 : decode cBu_putInode 54 = .ok (.iaload, 1) := by decide +kernel
theorem dBu_putInode_55 : decode cBu_putInode 55 = .ok (.iconst 3, 1) := by decide +kernel
theorem dBu_putInode_56 : decode cBu_putInode 56 = .ok (.ishl, 1) := by decide +kernel
theorem dBu_putInode_57 : decode cBu_putInode 57 = .ok (.ior, 1) := by decide +kernel
theorem dBu_putInode_58 : decode cBu_putInode 58 = .ok (.iastore, 1) := by decide +kernel
theorem dBu_putInode_59 : decode cBu_putInode 59 = .ok (.aload_n 0, 1) := by decide +kernel
theorem dBu_putInode_60 : decode cBu_putInode 60 = .ok (.getfield 9, 3) := by decide +kernel
theorem dBu_putInode_63 : decode cBu_putInode 63 = .ok (.iload 5, 2) := by decide +kernel
theorem dBu_putInode_65 : decode cBu_putInode 65 = .ok (.iconst 1, 1) := by decide +kernel
theorem dBu_putInode_66 : decode cBu_putInode 66 = .ok (.iadd, 1) := by decide +kernel
theorem dBu_putInode_67 : decode cBu_putInode 67 = .ok (.iload 4, 2) := by decide +kernel
theorem dBu_putInode_69 : decode cBu_putInode 69 = .ok (.iastore, 1) := by decide +kernel
theorem dBu_putInode_70 : decode cBu_putInode 70 = .ok (.aload_n 0, 1) := by decide +kernel
theorem dBu_putInode_71 : decode cBu_putInode 71 = .ok (.getfield 9, 3) := by decide +kernel
theorem dBu_putInode_74 : decode cBu_putInode 74 = .ok (.iload 5, 2) := by decide +kernel
theorem dBu_putInode_76 : decode cBu_putInode 76 = .ok (.iconst 3, 1) := by decide +kernel
theorem dBu_putInode_77 : decode cBu_putInode 77 = .ok (.iadd, 1) := by decide +kernel
theorem dBu_putInode_78 : decode cBu_putInode 78 = .ok (.aload_n 1, 1) := by decide +kernel
theorem dBu_putInode_79 : decode cBu_putInode 79 = .ok (.iload_n 2, 1) := by decide +kernel
theorem dBu_putInode_80 : decode cBu_putInode 80 = .ok (.invokevirtual 39, 3) := by decide +kernel
theorem dBu_putInode_83 : decode cBu_putInode 83 = .ok (.sipush 255, 3) := by decide +kernel
theorem dBu_putInode_86 : decode cBu_putInode 86 = .ok (.iand, 1) := by decide +kernel
theorem dBu_putInode_87 : decode cBu_putInode 87 = .ok (.iastore, 1) := by decide +kernel
theorem dBu_putInode_88 : decode cBu_putInode 88 = .ok (.aload_n 0, 1) := by decide +kernel
theorem dBu_putInode_89 : decode cBu_putInode 89 = .ok (.getfield 25, 3) := by decide +kernel
theorem dBu_putInode_92 : decode cBu_putInode 92 = .ok (.iload_n 2, 1) := by decide +kernel
theorem dBu_putInode_93 : decode cBu_putInode 93 = .ok (.iaload, 1) := by decide +kernel
theorem dBu_putInode_94 : decode cBu_putInode 94 = .ok (.iconst 2, 1) := by decide +kernel
theorem dBu_putInode_95 : decode cBu_putInode 95 = .ok (.if_icmp .ne 45, 3) := by decide +kernel
theorem dBu_putInode_98 : decode cBu_putInode 98 = .ok (.aload_n 0, 1) := by decide +kernel
theorem dBu_putInode_99 : decode cBu_putInode 99 = .ok (.getfield 31, 3) := by decide +kernel
theorem dBu_putInode_102 : decode cBu_putInode 102 = .ok (.aload_n 1, 1) := by decide +kernel
theorem dBu_putInode_103 : decode cBu_putInode 103 = .ok (.iload_n 2, 1) := by decide +kernel
theorem dBu_putInode_104 : decode cBu_putInode 104 = .ok (.invokevirtual 81, 3) := by decide +kernel
theorem dBu_putInode_107 : decode cBu_putInode 107 = .ok (.pop, 1) := by decide +kernel
theorem dBu_putInode_108 : decode cBu_putInode 108 = .ok (.aload_n 0, 1) := by decide +kernel
theorem dBu_putInode_109 : decode cBu_putInode 109 = .ok (.iload 5, 2) := by decide +kernel
theorem dBu_putInode_111 : decode cBu_putInode 111 = .ok (.iconst 4, 1) := by decide +kernel
theorem dBu_putInode_112 : decode cBu_putInode 112 = .ok (.iadd, 1) := by decide +kernel
theorem dBu_putInode_113 : decode cBu_putInode 113 = .ok (.invokevirtual 87, 3) := by decide +kernel
theorem dBu_putInode_116 : decode cBu_putInode 116 = .ok (.aload_n 0, 1) := by decide +kernel
theorem dBu_putInode_117 : decode cBu_putInode 117 = .ok (.aload_n 0, 1) := by decide +kernel
theorem dBu_putInode_118 : decode cBu_putInode 118 = .ok (.getfield 31, 3) := by decide +kernel
theorem dBu_putInode_121 : decode cBu_putInode 121 = .ok (.getfield 90, 3) := by decide +kernel
theorem dBu_putInode_124 : decode cBu_putInode 124 = .ok (.aload_n 0, 1) := by decide +kernel
theorem dBu_putInode_125 : decode cBu_putInode 125 = .ok (.getfield 31, 3) := by decide +kernel
theorem dBu_putInode_128 : decode cBu_putInode 128 = .ok (.getfield 84, 3) := by decide +kernel
theorem dBu_putInode_131 : decode cBu_putInode 131 = .ok (.iload_n 3, 1) := by decide +kernel
theorem dBu_putInode_132 : decode cBu_putInode 132 = .ok (.invokevirtual 93, 3) := by decide +kernel
theorem dBu_putInode_135 : decode cBu_putInode 135 = .ok (.istore 6, 2) := by decide +kernel
theorem dBu_putInode_137 : decode cBu_putInode 137 = .ok (.goto 70, 3) := by decide +kernel
theorem dBu_putInode_140 : decode cBu_putInode 140 = .ok (.aload_n 0, 1) := by decide +kernel
theorem dBu_putInode_141 : decode cBu_putInode 141 = .ok (.aload_n 1, 1) := by decide +kernel
theorem dBu_putInode_142 : decode cBu_putInode 142 = .ok (.iload_n 2, 1) := by decide +kernel
theorem dBu_putInode_143 : decode cBu_putInode 143 = .ok (.invokevirtual 97, 3) := by decide +kernel
theorem dBu_putInode_146 : decode cBu_putInode 146 = .ok (.aload_n 0, 1) := by decide +kernel
theorem dBu_putInode_147 : decode cBu_putInode 147 = .ok (.getfield 25, 3) := by decide +kernel
theorem dBu_putInode_150 : decode cBu_putInode 150 = .ok (.iload_n 2, 1) := by decide +kernel
theorem dBu_putInode_151 : decode cBu_putInode 151 = .ok (.iaload, 1) := by decide +kernel
theorem dBu_putInode_152 : decode cBu_putInode 152 = .ok (.iconst 1, 1) := by decide +kernel
theorem dBu_putInode_153 : decode cBu_putInode 153 = .ok (.if_icmp .ne 7, 3) := by decide +kernel
theorem dBu_putInode_156 : decode cBu_putInode 156 = .ok (.iconst 1, 1) := by decide +kernel
theorem dBu_putInode_157 : decode cBu_putInode 157 = .ok (.goto 4, 3) := by decide +kernel
theorem dBu_putInode_160 : decode cBu_putInode 160 = .ok (.iconst 0, 1) := by decide +kernel
theorem dBu_putInode_161 : decode cBu_putInode 161 = .ok (.istore 7, 2) := by decide +kernel
theorem dBu_putInode_163 : decode cBu_putInode 163 = .ok (.iload 7, 2) := by decide +kernel
theorem dBu_putInode_165 : decode cBu_putInode 165 = .ok (.ifCond .eq 13, 3) := by decide +kernel
theorem dBu_putInode_168 : decode cBu_putInode 168 = .ok (.aload_n 0, 1) := by decide +kernel
theorem dBu_putInode_169 : decode cBu_putInode 169 = .ok (.iload 5, 2) := by decide +kernel
theorem dBu_putInode_171 : decode cBu_putInode 171 = .ok (.iconst 4, 1) := by decide +kernel
theorem dBu_putInode_172 : decode cBu_putInode 172 = .ok (.iadd, 1) := by decide +kernel
theorem dBu_putInode_173 : decode cBu_putInode 173 = .ok (.iload 4, 2) := by decide +kernel
theorem dBu_putInode_175 : decode cBu_putInode 175 = .ok (.invokevirtual 101, 3) := by decide +kernel
theorem dBu_putInode_178 : decode cBu_putInode 178 = .ok (.aload_n 0, 1) := by decide +kernel
theorem dBu_putInode_179 : decode cBu_putInode 179 = .ok (.aload_n 0, 1) := by decide +kernel
theorem dBu_putInode_180 : decode cBu_putInode 180 = .ok (.getfield 19, 3) := by decide +kernel
theorem dBu_putInode_183 : decode cBu_putInode 183 = .ok (.iload 7, 2) := by decide +kernel
theorem dBu_putInode_185 : decode cBu_putInode 185 = .ok (.ifCond .eq 11, 3) := by decide +kernel
theorem dBu_putInode_188 : decode cBu_putInode 188 = .ok (.iload 4, 2) := by decide +kernel
theorem dBu_putInode_190 : decode cBu_putInode 190 = .ok (.bipush 16, 2) := by decide +kernel
theorem dBu_putInode_192 : decode cBu_putInode 192 = .ok (.idiv, 1) := by decide +kernel
theorem dBu_putInode_193 : decode cBu_putInode 193 = .ok (.goto 8, 3) := by decide +kernel
theorem dBu_putInode_196 : decode cBu_putInode 196 = .ok (.iload 4, 2) := by decide +kernel
theorem dBu_putInode_198 : decode cBu_putInode 198 = .ok (.invokestatic 15, 3) := by decide +kernel
theorem dBu_putInode_201 : decode cBu_putInode 201 = .ok (.iload_n 3, 1) := by decide +kernel
theorem dBu_putInode_202 : decode cBu_putInode 202 = .ok (.invokevirtual 93, 3) := by decide +kernel
theorem dBu_putInode_205 : decode cBu_putInode 205 = .ok (.istore 6, 2) := by decide +kernel
theorem dBu_putInode_207 : decode cBu_putInode 207 = .ok (.iload 6, 2) := by decide +kernel
theorem dBu_putInode_209 : decode cBu_putInode 209 = .ok (.iconst (-1), 1) := by decide +kernel
theorem dBu_putInode_210 : decode cBu_putInode 210 = .ok (.if_icmp .ne 5, 3) := by decide +kernel
theorem dBu_putInode_213 : decode cBu_putInode 213 = .ok (.iconst 0, 1) := by decide +kernel
theorem dBu_putInode_214 : decode cBu_putInode 214 = .ok (.ireturn, 1) := by decide +kernel
theorem dBu_putInode_215 : decode cBu_putInode 215 = .ok (.aload_n 0, 1) := by decide +kernel
theorem dBu_putInode_216 : decode cBu_putInode 216 = .ok (.getfield 9, 3) := by decide +kernel
theorem dBu_putInode_219 : decode cBu_putInode 219 = .ok (.iload 5, 2) := by decide +kernel
theorem dBu_putInode_221 : decode cBu_putInode 221 = .ok (.iconst 2, 1) := by decide +kernel
theorem dBu_putInode_222 : decode cBu_putInode 222 = .ok (.iadd, 1) := by decide +kernel
theorem dBu_putInode_223 : decode cBu_putInode 223 = .ok (.iload 6, 2) := by decide +kernel
theorem dBu_putInode_225 : decode cBu_putInode 225 = .ok (.iastore, 1) := by decide +kernel
theorem dBu_putInode_226 : decode cBu_putInode 226 = .ok (.iconst 1, 1) := by decide +kernel
theorem dBu_putInode_227 : decode cBu_putInode 227 = .ok (.ireturn, 1) := by decide +kernel
theorem dBu_putEnds_0 : decode cBu_putEnds 0 = .ok (.aload_n 0, 1) := by decide +kernel
theorem dBu_putEnds_1 : decode cBu_putEnds 1 = .ok (.getfield 9, 3) := by decide +kernel
theorem dBu_putEnds_4 : decode cBu_putEnds 4 = .ok (.iload_n 1, 1) := by decide +kernel
theorem dBu_putEnds_5 : decode cBu_putEnds 5 = .ok (.aload_n 0, 1) := by decide +kernel
theorem dBu_putEnds_6 : decode cBu_putEnds 6 = .ok (.getfield 31, 3) := by decide +kernel
theorem dBu_putEnds_9 : decode cBu_putEnds 9 = .ok (.getfield 84, 3) := by decide +kernel
theorem dBu_putEnds_12 : decode cBu_putEnds 12 = .ok (.iastore, 1) := by decide +kernel
theorem dBu_putEnds_13 : decode cBu_putEnds 13 = .ok (.aload_n 0, 1) := by decide +kernel
theorem dBu_putEnds_14 : decode cBu_putEnds 14 = .ok (.getfield 31, 3) := by decide +kernel
theorem dBu_putEnds_17 : decode cBu_putEnds 17 = .ok (.getfield 105, 3) := by decide +kernel
theorem dBu_putEnds_20 : decode cBu_putEnds 20 = .ok (.iconst 0, 1) := by decide +kernel
theorem dBu_putEnds_21 : decode cBu_putEnds 21 = .ok (.aload_n 0, 1) := by decide +kernel
theorem dBu_putEnds_22 : decode cBu_putEnds 22 = .ok (.getfield 9, 3) := by decide +kernel
theorem dBu_putEnds_25 : decode cBu_putEnds 25 = .ok (.iload_n 1, 1) := by decide +kernel
theorem dBu_putEnds_26 : decode cBu_putEnds 26 = .ok (.iconst 1, 1) := by decide +kernel
theorem dBu_putEnds_27 : decode cBu_putEnds 27 = .ok (.iadd, 1) := by decide +kernel
theorem dBu_putEnds_28 : decode cBu_putEnds 28 = .ok (.aload_n 0, 1) := by decide +kernel
theorem dBu_putEnds_29 : decode cBu_putEnds 29 = .ok (.getfield 31, 3) := by decide +kernel
theorem dBu_putEnds_32 : decode cBu_putEnds 32 = .ok (.getfield 84, 3) := by decide +kernel
theorem dBu_putEnds_35 : decode cBu_putEnds 35 = .ok (.invokestatic 108, 3) := by decide +kernel
theorem dBu_putEnds_38 : decode cBu_putEnds 38 = .ok (.return_, 1) := by decide +kernel
theorem dBu_putTail_0 : decode cBu_putTail 0 = .ok (.iload_n 2, 1) := by decide +kernel
theorem dBu_putTail_1 : decode cBu_putTail 1 = .ok (.bipush 16, 2) := by decide +kernel
theorem dBu_putTail_3 : decode cBu_putTail 3 = .ok (.irem, 1) := by decide +kernel
theorem dBu_putTail_4 : decode cBu_putTail 4 = .ok (.istore_n 3, 1) := by decide +kernel
theorem dBu_putTail_5 : decode cBu_putTail 5 = .ok (.aload_n 0, 1) := by decide +kernel
theorem dBu_putTail_6 : decode cBu_putTail 6 = .ok (.getfield 19, 3) := by decide +kernel
theorem dBu_putTail_9 : decode cBu_putTail 9 = .ok (.iload_n 2, 1) := by decide +kernel
theorem dBu_putTail_10 : decode cBu_putTail 10 = .ok (.iload_n 3, 1) := by decide +kernel
theorem dBu_putTail_11 : decode cBu_putTail 11 = .ok (.isub, 1) := by decide +kernel
theorem dBu_putTail_12 : decode cBu_putTail 12 = .ok (.aload_n 0, 1) := by decide +kernel
theorem dBu_putTail_13 : decode cBu_putTail 13 = .ok (.getfield 9, 3) := by decide +kernel
theorem dBu_putTail_16 : decode cBu_putTail 16 = .ok (.iload_n 1, 1) := by decide +kernel
theorem dBu_putTail_17 : decode cBu_putTail 17 = .ok (.iload_n 3, 1) := by decide +kernel
theorem dBu_putTail_18 : decode cBu_putTail 18 = .ok (.invokestatic 108, 3) := by decide +kernel
theorem dBu_putTail_21 : decode cBu_putTail 21 = .ok (.return_, 1) := by decide +kernel
theorem dBu_fillData_0 : decode cBu_fillData 0 = .ok (.aload_n 0, 1) := by decide +kernel
theorem dBu_fillData_1 : decode cBu_fillData 1 = .ok (.getfield 19, 3) := by decide +kernel
theorem dBu_fillData_4 : decode cBu_fillData 4 = .ok (.iconst 0, 1) := by decide +kernel
theorem dBu_fillData_5 : decode cBu_fillData 5 = .ok (.invokestatic 52, 3) := by decide +kernel
theorem dBu_fillData_8 : decode cBu_fillData 8 = .ok (.aload_n 1, 1) := by decide +kernel
theorem dBu_fillData_9 : decode cBu_fillData 9 = .ok (.iload_n 2, 1) := by decide +kernel
theorem dBu_fillData_10 : decode cBu_fillData 10 = .ok (.invokevirtual 75, 3) := by decide +kernel
theorem dBu_fillData_13 : decode cBu_fillData 13 = .ok (.ifCond .ne 12, 3) := by decide +kernel
theorem dBu_fillData_16 : decode cBu_fillData 16 = .ok (.aload_n 0, 1) := by decide +kernel
theorem dBu_fillData_17 : decode cBu_fillData 17 = .ok (.aload_n 1, 1) := by decide +kernel
theorem dBu_fillData_18 : decode cBu_fillData 18 = .ok (.iload_n 2, 1) := by decide +kernel
theorem dBu_fillData_19 : decode cBu_fillData 19 = .ok (.invokevirtual 114, 3) := by decide +kernel
theorem dBu_fillData_22 : decode cBu_fillData 22 = .ok (.goto 12, 3) := by decide +kernel
theorem dBu_fillData_25 : decode cBu_fillData 25 = .ok (.aload_n 1, 1) := by decide +kernel
theorem dBu_fillData_26 : decode cBu_fillData 26 = .ok (.iload_n 2, 1) := by decide +kernel
theorem dBu_fillData_27 : decode cBu_fillData 27 = .ok (.aload_n 0, 1) := by decide +kernel
theorem dBu_fillData_28 : decode cBu_fillData 28 = .ok (.getfield 19, 3) := by decide +kernel
theorem dBu_fillData_31 : decode cBu_fillData 31 = .ok (.invokevirtual 117, 3) := by decide +kernel
theorem dBu_fillData_34 : decode cBu_fillData 34 = .ok (.return_, 1) := by decide +kernel
theorem dBu_fillEntries_0 : decode cBu_fillEntries 0 = .ok (.iconst 0, 1) := by decide +kernel
theorem dBu_fillEntries_1 : decode cBu_fillEntries 1 = .ok (.istore_n 3, 1) := by decide +kernel
theorem dBu_fillEntries_2 : decode cBu_fillEntries 2 = .ok (.iconst 0, 1) := by decide +kernel
theorem dBu_fillEntries_3 : decode cBu_fillEntries 3 = .ok (.istore 4, 2) := by decide +kernel
theorem dBu_fillEntries_5 : decode cBu_fillEntries 5 = .ok (.iload 4, 2) := by decide +kernel
theorem dBu_fillEntries_7 : decode cBu_fillEntries 7 = .ok (.bipush 26, 2) := by decide +kernel
theorem dBu_fillEntries_9 : decode cBu_fillEntries 9 = .ok (.if_icmp .ge 67, 3) := by decide +kernel
theorem dBu_fillEntries_12 : decode cBu_fillEntries 12 = .ok (.aload_n 1, 1) := by decide +kernel
theorem dBu_fillEntries_13 : decode cBu_fillEntries 13 = .ok (.iload_n 2, 1) := by decide +kernel
theorem dBu_fillEntries_14 : decode cBu_fillEntries 14 = .ok (.iload 4, 2) := by decide +kernel
theorem dBu_fillEntries_16 : decode cBu_fillEntries 16 = .ok (.invokevirtual 121, 3) := by decide +kernel
theorem dBu_fillEntries_19 : decode cBu_fillEntries 19 = .ok (.istore 5, 2) := by decide +kernel
theorem dBu_fillEntries_21 : decode cBu_fillEntries 21 = .ok (.iload 5, 2) := by decide +kernel
theorem dBu_fillEntries_23 : decode cBu_fillEntries 23 = .ok (.iconst (-1), 1) := by decide +kernel
theorem dBu_fillEntries_24 : decode cBu_fillEntries 24 = .ok (.if_icmp .eq 46, 3) := by decide +kernel
theorem dBu_fillEntries_27 : decode cBu_fillEntries 27 = .ok (.aload_n 0, 1) := by decide +kernel
theorem dBu_fillEntries_28 : decode cBu_fillEntries 28 = .ok (.getfield 19, 3) := by decide +kernel
theorem dBu_fillEntries_31 : decode cBu_fillEntries 31 = .ok (.iload_n 3, 1) := by decide +kernel
theorem dBu_fillEntries_32 : decode cBu_fillEntries 32 = .ok (.bipush 97, 2) := by decide +kernel
theorem dBu_fillEntries_34 : decode cBu_fillEntries 34 = .ok (.iload 4, 2) := by decide +kernel
theorem dBu_fillEntries_36 : decode cBu_fillEntries 36 = .ok (.iadd, 1) := by decide +kernel
theorem dBu_fillEntries_37 : decode cBu_fillEntries 37 = .ok (.iastore, 1) := by decide +kernel
theorem dBu_fillEntries_38 : decode cBu_fillEntries 38 = .ok (.aload_n 0, 1) := by decide +kernel
theorem dBu_fillEntries_39 : decode cBu_fillEntries 39 = .ok (.getfield 19, 3) := by decide +kernel
theorem dBu_fillEntries_42 : decode cBu_fillEntries 42 = .ok (.iload_n 3, 1) := by decide +kernel
theorem dBu_fillEntries_43 : decode cBu_fillEntries 43 = .ok (.iconst 1, 1) := by decide +kernel
theorem dBu_fillEntries_44 : decode cBu_fillEntries 44 = .ok (.iadd, 1) := by decide +kernel
theorem dBu_fillEntries_45 : decode cBu_fillEntries 45 = .ok (.aload_n 0, 1) := by decide +kernel
theorem dBu_fillEntries_46 : decode cBu_fillEntries 46 = .ok (.getfield 22, 3) := by decide +kernel
theorem dBu_fillEntries_49 : decode cBu_fillEntries 49 = .ok (.iload 5, 2) := by decide +kernel
theorem dBu_fillEntries_51 : decode cBu_fillEntries 51 = .ok (.iaload, 1) := by decide +kernel
theorem dBu_fillEntries_52 : decode cBu_fillEntries 52 = .ok (.iastore, 1) := by decide +kernel
theorem dBu_fillEntries_53 : decode cBu_fillEntries 53 = .ok (.aload_n 0, 1) := by decide +kernel
theorem dBu_fillEntries_54 : decode cBu_fillEntries 54 = .ok (.getfield 19, 3) := by decide +kernel
theorem dBu_fillEntries_57 : decode cBu_fillEntries 57 = .ok (.iload_n 3, 1) := by decide +kernel
theorem dBu_fillEntries_58 : decode cBu_fillEntries 58 = .ok (.iconst 2, 1) := by decide +kernel
theorem dBu_fillEntries_59 : decode cBu_fillEntries 59 = .ok (.iadd, 1) := by decide +kernel
theorem dBu_fillEntries_60 : decode cBu_fillEntries 60 = .ok (.aload_n 1, 1) := by decide +kernel
theorem dBu_fillEntries_61 : decode cBu_fillEntries 61 = .ok (.iload 5, 2) := by decide +kernel
theorem dBu_fillEntries_63 : decode cBu_fillEntries 63 = .ok (.invokevirtual 75, 3) := by decide +kernel
theorem dBu_fillEntries_66 : decode cBu_fillEntries 66 = .ok (.iastore, 1) := by decide +kernel
theorem dBu_fillEntries_67 : decode cBu_fillEntries 67 = .ok (.iinc 3 3, 3) := by decide +kernel
theorem dBu_fillEntries_70 : decode cBu_fillEntries 70 = .ok (.iinc 4 1, 3) := by decide +kernel
theorem dBu_fillEntries_73 : decode cBu_fillEntries 73 = .ok (.goto (-68), 3) := by decide +kernel
theorem dBu_fillEntries_76 : decode cBu_fillEntries 76 = .ok (.return_, 1) := by decide +kernel
theorem dBu_settle_0 : decode cBu_settle 0 = .ok (.iload_n 2, 1) := by decide +kernel
theorem dBu_settle_1 : decode cBu_settle 1 = .ok (.ifCond .ne 5, 3) := by decide +kernel
theorem dBu_settle_4 : decode cBu_settle 4 = .ok (.iconst 0, 1) := by decide +kernel
theorem dBu_settle_5 : decode cBu_settle 5 = .ok (.ireturn, 1) := by decide +kernel
theorem dBu_settle_6 : decode cBu_settle 6 = .ok (.iload_n 3, 1) := by decide +kernel
theorem dBu_settle_7 : decode cBu_settle 7 = .ok (.iconst 2, 1) := by decide +kernel
theorem dBu_settle_8 : decode cBu_settle 8 = .ok (.iand, 1) := by decide +kernel
theorem dBu_settle_9 : decode cBu_settle 9 = .ok (.ifCond .eq 40, 3) := by decide +kernel
theorem dBu_settle_12 : decode cBu_settle 12 = .ok (.aload_n 0, 1) := by decide +kernel
theorem dBu_settle_13 : decode cBu_settle 13 = .ok (.getfield 61, 3) := by decide +kernel
theorem dBu_settle_16 : decode cBu_settle 16 = .ok (.istore 4, 2) := by decide +kernel
theorem dBu_settle_18 : decode cBu_settle 18 = .ok (.iload 4, 2) := by decide +kernel
theorem dBu_settle_20 : decode cBu_settle 20 = .ok (.iload_n 2, 1) := by decide +kernel
theorem dBu_settle_21 : decode cBu_settle 21 = .ok (.iadd, 1) := by decide +kernel
theorem dBu_settle_22 : decode cBu_settle 22 = .ok (.aload_n 0, 1) := by decide +kernel
theorem dBu_settle_23 : decode cBu_settle 23 = .ok (.getfield 64, 3) := by decide +kernel
theorem dBu_settle_26 : decode cBu_settle 26 = .ok (.if_icmp .gt 23, 3) := by decide +kernel
theorem dBu_settle_29 : decode cBu_settle 29 = .ok (.aload_n 0, 1) := by decide +kernel
theorem dBu_settle_30 : decode cBu_settle 30 = .ok (.aload_n 1, 1) := by decide +kernel
theorem dBu_settle_31 : decode cBu_settle 31 = .ok (.iload_n 2, 1) := by decide +kernel
theorem dBu_settle_32 : decode cBu_settle 32 = .ok (.iload 4, 2) := by decide +kernel
theorem dBu_settle_34 : decode cBu_settle 34 = .ok (.invokevirtual 125, 3) := by decide +kernel
theorem dBu_settle_37 : decode cBu_settle 37 = .ok (.ifCond .eq 6, 3) := by decide +kernel
theorem dBu_settle_40 : decode cBu_settle 40 = .ok (.iload 4, 2) := by decide +kernel
theorem dBu_settle_42 : decode cBu_settle 42 = .ok (.ireturn, 1) := by decide +kernel
theorem dBu_settle_43 : decode cBu_settle 43 = .ok (.iinc 4 1, 3) := by decide +kernel
theorem dBu_settle_46 : decode cBu_settle 46 = .ok (.goto (-28), 3) := by decide +kernel
theorem dBu_settle_49 : decode cBu_settle 49 = .ok (.aload_n 0, 1) := by decide +kernel
theorem dBu_settle_50 : decode cBu_settle 50 = .ok (.getfield 64, 3) := by decide +kernel
theorem dBu_settle_53 : decode cBu_settle 53 = .ok (.iload_n 2, 1) := by decide +kernel
theorem dBu_settle_54 : decode cBu_settle 54 = .ok (.iadd, 1) := by decide +kernel
theorem dBu_settle_55 : decode cBu_settle 55 = .ok (.bipush 64, 2) := by decide +kernel
theorem dBu_settle_57 : decode cBu_settle 57 = .ok (.if_icmp .le 5, 3) := by decide +kernel
theorem dBu_settle_60 : decode cBu_settle 60 = .ok (.iconst (-1), 1) := by decide +kernel
theorem dBu_settle_61 : decode cBu_settle 61 = .ok (.ireturn, 1) := by decide +kernel
theorem dBu_settle_62 : decode cBu_settle 62 = .ok (.aload_n 0, 1) := by decide +kernel
theorem dBu_settle_63 : decode cBu_settle 63 = .ok (.getfield 64, 3) := by decide +kernel
theorem dBu_settle_66 : decode cBu_settle 66 = .ok (.istore 4, 2) := by decide +kernel
theorem dBu_settle_68 : decode cBu_settle 68 = .ok (.aload_n 1, 1) := by decide +kernel
theorem dBu_settle_69 : decode cBu_settle 69 = .ok (.iconst 0, 1) := by decide +kernel
theorem dBu_settle_70 : decode cBu_settle 70 = .ok (.aload_n 0, 1) := by decide +kernel
theorem dBu_settle_71 : decode cBu_settle 71 = .ok (.getfield 9, 3) := by decide +kernel
theorem dBu_settle_74 : decode cBu_settle 74 = .ok (.iload 4, 2) := by decide +kernel
theorem dBu_settle_76 : decode cBu_settle 76 = .ok (.bipush 16, 2) := by decide +kernel
theorem dBu_settle_78 : decode cBu_settle 78 = .ok (.imul, 1) := by decide +kernel
theorem dBu_settle_79 : decode cBu_settle 79 = .ok (.iload_n 2, 1) := by decide +kernel
theorem dBu_settle_80 : decode cBu_settle 80 = .ok (.bipush 16, 2) := by decide +kernel
theorem dBu_settle_82 : decode cBu_settle 82 = .ok (.imul, 1) := by decide +kernel
theorem dBu_settle_83 : decode cBu_settle 83 = .ok (.invokestatic 108, 3) := by decide +kernel
theorem dBu_settle_86 : decode cBu_settle 86 = .ok (.aload_n 0, 1) := by decide +kernel
theorem dBu_settle_87 : decode cBu_settle 87 = .ok (.dup, 1) := by decide +kernel
theorem dBu_settle_88 : decode cBu_settle 88 = .ok (.getfield 64, 3) := by decide +kernel
theorem dBu_settle_91 : decode cBu_settle 91 = .ok (.iload_n 2, 1) := by decide +kernel
theorem dBu_settle_92 : decode cBu_settle 92 = .ok (.iadd, 1) := by decide +kernel
theorem dBu_settle_93 : decode cBu_settle 93 = .ok (.putfield 64, 3) := by decide +kernel
theorem dBu_settle_96 : decode cBu_settle 96 = .ok (.iload 4, 2) := by decide +kernel
theorem dBu_settle_98 : decode cBu_settle 98 = .ok (.ireturn, 1) := by decide +kernel
theorem dBu_isThere_0 : decode cBu_isThere 0 = .ok (.iconst 0, 1) := by decide +kernel
theorem dBu_isThere_1 : decode cBu_isThere 1 = .ok (.istore 4, 2) := by decide +kernel
theorem dBu_isThere_3 : decode cBu_isThere 3 = .ok (.iload 4, 2) := by decide +kernel
theorem dBu_isThere_5 : decode cBu_isThere 5 = .ok (.iload_n 2, 1) := by decide +kernel
theorem dBu_isThere_6 : decode cBu_isThere 6 = .ok (.bipush 16, 2) := by decide +kernel
theorem dBu_isThere_8 : decode cBu_isThere 8 = .ok (.imul, 1) := by decide +kernel
theorem dBu_isThere_9 : decode cBu_isThere 9 = .ok (.if_icmp .ge 30, 3) := by decide +kernel
theorem dBu_isThere_12 : decode cBu_isThere 12 = .ok (.aload_n 0, 1) := by decide +kernel
theorem dBu_isThere_13 : decode cBu_isThere 13 = .ok (.getfield 9, 3) := by decide +kernel
theorem dBu_isThere_16 : decode cBu_isThere 16 = .ok (.iload_n 3, 1) := by decide +kernel
theorem dBu_isThere_17 : decode cBu_isThere 17 = .ok (.bipush 16, 2) := by decide +kernel
theorem dBu_isThere_19 : decode cBu_isThere 19 = .ok (.imul, 1) := by decide +kernel
theorem dBu_isThere_20 : decode cBu_isThere 20 = .ok (.iload 4, 2) := by decide +kernel
theorem dBu_isThere_22 : decode cBu_isThere 22 = .ok (.iadd, 1) := by decide +kernel
theorem dBu_isThere_23 : decode cBu_isThere 23 = .ok (.iaload, 1) := by decide +kernel
theorem dBu_isThere_24 : decode cBu_isThere 24 = .ok (.aload_n 1, 1) := by decide +kernel
theorem dBu_isThere_25 : decode cBu_isThere 25 = .ok (.iload 4, 2) := by decide +kernel
theorem dBu_isThere_27 : decode cBu_isThere 27 = .ok (.iaload, 1) := by decide +kernel
theorem dBu_isThere_28 : decode cBu_isThere 28 = .ok (.if_icmp .eq 5, 3) := by decide +kernel
theorem dBu_isThere_31 : decode cBu_isThere 31 = .ok (.iconst 0, 1) := by decide +kernel
theorem dBu_isThere_32 : decode cBu_isThere 32 = .ok (.ireturn, 1) := by decide +kernel
theorem dBu_isThere_33 : decode cBu_isThere 33 = .ok (.iinc 4 1, 3) := by decide +kernel
theorem dBu_isThere_36 : decode cBu_isThere 36 = .ok (.goto (-33), 3) := by decide +kernel
theorem dBu_isThere_39 : decode cBu_isThere 39 = .ok (.iconst 1, 1) := by decide +kernel
theorem dBu_isThere_40 : decode cBu_isThere 40 = .ok (.ireturn, 1) := by decide +kernel
theorem dBu_putHeader_0 : decode cBu_putHeader 0 = .ok (.aload_n 0, 1) := by decide +kernel
theorem dBu_putHeader_1 : decode cBu_putHeader 1 = .ok (.getfield 9, 3) := by decide +kernel
theorem dBu_putHeader_4 : decode cBu_putHeader 4 = .ok (.iconst 0, 1) := by decide +kernel
theorem dBu_putHeader_5 : decode cBu_putHeader 5 = .ok (.sipush 225, 3) := by decide +kernel
theorem dBu_putHeader_8 : decode cBu_putHeader 8 = .ok (.iastore, 1) := by decide +kernel
theorem dBu_putHeader_9 : decode cBu_putHeader 9 = .ok (.aload_n 0, 1) := by decide +kernel
theorem dBu_putHeader_10 : decode cBu_putHeader 10 = .ok (.getfield 9, 3) := by decide +kernel
theorem dBu_putHeader_13 : decode cBu_putHeader 13 = .ok (.iconst 1, 1) := by decide +kernel
theorem dBu_putHeader_14 : decode cBu_putHeader 14 = .ok (.sipush 245, 3) := by decide +kernel
theorem dBu_putHeader_17 : decode cBu_putHeader 17 = .ok (.iastore, 1) := by decide +kernel
theorem dBu_putHeader_18 : decode cBu_putHeader 18 = .ok (.aload_n 0, 1) := by decide +kernel
theorem dBu_putHeader_19 : decode cBu_putHeader 19 = .ok (.getfield 9, 3) := by decide +kernel
theorem dBu_putHeader_22 : decode cBu_putHeader 22 = .ok (.iconst 2, 1) := by decide +kernel
theorem dBu_putHeader_23 : decode cBu_putHeader 23 = .ok (.iload_n 1, 1) := by decide +kernel
theorem dBu_putHeader_24 : decode cBu_putHeader 24 = .ok (.iastore, 1) := by decide +kernel
theorem dBu_putHeader_25 : decode cBu_putHeader 25 = .ok (.aload_n 0, 1) := by decide +kernel
theorem dBu_putHeader_26 : decode cBu_putHeader 26 = .ok (.getfield 9, 3) := by decide +kernel
theorem dBu_putHeader_29 : decode cBu_putHeader 29 = .ok (.iconst 3, 1) := by decide +kernel
theorem dBu_putHeader_30 : decode cBu_putHeader 30 = .ok (.aload_n 0, 1) := by decide +kernel
theorem dBu_putHeader_31 : decode cBu_putHeader 31 = .ok (.getfield 35, 3) := by decide +kernel
theorem dBu_putHeader_34 : decode cBu_putHeader 34 = .ok (.iastore, 1) := by decide +kernel
theorem dBu_putHeader_35 : decode cBu_putHeader 35 = .ok (.aload_n 0, 1) := by decide +kernel
theorem dBu_putHeader_36 : decode cBu_putHeader 36 = .ok (.getfield 9, 3) := by decide +kernel
theorem dBu_putHeader_39 : decode cBu_putHeader 39 = .ok (.iconst 4, 1) := by decide +kernel
theorem dBu_putHeader_40 : decode cBu_putHeader 40 = .ok (.aload_n 0, 1) := by decide +kernel
theorem dBu_putHeader_41 : decode cBu_putHeader 41 = .ok (.getfield 64, 3) := by decide +kernel
theorem dBu_putHeader_44 : decode cBu_putHeader 44 = .ok (.iastore, 1) := by decide +kernel
theorem dBu_putHeader_45 : decode cBu_putHeader 45 = .ok (.aload_n 0, 1) := by decide +kernel
theorem dBu_putHeader_46 : decode cBu_putHeader 46 = .ok (.getfield 9, 3) := by decide +kernel
theorem dBu_putHeader_49 : decode cBu_putHeader 49 = .ok (.invokestatic 129, 3) := by decide +kernel
theorem dBu_putHeader_52 : decode cBu_putHeader 52 = .ok (.return_, 1) := by decide +kernel
theorem dCa_empty_0 : decode cCa_empty 0 = .ok (.aload_n 0, 1) := by decide +kernel
theorem dCa_empty_1 : decode cCa_empty 1 = .ok (.getfield 12, 3) := by decide +kernel
theorem dCa_empty_4 : decode cCa_empty 4 = .ok (.iconst (-1), 1) := by decide +kernel
theorem dCa_empty_5 : decode cCa_empty 5 = .ok (.putfield 24, 3) := by decide +kernel
theorem dCa_empty_8 : decode cCa_empty 8 = .ok (.aload_n 0, 1) := by decide +kernel
theorem dCa_empty_9 : decode cCa_empty 9 = .ok (.getfield 18, 3) := by decide +kernel
theorem dCa_empty_12 : decode cCa_empty 12 = .ok (.iconst (-1), 1) := by decide +kernel
theorem dCa_empty_13 : decode cCa_empty 13 = .ok (.putfield 24, 3) := by decide +kernel
theorem dCa_empty_16 : decode cCa_empty 16 = .ok (.aload_n 0, 1) := by decide +kernel
theorem dCa_empty_17 : decode cCa_empty 17 = .ok (.iconst 0, 1) := by decide +kernel
theorem dCa_empty_18 : decode cCa_empty 18 = .ok (.putfield 28, 3) := by decide +kernel
theorem dCa_empty_21 : decode cCa_empty 21 = .ok (.aload_n 0, 1) := by decide +kernel
theorem dCa_empty_22 : decode cCa_empty 22 = .ok (.iconst 0, 1) := by decide +kernel
theorem dCa_empty_23 : decode cCa_empty 23 = .ok (.putfield 31, 3) := by decide +kernel
theorem dCa_empty_26 : decode cCa_empty 26 = .ok (.return_, 1) := by decide +kernel
theorem dCa_holds_0 : decode cCa_holds 0 = .ok (.aload_n 0, 1) := by decide +kernel
theorem dCa_holds_1 : decode cCa_holds 1 = .ok (.getfield 18, 3) := by decide +kernel
theorem dCa_holds_4 : decode cCa_holds 4 = .ok (.getfield 24, 3) := by decide +kernel
theorem dCa_holds_7 : decode cCa_holds 7 = .ok (.iload_n 1, 1) := by decide +kernel
theorem dCa_holds_8 : decode cCa_holds 8 = .ok (.if_icmp .ne 32, 3) := by decide +kernel
theorem dCa_holds_11 : decode cCa_holds 11 = .ok (.aload_n 0, 1) := by decide +kernel
theorem dCa_holds_12 : decode cCa_holds 12 = .ok (.getfield 18, 3) := by decide +kernel
theorem dCa_holds_15 : decode cCa_holds 15 = .ok (.getfield 34, 3) := by decide +kernel
theorem dCa_holds_18 : decode cCa_holds 18 = .ok (.iload_n 2, 1) := by decide +kernel
theorem dCa_holds_19 : decode cCa_holds 19 = .ok (.if_icmp .ne 21, 3) := by decide +kernel
theorem dCa_holds_22 : decode cCa_holds 22 = .ok (.aload_n 0, 1) := by decide +kernel
theorem dCa_holds_23 : decode cCa_holds 23 = .ok (.getfield 18, 3) := by decide +kernel
theorem dCa_holds_26 : decode cCa_holds 26 = .ok (.astore_n 3, 1) := by decide +kernel
theorem dCa_holds_27 : decode cCa_holds 27 = .ok (.aload_n 0, 1) := by decide +kernel
theorem dCa_holds_28 : decode cCa_holds 28 = .ok (.aload_n 0, 1) := by decide +kernel
theorem dCa_holds_29 : decode cCa_holds 29 = .ok (.getfield 12, 3) := by decide +kernel
theorem dCa_holds_32 : decode cCa_holds 32 = .ok (.putfield 18, 3) := by decide +kernel
theorem dCa_holds_35 : decode cCa_holds 35 = .ok (.aload_n 0, 1) := by decide +kernel
theorem dCa_holds_36 : decode cCa_holds 36 = .ok (.aload_n 3, 1) := by decide +kernel
theorem dCa_holds_37 : decode cCa_holds 37 = .ok (.putfield 12, 3) := by decide +kernel
theorem dCa_holds_40 : decode cCa_holds 40 = .ok (.aload_n 0, 1) := by decide +kernel
theorem dCa_holds_41 : decode cCa_holds 41 = .ok (.getfield 12, 3) := by decide +kernel
theorem dCa_holds_44 : decode cCa_holds 44 = .ok (.getfield 24, 3) := by decide +kernel
theorem dCa_holds_47 : decode cCa_holds 47 = .ok (.iload_n 1, 1) := by decide +kernel
theorem dCa_holds_48 : decode cCa_holds 48 = .ok (.if_icmp .ne 18, 3) := by decide +kernel
theorem dCa_holds_51 : decode cCa_holds 51 = .ok (.aload_n 0, 1) := by decide +kernel
theorem dCa_holds_52 : decode cCa_holds 52 = .ok (.getfield 12, 3) := by decide +kernel
theorem dCa_holds_55 : decode cCa_holds 55 = .ok (.getfield 34, 3) := by decide +kernel
theorem dCa_holds_58 : decode cCa_holds 58 = .ok (.iload_n 2, 1) := by decide +kernel
theorem dCa_holds_59 : decode cCa_holds 59 = .ok (.if_icmp .ne 7, 3) := by decide +kernel
theorem dCa_holds_62 : decode cCa_holds 62 = .ok (.iconst 1, 1) := by decide +kernel
theorem dCa_holds_63 : decode cCa_holds 63 = .ok (.goto 4, 3) := by decide +kernel
theorem dCa_holds_66 : decode cCa_holds 66 = .ok (.iconst 0, 1) := by decide +kernel
theorem dCa_holds_67 : decode cCa_holds 67 = .ok (.istore_n 3, 1) := by decide +kernel
theorem dCa_holds_68 : decode cCa_holds 68 = .ok (.iload_n 3, 1) := by decide +kernel
theorem dCa_holds_69 : decode cCa_holds 69 = .ok (.ifCond .eq 16, 3) := by decide +kernel
theorem dCa_holds_72 : decode cCa_holds 72 = .ok (.aload_n 0, 1) := by decide +kernel
theorem dCa_holds_73 : decode cCa_holds 73 = .ok (.dup, 1) := by decide +kernel
theorem dCa_holds_74 : decode cCa_holds 74 = .ok (.getfield 28, 3) := by decide +kernel
theorem dCa_holds_77 : decode cCa_holds 77 = .ok (.iconst 1, 1) := by decide +kernel
theorem dCa_holds_78 : decode cCa_holds 78 = .ok (.iadd, 1) := by decide +kernel
theorem dCa_holds_79 : decode cCa_holds 79 = .ok (.putfield 28, 3) := by decide +kernel
theorem dCa_holds_82 : decode cCa_holds 82 = .ok (.goto 13, 3) := by decide +kernel
theorem dCa_holds_85 : decode cCa_holds 85 = .ok (.aload_n 0, 1) := by decide +kernel
theorem dCa_holds_86 : decode cCa_holds 86 = .ok (.dup, 1) := by decide +kernel
theorem dCa_holds_87 : decode cCa_holds 87 = .ok (.getfield 31, 3) := by decide +kernel
theorem dCa_holds_90 : decode cCa_holds 90 = .ok (.iconst 1, 1) := by decide +kernel
theorem dCa_holds_91 : decode cCa_holds 91 = .ok (.iadd, 1) := by decide +kernel
theorem dCa_holds_92 : decode cCa_holds 92 = .ok (.putfield 31, 3) := by decide +kernel
theorem dCa_holds_95 : decode cCa_holds 95 = .ok (.iload_n 3, 1) := by decide +kernel
theorem dCa_holds_96 : decode cCa_holds 96 = .ok (.ireturn, 1) := by decide +kernel
theorem dCa_keepSpare_0 : decode cCa_keepSpare 0 = .ok (.aload_n 0, 1) := by decide +kernel
theorem dCa_keepSpare_1 : decode cCa_keepSpare 1 = .ok (.getfield 21, 3) := by decide +kernel
theorem dCa_keepSpare_4 : decode cCa_keepSpare 4 = .ok (.astore_n 3, 1) := by decide +kernel
theorem dCa_keepSpare_5 : decode cCa_keepSpare 5 = .ok (.aload_n 3, 1) := by decide +kernel
theorem dCa_keepSpare_6 : decode cCa_keepSpare 6 = .ok (.iload_n 1, 1) := by decide +kernel
theorem dCa_keepSpare_7 : decode cCa_keepSpare 7 = .ok (.putfield 24, 3) := by decide +kernel
theorem dCa_keepSpare_10 : decode cCa_keepSpare 10 = .ok (.aload_n 3, 1) := by decide +kernel
theorem dCa_keepSpare_11 : decode cCa_keepSpare 11 = .ok (.iload_n 2, 1) := by decide +kernel
theorem dCa_keepSpare_12 : decode cCa_keepSpare 12 = .ok (.putfield 34, 3) := by decide +kernel
theorem dCa_keepSpare_15 : decode cCa_keepSpare 15 = .ok (.aload_n 0, 1) := by decide +kernel
theorem dCa_keepSpare_16 : decode cCa_keepSpare 16 = .ok (.aload_n 0, 1) := by decide +kernel
theorem dCa_keepSpare_17 : decode cCa_keepSpare 17 = .ok (.getfield 18, 3) := by decide +kernel
theorem dCa_keepSpare_20 : decode cCa_keepSpare 20 = .ok (.putfield 21, 3) := by decide +kernel
theorem dCa_keepSpare_23 : decode cCa_keepSpare 23 = .ok (.aload_n 0, 1) := by decide +kernel
theorem dCa_keepSpare_24 : decode cCa_keepSpare 24 = .ok (.aload_n 0, 1) := by decide +kernel
theorem dCa_keepSpare_25 : decode cCa_keepSpare 25 = .ok (.getfield 12, 3) := by decide +kernel
theorem dCa_keepSpare_28 : decode cCa_keepSpare 28 = .ok (.putfield 18, 3) := by decide +kernel
theorem dCa_keepSpare_31 : decode cCa_keepSpare 31 = .ok (.aload_n 0, 1) := by decide +kernel
theorem dCa_keepSpare_32 : decode cCa_keepSpare 32 = .ok (.aload_n 3, 1) := by decide +kernel
theorem dCa_keepSpare_33 : decode cCa_keepSpare 33 = .ok (.putfield 12, 3) := by decide +kernel
theorem dCa_keepSpare_36 : decode cCa_keepSpare 36 = .ok (.return_, 1) := by decide +kernel
theorem dCl_dataAt_0 : decode cCl_dataAt 0 = .ok (.iload_n 1, 1) := by decide +kernel
theorem dCl_dataAt_1 : decode cCl_dataAt 1 = .ok (.ifCond .lt 20, 3) := by decide +kernel
theorem dCl_dataAt_4 : decode cCl_dataAt 4 = .ok (.iload_n 1, 1) := by decide +kernel
theorem dCl_dataAt_5 : decode cCl_dataAt 5 = .ok (.aload_n 0, 1) := by decide +kernel
theorem dCl_dataAt_6 : decode cCl_dataAt 6 = .ok (.getfield 19, 3) := by decide +kernel
theorem dCl_dataAt_9 : decode cCl_dataAt 9 = .ok (.if_icmp .ge 12, 3) := by decide +kernel
theorem dCl_dataAt_12 : decode cCl_dataAt 12 = .ok (.aload_n 0, 1) := by decide +kernel
theorem dCl_dataAt_13 : decode cCl_dataAt 13 = .ok (.getfield 9, 3) := by decide +kernel
theorem dCl_dataAt_16 : decode cCl_dataAt 16 = .ok (.iload_n 1, 1) := by decide +kernel
theorem dCl_dataAt_17 : decode cCl_dataAt 17 = .ok (.iaload, 1) := by decide +kernel
theorem dCl_dataAt_18 : decode cCl_dataAt 18 = .ok (.goto 4, 3) := by decide +kernel
theorem dCl_dataAt_21 : decode cCl_dataAt 21 = .ok (.iconst 0, 1) := by decide +kernel
theorem dCl_dataAt_22 : decode cCl_dataAt 22 = .ok (.ireturn, 1) := by decide +kernel
theorem dCl_fill_0 : decode cCl_fill 0 = .ok (.aload_n 0, 1) := by decide +kernel
theorem dCl_fill_1 : decode cCl_fill 1 = .ok (.iconst 0, 1) := by decide +kernel
theorem dCl_fill_2 : decode cCl_fill 2 = .ok (.putfield 19, 3) := by decide +kernel
theorem dCl_fill_5 : decode cCl_fill 5 = .ok (.aload_n 0, 1) := by decide +kernel
theorem dCl_fill_6 : decode cCl_fill 6 = .ok (.iconst 0, 1) := by decide +kernel
theorem dCl_fill_7 : decode cCl_fill 7 = .ok (.putfield 22, 3) := by decide +kernel
theorem dCl_fill_10 : decode cCl_fill 10 = .ok (.iload_n 2, 1) := by decide +kernel
theorem dCl_fill_11 : decode cCl_fill 11 = .ok (.ifCond .lt 19, 3) := by decide +kernel
theorem dCl_fill_14 : decode cCl_fill 14 = .ok (.iload_n 2, 1) := by decide +kernel
theorem dCl_fill_15 : decode cCl_fill 15 = .ok (.bipush 16, 2) := by decide +kernel
theorem dCl_fill_17 : decode cCl_fill 17 = .ok (.iadd, 1) := by decide +kernel
theorem dCl_fill_18 : decode cCl_fill 18 = .ok (.aload_n 1, 1) := by decide +kernel
theorem dCl_fill_19 : decode cCl_fill 19 = .ok (.arraylength, 1) := by decide +kernel
theorem dCl_fill_20 : decode cCl_fill 20 = .ok (.if_icmp .gt 10, 3) := by decide +kernel
theorem dCl_fill_23 : decode cCl_fill 23 = .ok (.iload_n 3, 1) := by decide +kernel
theorem dCl_fill_24 : decode cCl_fill 24 = .ok (.sipush 255, 3) := by decide +kernel
theorem dCl_fill_27 : decode cCl_fill 27 = .ok (.if_icmp .le 5, 3) := by decide +kernel
theorem dCl_fill_30 : decode cCl_fill 30 = .ok (.iconst 0, 1) := by decide +kernel
theorem dCl_fill_31 : decode cCl_fill 31 = .ok (.ireturn, 1) := by decide +kernel
theorem dCl_fill_32 : decode cCl_fill 32 = .ok (.iconst 1, 1) := by decide +kernel
theorem dCl_fill_33 : decode cCl_fill 33 = .ok (.istore 4, 2) := by decide +kernel
theorem dCl_fill_35 : decode cCl_fill 35 = .ok (.iconst 0, 1) := by decide +kernel
theorem dCl_fill_36 : decode cCl_fill 36 = .ok (.istore 5, 2) := by decide +kernel
theorem dCl_fill_38 : decode cCl_fill 38 = .ok (.iload 5, 2) := by decide +kernel
theorem dCl_fill_40 : decode cCl_fill 40 = .ok (.bipush 16, 2) := by decide +kernel
theorem dCl_fill_42 : decode cCl_fill 42 = .ok (.if_icmp .gt 31, 3) := by decide +kernel
theorem dCl_fill_45 : decode cCl_fill 45 = .ok (.iload 4, 2) := by decide +kernel
theorem dCl_fill_47 : decode cCl_fill 47 = .ok (.ifCond .eq 26, 3) := by decide +kernel
theorem dCl_fill_50 : decode cCl_fill 50 = .ok (.aload_n 0, 1) := by decide +kernel
theorem dCl_fill_51 : decode cCl_fill 51 = .ok (.getfield 19, 3) := by decide +kernel
theorem dCl_fill_54 : decode cCl_fill 54 = .ok (.iload_n 3, 1) := by decide +kernel
theorem dCl_fill_55 : decode cCl_fill 55 = .ok (.if_icmp .ge 18, 3) := by decide +kernel
theorem dCl_fill_58 : decode cCl_fill 58 = .ok (.aload_n 0, 1) := by decide +kernel
theorem dCl_fill_59 : decode cCl_fill 59 = .ok (.aload_n 1, 1) := by decide +kernel
theorem dCl_fill_60 : decode cCl_fill 60 = .ok (.iload_n 2, 1) := by decide +kernel
theorem dCl_fill_61 : decode cCl_fill 61 = .ok (.iload_n 3, 1) := by decide +kernel
theorem dCl_fill_62 : decode cCl_fill 62 = .ok (.invokevirtual 25, 3) := by decide +kernel
theorem dCl_fill_65 : decode cCl_fill 65 = .ok (.istore 4, 2) := by decide +kernel
theorem dCl_fill_67 : decode cCl_fill 67 = .ok (.iinc 5 1, 3) := by decide +kernel
theorem dCl_fill_70 : decode cCl_fill 70 = .ok (.goto (-32), 3) := by decide +kernel
theorem dCl_fill_73 : decode cCl_fill 73 = .ok (.iload 4, 2) := by decide +kernel
theorem dCl_fill_75 : decode cCl_fill 75 = .ok (.ireturn, 1) := by decide +kernel
