theorem dR_peek_0 : decode cR_peek 0 = .ok (.aload_n 0, 1) := by decide +kernel
theorem dR_peek_1 : decode cR_peek 1 = .ok (.iload_n 1, 1) := by decide +kernel
theorem dR_peek_2 : decode cR_peek 2 = .ok (.ifCond .lt 10, 3) := by decide +kernel
theorem dR_peek_5 : decode cR_peek 5 = .ok (.iload_n 1, 1) := by decide +kernel
theorem dR_peek_6 : decode cR_peek 6 = .ok (.sipush 1023, 3) := by decide +kernel
theorem dR_peek_9 : decode cR_peek 9 = .ok (.if_icmp .le 7, 3) := by decide +kernel
theorem dR_peek_12 : decode cR_peek 12 = .ok (.iconst 1, 1) := by decide +kernel
theorem dR_peek_13 : decode cR_peek 13 = .ok (.goto 4, 3) := by decide +kernel
theorem dR_peek_16 : decode cR_peek 16 = .ok (.iconst 0, 1) := by decide +kernel
theorem dR_peek_17 : decode cR_peek 17 = .ok (.putfield 69, 3) := by decide +kernel
theorem dR_peek_20 : decode cR_peek 20 = .ok (.aload_n 0, 1) := by decide +kernel
theorem dR_peek_21 : decode cR_peek 21 = .ok (.getfield 69, 3) := by decide +kernel
theorem dR_peek_24 : decode cR_peek 24 = .ok (.ifCond .le 7, 3) := by decide +kernel
theorem dR_peek_27 : decode cR_peek 27 = .ok (.iconst 0, 1) := by decide +kernel
theorem dR_peek_28 : decode cR_peek 28 = .ok (.goto 9, 3) := by decide +kernel
theorem dR_peek_31 : decode cR_peek 31 = .ok (.aload_n 0, 1) := by decide +kernel
theorem dR_peek_32 : decode cR_peek 32 = .ok (.getfield 51, 3) := by decide +kernel
theorem dR_peek_35 : decode cR_peek 35 = .ok (.iload_n 1, 1) := by decide +kernel
theorem dR_peek_36 : decode cR_peek 36 = .ok (.iaload, 1) := by decide +kernel
theorem dR_peek_37 : decode cR_peek 37 = .ok (.ireturn, 1) := by decide +kernel
theorem dR_poke_0 : decode cR_poke 0 = .ok (.aload_n 0, 1) := by decide +kernel
theorem dR_poke_1 : decode cR_poke 1 = .ok (.iload_n 1, 1) := by decide +kernel
theorem dR_poke_2 : decode cR_poke 2 = .ok (.ifCond .lt 10, 3) := by decide +kernel
theorem dR_poke_5 : decode cR_poke 5 = .ok (.iload_n 1, 1) := by decide +kernel
theorem dR_poke_6 : decode cR_poke 6 = .ok (.sipush 1023, 3) := by decide +kernel
theorem dR_poke_9 : decode cR_poke 9 = .ok (.if_icmp .le 7, 3) := by decide +kernel
theorem dR_poke_12 : decode cR_poke 12 = .ok (.iconst 1, 1) := by decide +kernel
theorem dR_poke_13 : decode cR_poke 13 = .ok (.goto 4, 3) := by decide +kernel
theorem dR_poke_16 : decode cR_poke 16 = .ok (.iconst 0, 1) := by decide +kernel
theorem dR_poke_17 : decode cR_poke 17 = .ok (.putfield 69, 3) := by decide +kernel
theorem dR_poke_20 : decode cR_poke 20 = .ok (.aload_n 0, 1) := by decide +kernel
theorem dR_poke_21 : decode cR_poke 21 = .ok (.getfield 69, 3) := by decide +kernel
theorem dR_poke_24 : decode cR_poke 24 = .ok (.ifCond .le 4, 3) := by decide +kernel
theorem dR_poke_27 : decode cR_poke 27 = .ok (.return_, 1) := by decide +kernel
theorem dR_poke_28 : decode cR_poke 28 = .ok (.aload_n 0, 1) := by decide +kernel
theorem dR_poke_29 : decode cR_poke 29 = .ok (.getfield 51, 3) := by decide +kernel
theorem dR_poke_32 : decode cR_poke 32 = .ok (.iload_n 1, 1) := by decide +kernel
theorem dR_poke_33 : decode cR_poke 33 = .ok (.iload_n 2, 1) := by decide +kernel
theorem dR_poke_34 : decode cR_poke 34 = .ok (.sipush 255, 3) := by decide +kernel
theorem dR_poke_37 : decode cR_poke 37 = .ok (.iand, 1) := by decide +kernel
theorem dR_poke_38 : decode cR_poke 38 = .ok (.iastore, 1) := by decide +kernel
theorem dR_poke_39 : decode cR_poke 39 = .ok (.aload_n 0, 1) := by decide +kernel
theorem dR_poke_40 : decode cR_poke 40 = .ok (.iconst 0, 1) := by decide +kernel
theorem dR_poke_41 : decode cR_poke 41 = .ok (.putfield 132, 3) := by decide +kernel
theorem dR_poke_44 : decode cR_poke 44 = .ok (.return_, 1) := by decide +kernel
theorem dR_seal_0 : decode cR_seal 0 = .ok (.aload_n 0, 1) := by decide +kernel
theorem dR_seal_1 : decode cR_seal 1 = .ok (.iconst 0, 1) := by decide +kernel
theorem dR_seal_2 : decode cR_seal 2 = .ok (.putfield 69, 3) := by decide +kernel
theorem dR_seal_5 : decode cR_seal 5 = .ok (.aload_n 0, 1) := by decide +kernel
theorem dR_seal_6 : decode cR_seal 6 = .ok (.bipush 112, 2) := by decide +kernel
theorem dR_seal_8 : decode cR_seal 8 = .ok (.invokevirtual 136, 3) := by decide +kernel
theorem dR_seal_11 : decode cR_seal 11 = .ok (.istore_n 1, 1) := by decide +kernel
theorem dR_seal_12 : decode cR_seal 12 = .ok (.aload_n 0, 1) := by decide +kernel
theorem dR_seal_13 : decode cR_seal 13 = .ok (.getfield 51, 3) := by decide +kernel
theorem dR_seal_16 : decode cR_seal 16 = .ok (.bipush 14, 2) := by decide +kernel
theorem dR_seal_18 : decode cR_seal 18 = .ok (.iload_n 1, 1) := by decide +kernel
theorem dR_seal_19 : decode cR_seal 19 = .ok (.sipush 256, 3) := by decide +kernel
theorem dR_seal_22 : decode cR_seal 22 = .ok (.idiv, 1) := by decide +kernel
theorem dR_seal_23 : decode cR_seal 23 = .ok (.iastore, 1) := by decide +kernel
theorem dR_seal_24 : decode cR_seal 24 = .ok (.aload_n 0, 1) := by decide +kernel
theorem dR_seal_25 : decode cR_seal 25 = .ok (.getfield 51, 3) := by decide +kernel
theorem dR_seal_28 : decode cR_seal 28 = .ok (.bipush 15, 2) := by decide +kernel
theorem dR_seal_30 : decode cR_seal 30 = .ok (.iload_n 1, 1) := by decide +kernel
theorem dR_seal_31 : decode cR_seal 31 = .ok (.sipush 256, 3) := by decide +kernel
theorem dR_seal_34 : decode cR_seal 34 = .ok (.irem, 1) := by decide +kernel
theorem dR_seal_35 : decode cR_seal 35 = .ok (.iastore, 1) := by decide +kernel
theorem dR_seal_36 : decode cR_seal 36 = .ok (.aload_n 0, 1) := by decide +kernel
theorem dR_seal_37 : decode cR_seal 37 = .ok (.iconst 0, 1) := by decide +kernel
theorem dR_seal_38 : decode cR_seal 38 = .ok (.putfield 132, 3) := by decide +kernel
theorem dR_seal_41 : decode cR_seal 41 = .ok (.return_, 1) := by decide +kernel
theorem dR_isRight_0 : decode cR_isRight 0 = .ok (.aload_n 0, 1) := by decide +kernel
theorem dR_isRight_1 : decode cR_isRight 1 = .ok (.getfield 51, 3) := by decide +kernel
theorem dR_isRight_4 : decode cR_isRight 4 = .ok (.iconst 0, 1) := by decide +kernel
theorem dR_isRight_5 : decode cR_isRight 5 = .ok (.iaload, 1) := by decide +kernel
theorem dR_isRight_6 : decode cR_isRight 6 = .ok (.sipush 225, 3) := by decide +kernel
theorem dR_isRight_9 : decode cR_isRight 9 = .ok (.if_icmp .ne 47, 3) := by decide +kernel
theorem dR_isRight_12 : decode cR_isRight 12 = .ok (.aload_n 0, 1) := by decide +kernel
theorem dR_isRight_13 : decode cR_isRight 13 = .ok (.getfield 51, 3) := by decide +kernel
theorem dR_isRight_16 : decode cR_isRight 16 = .ok (.iconst 1, 1) := by decide +kernel
theorem dR_isRight_17 : decode cR_isRight 17 = .ok (.iaload, 1) := by decide +kernel
theorem dR_isRight_18 : decode cR_isRight 18 = .ok (.sipush 245, 3) := by decide +kernel
theorem dR_isRight_21 : decode cR_isRight 21 = .ok (.if_icmp .ne 35, 3) := by decide +kernel
theorem dR_isRight_24 : decode cR_isRight 24 = .ok (.sipush 256, 3) := by decide +kernel
theorem dR_isRight_27 : decode cR_isRight 27 = .ok (.aload_n 0, 1) := by decide +kernel
theorem dR_isRight_28 : decode cR_isRight 28 = .ok (.getfield 51, 3) := by decide +kernel
theorem dR_isRight_31 : decode cR_isRight 31 = .ok (.bipush 14, 2) := by decide +kernel
theorem dR_isRight_33 : decode cR_isRight 33 = .ok (.iaload, 1) := by decide +kernel
theorem dR_isRight_34 : decode cR_isRight 34 = .ok (.imul, 1) := by decide +kernel
theorem dR_isRight_35 : decode cR_isRight 35 = .ok (.aload_n 0, 1) := by decide +kernel
theorem dR_isRight_36 : decode cR_isRight 36 = .ok (.getfield 51, 3) := by decide +kernel
theorem dR_isRight_39 : decode cR_isRight 39 = .ok (.bipush 15, 2) := by decide +kernel
theorem dR_isRight_41 : decode cR_isRight 41 = .ok (.iaload, 1) := by decide +kernel
theorem dR_isRight_42 : decode cR_isRight 42 = .ok (.iadd, 1) := by decide +kernel
theorem dR_isRight_43 : decode cR_isRight 43 = .ok (.aload_n 0, 1) := by decide +kernel
theorem dR_isRight_44 : decode cR_isRight 44 = .ok (.bipush 112, 2) := by decide +kernel
theorem dR_isRight_46 : decode cR_isRight 46 = .ok (.invokevirtual 136, 3) := by decide +kernel
theorem dR_isRight_49 : decode cR_isRight 49 = .ok (.if_icmp .ne 7, 3) := by decide +kernel
theorem dR_isRight_52 : decode cR_isRight 52 = .ok (.iconst 1, 1) := by decide +kernel
theorem dR_isRight_53 : decode cR_isRight 53 = .ok (.goto 4, 3) := by decide +kernel
theorem dR_isRight_56 : decode cR_isRight 56 = .ok (.iconst 0, 1) := by decide +kernel
theorem dR_isRight_57 : decode cR_isRight 57 = .ok (.istore_n 1, 1) := by decide +kernel
theorem dR_isRight_58 : decode cR_isRight 58 = .ok (.aload_n 0, 1) := by decide +kernel
theorem dR_isRight_59 : decode cR_isRight 59 = .ok (.getfield 51, 3) := by decide +kernel
theorem dR_isRight_62 : decode cR_isRight 62 = .ok (.iconst 2, 1) := by decide +kernel
theorem dR_isRight_63 : decode cR_isRight 63 = .ok (.iaload, 1) := by decide +kernel
theorem dR_isRight_64 : decode cR_isRight 64 = .ok (.bipush 8, 2) := by decide +kernel
theorem dR_isRight_66 : decode cR_isRight 66 = .ok (.if_icmp .ge 36, 3) := by decide +kernel
theorem dR_isRight_69 : decode cR_isRight 69 = .ok (.aload_n 0, 1) := by decide +kernel
theorem dR_isRight_70 : decode cR_isRight 70 = .ok (.getfield 51, 3) := by decide +kernel
theorem dR_isRight_73 : decode cR_isRight 73 = .ok (.iconst 4, 1) := by decide +kernel
theorem dR_isRight_74 : decode cR_isRight 74 = .ok (.iaload, 1) := by decide +kernel
theorem dR_isRight_75 : decode cR_isRight 75 = .ok (.ifCond .le 27, 3) := by decide +kernel
theorem dR_isRight_78 : decode cR_isRight 78 = .ok (.aload_n 0, 1) := by decide +kernel
theorem dR_isRight_79 : decode cR_isRight 79 = .ok (.getfield 51, 3) := by decide +kernel
theorem dR_isRight_82 : decode cR_isRight 82 = .ok (.iconst 4, 1) := by decide +kernel
theorem dR_isRight_83 : decode cR_isRight 83 = .ok (.iaload, 1) := by decide +kernel
theorem dR_isRight_84 : decode cR_isRight 84 = .ok (.bipush 64, 2) := by decide +kernel
theorem dR_isRight_86 : decode cR_isRight 86 = .ok (.if_icmp .gt 16, 3) := by decide +kernel
theorem dR_isRight_89 : decode cR_isRight 89 = .ok (.aload_n 0, 1) := by decide +kernel
theorem dR_isRight_90 : decode cR_isRight 90 = .ok (.getfield 51, 3) := by decide +kernel
theorem dR_isRight_93 : decode cR_isRight 93 = .ok (.iconst 3, 1) := by decide +kernel
theorem dR_isRight_94 : decode cR_isRight 94 = .ok (.iaload, 1) := by decide +kernel
theorem dR_isRight_95 : decode cR_isRight 95 = .ok (.ifCond .le 7, 3) := by decide +kernel
theorem dR_isRight_98 : decode cR_isRight 98 = .ok (.iconst 1, 1) := by decide +kernel
theorem dR_isRight_99 : decode cR_isRight 99 = .ok (.goto 4, 3) := by decide +kernel
theorem dR_isRight_102 : decode cR_isRight 102 = .ok (.iconst 0, 1) := by decide +kernel
theorem dR_isRight_103 : decode cR_isRight 103 = .ok (.istore_n 2, 1) := by decide +kernel
theorem dR_isRight_104 : decode cR_isRight 104 = .ok (.iload_n 1, 1) := by decide +kernel
theorem dR_isRight_105 : decode cR_isRight 105 = .ok (.ifCond .eq 32, 3) := by decide +kernel
theorem dR_isRight_108 : decode cR_isRight 108 = .ok (.iload_n 2, 1) := by decide +kernel
theorem dR_isRight_109 : decode cR_isRight 109 = .ok (.ifCond .eq 28, 3) := by decide +kernel
theorem dR_isRight_112 : decode cR_isRight 112 = .ok (.iconst 1, 1) := by decide +kernel
theorem dR_isRight_113 : decode cR_isRight 113 = .ok (.aload_n 0, 1) := by decide +kernel
theorem dR_isRight_114 : decode cR_isRight 114 = .ok (.getfield 51, 3) := by decide +kernel
theorem dR_isRight_117 : decode cR_isRight 117 = .ok (.iconst 3, 1) := by decide +kernel
theorem dR_isRight_118 : decode cR_isRight 118 = .ok (.iaload, 1) := by decide +kernel
theorem dR_isRight_119 : decode cR_isRight 119 = .ok (.iconst 1, 1) := by decide +kernel
theorem dR_isRight_120 : decode cR_isRight 120 = .ok (.iadd, 1) := by decide +kernel
theorem dR_isRight_121 : decode cR_isRight 121 = .ok (.iconst 2, 1) := by decide +kernel
theorem dR_isRight_122 : decode cR_isRight 122 = .ok (.idiv, 1) := by decide +kernel
theorem dR_isRight_123 : decode cR_isRight 123 = .ok (.iadd, 1) := by decide +kernel
theorem dR_isRight_124 : decode cR_isRight 124 = .ok (.aload_n 0, 1) := by decide +kernel
theorem dR_isRight_125 : decode cR_isRight 125 = .ok (.getfield 51, 3) := by decide +kernel
theorem dR_isRight_128 : decode cR_isRight 128 = .ok (.iconst 4, 1) := by decide +kernel
theorem dR_isRight_129 : decode cR_isRight 129 = .ok (.iaload, 1) := by decide +kernel
theorem dR_isRight_130 : decode cR_isRight 130 = .ok (.if_icmp .gt 7, 3) := by decide +kernel
theorem dR_isRight_133 : decode cR_isRight 133 = .ok (.iconst 1, 1) := by decide +kernel
theorem dR_isRight_134 : decode cR_isRight 134 = .ok (.goto 4, 3) := by decide +kernel
theorem dR_isRight_137 : decode cR_isRight 137 = .ok (.iconst 0, 1) := by decide +kernel
theorem dR_isRight_138 : decode cR_isRight 138 = .ok (.ireturn, 1) := by decide +kernel
theorem dR_mount_0 : decode cR_mount 0 = .ok (.aload_n 0, 1) := by decide +kernel
theorem dR_mount_1 : decode cR_mount 1 = .ok (.aload_n 0, 1) := by decide +kernel
theorem dR_mount_2 : decode cR_mount 2 = .ok (.invokevirtual 139, 3) := by decide +kernel
theorem dR_mount_5 : decode cR_mount 5 = .ok (.putfield 132, 3) := by decide +kernel
theorem dR_mount_8 : decode cR_mount 8 = .ok (.aload_n 0, 1) := by decide +kernel
theorem dR_mount_9 : decode cR_mount 9 = .ok (.aload_n 0, 1) := by decide +kernel
theorem dR_mount_10 : decode cR_mount 10 = .ok (.getfield 132, 3) := by decide +kernel
theorem dR_mount_13 : decode cR_mount 13 = .ok (.ifCond .eq 7, 3) := by decide +kernel
theorem dR_mount_16 : decode cR_mount 16 = .ok (.iconst 0, 1) := by decide +kernel
theorem dR_mount_17 : decode cR_mount 17 = .ok (.goto 4, 3) := by decide +kernel
theorem dR_mount_20 : decode cR_mount 20 = .ok (.iconst 1, 1) := by decide +kernel
theorem dR_mount_21 : decode cR_mount 21 = .ok (.putfield 69, 3) := by decide +kernel
theorem dR_mount_24 : decode cR_mount 24 = .ok (.aload_n 0, 1) := by decide +kernel
theorem dR_mount_25 : decode cR_mount 25 = .ok (.getfield 69, 3) := by decide +kernel
theorem dR_mount_28 : decode cR_mount 28 = .ok (.ifCond .le 5, 3) := by decide +kernel
theorem dR_mount_31 : decode cR_mount 31 = .ok (.iconst 0, 1) := by decide +kernel
theorem dR_mount_32 : decode cR_mount 32 = .ok (.ireturn, 1) := by decide +kernel
theorem dR_mount_33 : decode cR_mount 33 = .ok (.aload_n 0, 1) := by decide +kernel
theorem dR_mount_34 : decode cR_mount 34 = .ok (.aload_n 0, 1) := by decide +kernel
theorem dR_mount_35 : decode cR_mount 35 = .ok (.getfield 51, 3) := by decide +kernel
theorem dR_mount_38 : decode cR_mount 38 = .ok (.iconst 3, 1) := by decide +kernel
theorem dR_mount_39 : decode cR_mount 39 = .ok (.iaload, 1) := by decide +kernel
theorem dR_mount_40 : decode cR_mount 40 = .ok (.putfield 143, 3) := by decide +kernel
theorem dR_mount_43 : decode cR_mount 43 = .ok (.aload_n 0, 1) := by decide +kernel
theorem dR_mount_44 : decode cR_mount 44 = .ok (.aload_n 0, 1) := by decide +kernel
theorem dR_mount_45 : decode cR_mount 45 = .ok (.getfield 51, 3) := by decide +kernel
theorem dR_mount_48 : decode cR_mount 48 = .ok (.iconst 4, 1) := by decide +kernel
theorem dR_mount_49 : decode cR_mount 49 = .ok (.iaload, 1) := by decide +kernel
theorem dR_mount_50 : decode cR_mount 50 = .ok (.putfield 146, 3) := by decide +kernel
theorem dR_mount_53 : decode cR_mount 53 = .ok (.aload_n 0, 1) := by decide +kernel
theorem dR_mount_54 : decode cR_mount 54 = .ok (.iconst 0, 1) := by decide +kernel
theorem dR_mount_55 : decode cR_mount 55 = .ok (.putfield 149, 3) := by decide +kernel
theorem dR_mount_58 : decode cR_mount 58 = .ok (.aload_n 0, 1) := by decide +kernel
theorem dR_mount_59 : decode cR_mount 59 = .ok (.iconst 0, 1) := by decide +kernel
theorem dR_mount_60 : decode cR_mount 60 = .ok (.putfield 152, 3) := by decide +kernel
theorem dR_mount_63 : decode cR_mount 63 = .ok (.aload_n 0, 1) := by decide +kernel
theorem dR_mount_64 : decode cR_mount 64 = .ok (.getfield 60, 3) := by decide +kernel
theorem dR_mount_67 : decode cR_mount 67 = .ok (.iconst 0, 1) := by decide +kernel
theorem dR_mount_68 : decode cR_mount 68 = .ok (.iconst (-1), 1) := by decide +kernel
theorem dR_mount_69 : decode cR_mount 69 = .ok (.iastore, 1) := by decide +kernel
theorem dR_mount_70 : decode cR_mount 70 = .ok (.aload_n 0, 1) := by decide +kernel
theorem dR_mount_71 : decode cR_mount 71 = .ok (.getfield 60, 3) := by decide +kernel
theorem dR_mount_74 : decode cR_mount 74 = .ok (.iconst 1, 1) := by decide +kernel
theorem dR_mount_75 : decode cR_mount 75 = .ok (.iconst (-1), 1) := by decide +kernel
theorem dR_mount_76 : decode cR_mount 76 = .ok (.iastore, 1) := by decide +kernel
theorem dR_mount_77 : decode cR_mount 77 = .ok (.iconst 0, 1) := by decide +kernel
theorem dR_mount_78 : decode cR_mount 78 = .ok (.istore_n 1, 1) := by decide +kernel
theorem dR_mount_79 : decode cR_mount 79 = .ok (.iconst 0, 1) := by decide +kernel
theorem dR_mount_80 : decode cR_mount 80 = .ok (.istore_n 2, 1) := by decide +kernel
theorem dR_mount_81 : decode cR_mount 81 = .ok (.iconst 0, 1) := by decide +kernel
theorem dR_mount_82 : decode cR_mount 82 = .ok (.istore_n 3, 1) := by decide +kernel
theorem dR_mount_83 : decode cR_mount 83 = .ok (.iload_n 3, 1) := by decide +kernel
theorem dR_mount_84 : decode cR_mount 84 = .ok (.sipush 256, 3) := by decide +kernel
theorem dR_mount_87 : decode cR_mount 87 = .ok (.if_icmp .ge 97, 3) := by decide +kernel
theorem dR_mount_90 : decode cR_mount 90 = .ok (.iload_n 3, 1) := by decide +kernel
theorem dR_mount_91 : decode cR_mount 91 = .ok (.aload_n 0, 1) := by decide +kernel
theorem dR_mount_92 : decode cR_mount 92 = .ok (.getfield 143, 3) := by decide +kernel
theorem dR_mount_95 : decode cR_mount 95 = .ok (.if_icmp .ge 22, 3) := by decide +kernel
theorem dR_mount_98 : decode cR_mount 98 = .ok (.iconst 1, 1) := by decide +kernel
theorem dR_mount_99 : decode cR_mount 99 = .ok (.aload_n 0, 1) := by decide +kernel
theorem dR_mount_100 : decode cR_mount 100 = .ok (.getfield 51, 3) := by decide +kernel
theorem dR_mount_103 : decode cR_mount 103 = .ok (.bipush 16, 2) := by decide +kernel
theorem dR_mount_105 : decode cR_mount 105 = .ok (.bipush 8, 2) := by decide +kernel
theorem dR_mount_107 : decode cR_mount 107 = .ok (.iload_n 3, 1) := by decide +kernel
theorem dR_mount_108 : decode cR_mount 108 = .ok (.imul, 1) := by decide +kernel
theorem dR_mount_109 : decode cR_mount 109 = .ok (.iadd, 1) := by decide +kernel
theorem dR_mount_110 : decode cR_mount 110 = .ok (.iaload, 1) := by decide +kernel
theorem dR_mount_111 : decode cR_mount 111 = .ok (.iconst 2, 1) := by decide +kernel
theorem dR_mount_112 : decode cR_mount 112 = .ok (.irem, 1) := by decide +kernel
theorem dR_mount_113 : decode cR_mount 113 = .ok (.iadd, 1) := by decide +kernel
theorem dR_mount_114 : decode cR_mount 114 = .ok (.goto 4, 3) := by decide +kernel
theorem dR_mount_117 : decode cR_mount 117 = .ok (.iconst 1, 1) := by decide +kernel
theorem dR_mount_118 : decode cR_mount 118 = .ok (.istore 4, 2) := by decide +kernel
theorem dR_mount_120 : decode cR_mount 120 = .ok (.aload_n 0, 1) := by decide +kernel
theorem dR_mount_121 : decode cR_mount 121 = .ok (.getfield 54, 3) := by decide +kernel
theorem dR_mount_124 : decode cR_mount 124 = .ok (.iload_n 3, 1) := by decide +kernel
theorem dR_mount_125 : decode cR_mount 125 = .ok (.iload_n 3, 1) := by decide +kernel
theorem dR_mount_126 : decode cR_mount 126 = .ok (.iload_n 2, 1) := by decide +kernel
theorem dR_mount_127 : decode cR_mount 127 = .ok (.if_icmp .ne 18, 3) := by decide +kernel
theorem dR_mount_130 : decode cR_mount 130 = .ok (.iload_n 3, 1) := by decide +kernel
theorem dR_mount_131 : decode cR_mount 131 = .ok (.iload 4, 2) := by decide +kernel
theorem dR_mount_133 : decode cR_mount 133 = .ok (.iadd, 1) := by decide +kernel
theorem dR_mount_134 : decode cR_mount 134 = .ok (.aload_n 0, 1) := by decide +kernel
theorem dR_mount_135 : decode cR_mount 135 = .ok (.getfield 143, 3) := by decide +kernel
theorem dR_mount_138 : decode cR_mount 138 = .ok (.if_icmp .gt 7, 3) := by decide +kernel
theorem dR_mount_141 : decode cR_mount 141 = .ok (.iconst 1, 1) := by decide +kernel
theorem dR_mount_142 : decode cR_mount 142 = .ok (.goto 4, 3) := by decide +kernel
theorem dR_mount_145 : decode cR_mount 145 = .ok (.iconst 0, 1) := by decide +kernel
theorem dR_mount_146 : decode cR_mount 146 = .ok (.bastore, 1) := by decide +kernel
theorem dR_mount_147 : decode cR_mount 147 = .ok (.iload_n 3, 1) := by decide +kernel
theorem dR_mount_148 : decode cR_mount 148 = .ok (.iload_n 2, 1) := by decide +kernel
theorem dR_mount_149 : decode cR_mount 149 = .ok (.if_icmp .ne 10, 3) := by decide +kernel
theorem dR_mount_152 : decode cR_mount 152 = .ok (.iload_n 3, 1) := by decide +kernel
theorem dR_mount_153 : decode cR_mount 153 = .ok (.iload 4, 2) := by decide +kernel
theorem dR_mount_155 : decode cR_mount 155 = .ok (.iadd, 1) := by decide +kernel
theorem dR_mount_156 : decode cR_mount 156 = .ok (.goto 4, 3) := by decide +kernel
theorem dR_mount_159 : decode cR_mount 159 = .ok (.iload_n 2, 1) := by decide +kernel
theorem dR_mount_160 : decode cR_mount 160 = .ok (.istore_n 2, 1) := by decide +kernel
theorem dR_mount_161 : decode cR_mount 161 = .ok (.iload_n 1, 1) := by decide +kernel
theorem dR_mount_162 : decode cR_mount 162 = .ok (.aload_n 0, 1) := by decide +kernel
theorem dR_mount_163 : decode cR_mount 163 = .ok (.getfield 54, 3) := by decide +kernel
theorem dR_mount_166 : decode cR_mount 166 = .ok (.iload_n 3, 1) := by decide +kernel
theorem dR_mount_167 : decode cR_mount 167 = .ok (.baload, 1) := by decide +kernel
theorem dR_mount_168 : decode cR_mount 168 = .ok (.ifCond .eq 7, 3) := by decide +kernel
theorem dR_mount_171 : decode cR_mount 171 = .ok (.iconst 1, 1) := by decide +kernel
theorem dR_mount_172 : decode cR_mount 172 = .ok (.goto 4, 3) := by decide +kernel
theorem dR_mount_175 : decode cR_mount 175 = .ok (.iconst 0, 1) := by decide +kernel
theorem dR_mount_176 : decode cR_mount 176 = .ok (.iadd, 1) := by decide +kernel
theorem dR_mount_177 : decode cR_mount 177 = .ok (.istore_n 1, 1) := by decide +kernel
theorem dR_mount_178 : decode cR_mount 178 = .ok (.iinc 3 1, 3) := by decide +kernel
theorem dR_mount_181 : decode cR_mount 181 = .ok (.goto (-98), 3) := by decide +kernel
theorem dR_mount_184 : decode cR_mount 184 = .ok (.iload_n 1, 1) := by decide +kernel
theorem dR_mount_185 : decode cR_mount 185 = .ok (.ireturn, 1) := by decide +kernel
theorem dR_tag_0 : decode cR_tag 0 = .ok (.aload_n 0, 1) := by decide +kernel
theorem dR_tag_1 : decode cR_tag 1 = .ok (.getfield 51, 3) := by decide +kernel
theorem dR_tag_4 : decode cR_tag 4 = .ok (.bipush 16, 2) := by decide +kernel
theorem dR_tag_6 : decode cR_tag 6 = .ok (.bipush 8, 2) := by decide +kernel
theorem dR_tag_8 : decode cR_tag 8 = .ok (.iload_n 1, 1) := by decide +kernel
theorem dR_tag_9 : decode cR_tag 9 = .ok (.imul, 1) := by decide +kernel
theorem dR_tag_10 : decode cR_tag 10 = .ok (.iadd, 1) := by decide +kernel
theorem dR_tag_11 : decode cR_tag 11 = .ok (.iaload, 1) := by decide +kernel
theorem dR_tag_12 : decode cR_tag 12 = .ok (.iload_n 2, 1) := by decide +kernel
theorem dR_tag_13 : decode cR_tag 13 = .ok (.ishr, 1) := by decide +kernel
theorem dR_tag_14 : decode cR_tag 14 = .ok (.iconst 3, 1) := by decide +kernel
theorem dR_tag_15 : decode cR_tag 15 = .ok (.iand, 1) := by decide +kernel
theorem dR_tag_16 : decode cR_tag 16 = .ok (.ireturn, 1) := by decide +kernel
theorem dR_size_0 : decode cR_size 0 = .ok (.aload_n 0, 1) := by decide +kernel
theorem dR_size_1 : decode cR_size 1 = .ok (.getfield 51, 3) := by decide +kernel
theorem dR_size_4 : decode cR_size 4 = .ok (.bipush 16, 2) := by decide +kernel
theorem dR_size_6 : decode cR_size 6 = .ok (.bipush 8, 2) := by decide +kernel
theorem dR_size_8 : decode cR_size 8 = .ok (.iload_n 1, 1) := by decide +kernel
theorem dR_size_9 : decode cR_size 9 = .ok (.imul, 1) := by decide +kernel
theorem dR_size_10 : decode cR_size 10 = .ok (.iadd, 1) := by decide +kernel
theorem dR_size_11 : decode cR_size 11 = .ok (.iconst 1, 1) := by decide +kernel
theorem dR_size_12 : decode cR_size 12 = .ok (.iadd, 1) := by decide +kernel
theorem dR_size_13 : decode cR_size 13 = .ok (.iaload, 1) := by decide +kernel
theorem dR_size_14 : decode cR_size 14 = .ok (.ireturn, 1) := by decide +kernel
theorem dR_first_0 : decode cR_first 0 = .ok (.aload_n 0, 1) := by decide +kernel
theorem dR_first_1 : decode cR_first 1 = .ok (.getfield 51, 3) := by decide +kernel
theorem dR_first_4 : decode cR_first 4 = .ok (.bipush 16, 2) := by decide +kernel
theorem dR_first_6 : decode cR_first 6 = .ok (.bipush 8, 2) := by decide +kernel
theorem dR_first_8 : decode cR_first 8 = .ok (.iload_n 1, 1) := by decide +kernel
theorem dR_first_9 : decode cR_first 9 = .ok (.imul, 1) := by decide +kernel
theorem dR_first_10 : decode cR_first 10 = .ok (.iadd, 1) := by decide +kernel
theorem dR_first_11 : decode cR_first 11 = .ok (.iconst 2, 1) := by decide +kernel
theorem dR_first_12 : decode cR_first 12 = .ok (.iadd, 1) := by decide +kernel
theorem dR_first_13 : decode cR_first 13 = .ok (.iaload, 1) := by decide +kernel
theorem dR_first_14 : decode cR_first 14 = .ok (.ireturn, 1) := by decide +kernel
theorem dR_rest_0 : decode cR_rest 0 = .ok (.aload_n 0, 1) := by decide +kernel
theorem dR_rest_1 : decode cR_rest 1 = .ok (.getfield 51, 3) := by decide +kernel
theorem dR_rest_4 : decode cR_rest 4 = .ok (.bipush 16, 2) := by decide +kernel
theorem dR_rest_6 : decode cR_rest 6 = .ok (.bipush 8, 2) := by decide +kernel
theorem dR_rest_8 : decode cR_rest 8 = .ok (.iload_n 1, 1) := by decide +kernel
theorem dR_rest_9 : decode cR_rest 9 = .ok (.imul, 1) := by decide +kernel
theorem dR_rest_10 : decode cR_rest 10 = .ok (.iadd, 1) := by decide +kernel
theorem dR_rest_11 : decode cR_rest 11 = .ok (.iconst 4, 1) := by decide +kernel
theorem dR_rest_12 : decode cR_rest 12 = .ok (.iadd, 1) := by decide +kernel
theorem dR_rest_13 : decode cR_rest 13 = .ok (.iload_n 2, 1) := by decide +kernel
theorem dR_rest_14 : decode cR_rest 14 = .ok (.iadd, 1) := by decide +kernel
theorem dR_rest_15 : decode cR_rest 15 = .ok (.iaload, 1) := by decide +kernel
theorem dR_rest_16 : decode cR_rest 16 = .ok (.ireturn, 1) := by decide +kernel
theorem dR_end_0 : decode cR_end 0 = .ok (.iload_n 2, 1) := by decide +kernel
theorem dR_end_1 : decode cR_end 1 = .ok (.ifCond .ge 7, 3) := by decide +kernel
theorem dR_end_4 : decode cR_end 4 = .ok (.iconst 0, 1) := by decide +kernel
theorem dR_end_5 : decode cR_end 5 = .ok (.goto 11, 3) := by decide +kernel
theorem dR_end_8 : decode cR_end 8 = .ok (.aload_n 0, 1) := by decide +kernel
theorem dR_end_9 : decode cR_end 9 = .ok (.iload_n 1, 1) := by decide +kernel
theorem dR_end_10 : decode cR_end 10 = .ok (.iconst 1, 1) := by decide +kernel
theorem dR_end_11 : decode cR_end 11 = .ok (.iload_n 2, 1) := by decide +kernel
theorem dR_end_12 : decode cR_end 12 = .ok (.iadd, 1) := by decide +kernel
theorem dR_end_13 : decode cR_end 13 = .ok (.invokevirtual 155, 3) := by decide +kernel
theorem dR_end_16 : decode cR_end 16 = .ok (.ireturn, 1) := by decide +kernel
theorem dR_endsAreWrong_0 : decode cR_endsAreWrong 0 = .ok (.aload_n 0, 1) := by decide +kernel
theorem dR_endsAreWrong_1 : decode cR_endsAreWrong 1 = .ok (.iload_n 1, 1) := by decide +kernel
theorem dR_endsAreWrong_2 : decode cR_endsAreWrong 2 = .ok (.iconst 0, 1) := by decide +kernel
theorem dR_endsAreWrong_3 : decode cR_endsAreWrong 3 = .ok (.invokevirtual 155, 3) := by decide +kernel
theorem dR_endsAreWrong_6 : decode cR_endsAreWrong 6 = .ok (.istore_n 2, 1) := by decide +kernel
theorem dR_endsAreWrong_7 : decode cR_endsAreWrong 7 = .ok (.iload_n 2, 1) := by decide +kernel
theorem dR_endsAreWrong_8 : decode cR_endsAreWrong 8 = .ok (.iconst 1, 1) := by decide +kernel
theorem dR_endsAreWrong_9 : decode cR_endsAreWrong 9 = .ok (.if_icmp .lt 25, 3) := by decide +kernel
theorem dR_endsAreWrong_12 : decode cR_endsAreWrong 12 = .ok (.iload_n 2, 1) := by decide +kernel
theorem dR_endsAreWrong_13 : decode cR_endsAreWrong 13 = .ok (.bipush 11, 2) := by decide +kernel
theorem dR_endsAreWrong_15 : decode cR_endsAreWrong 15 = .ok (.if_icmp .gt 19, 3) := by decide +kernel
theorem dR_endsAreWrong_18 : decode cR_endsAreWrong 18 = .ok (.aload_n 0, 1) := by decide +kernel
theorem dR_endsAreWrong_19 : decode cR_endsAreWrong 19 = .ok (.iload_n 1, 1) := by decide +kernel
theorem dR_endsAreWrong_20 : decode cR_endsAreWrong 20 = .ok (.iload_n 2, 1) := by decide +kernel
theorem dR_endsAreWrong_21 : decode cR_endsAreWrong 21 = .ok (.iconst 1, 1) := by decide +kernel
theorem dR_endsAreWrong_22 : decode cR_endsAreWrong 22 = .ok (.isub, 1) := by decide +kernel
theorem dR_endsAreWrong_23 : decode cR_endsAreWrong 23 = .ok (.invokevirtual 159, 3) := by decide +kernel
theorem dR_endsAreWrong_26 : decode cR_endsAreWrong 26 = .ok (.aload_n 0, 1) := by decide +kernel
theorem dR_endsAreWrong_27 : decode cR_endsAreWrong 27 = .ok (.iload_n 1, 1) := by decide +kernel
theorem dR_endsAreWrong_28 : decode cR_endsAreWrong 28 = .ok (.invokevirtual 162, 3) := by decide +kernel
theorem dR_endsAreWrong_31 : decode cR_endsAreWrong 31 = .ok (.if_icmp .eq 5, 3) := by decide +kernel
theorem dR_endsAreWrong_34 : decode cR_endsAreWrong 34 = .ok (.iconst 1, 1) := by decide +kernel
theorem dR_endsAreWrong_35 : decode cR_endsAreWrong 35 = .ok (.ireturn, 1) := by decide +kernel
theorem dR_endsAreWrong_36 : decode cR_endsAreWrong 36 = .ok (.iconst 0, 1) := by decide +kernel
theorem dR_endsAreWrong_37 : decode cR_endsAreWrong 37 = .ok (.istore_n 3, 1) := by decide +kernel
theorem dR_endsAreWrong_38 : decode cR_endsAreWrong 38 = .ok (.iconst 0, 1) := by decide +kernel
theorem dR_endsAreWrong_39 : decode cR_endsAreWrong 39 = .ok (.istore 4, 2) := by decide +kernel
theorem dR_endsAreWrong_41 : decode cR_endsAreWrong 41 = .ok (.iload 4, 2) := by decide +kernel
theorem dR_endsAreWrong_43 : decode cR_endsAreWrong 43 = .ok (.iload_n 2, 1) := by decide +kernel
theorem dR_endsAreWrong_44 : decode cR_endsAreWrong 44 = .ok (.if_icmp .ge 38, 3) := by decide +kernel
theorem dR_endsAreWrong_47 : decode cR_endsAreWrong 47 = .ok (.iload_n 3, 1) := by decide +kernel
theorem dR_endsAreWrong_48 : decode cR_endsAreWrong 48 = .ok (.ifCond .ne 22, 3) := by decide +kernel
theorem dR_endsAreWrong_51 : decode cR_endsAreWrong 51 = .ok (.aload_n 0, 1) := by decide +kernel
theorem dR_endsAreWrong_52 : decode cR_endsAreWrong 52 = .ok (.iload_n 1, 1) := by decide +kernel
theorem dR_endsAreWrong_53 : decode cR_endsAreWrong 53 = .ok (.iload 4, 2) := by decide +kernel
theorem dR_endsAreWrong_55 : decode cR_endsAreWrong 55 = .ok (.invokevirtual 159, 3) := by decide +kernel
theorem dR_endsAreWrong_58 : decode cR_endsAreWrong 58 = .ok (.aload_n 0, 1) := by decide +kernel
theorem dR_endsAreWrong_59 : decode cR_endsAreWrong 59 = .ok (.iload_n 1, 1) := by decide +kernel
theorem dR_endsAreWrong_60 : decode cR_endsAreWrong 60 = .ok (.iload 4, 2) := by decide +kernel
theorem dR_endsAreWrong_62 : decode cR_endsAreWrong 62 = .ok (.iconst 1, 1) := by decide +kernel
theorem dR_endsAreWrong_63 : decode cR_endsAreWrong 63 = .ok (.isub, 1) := by decide +kernel
theorem dR_endsAreWrong_64 : decode cR_endsAreWrong 64 = .ok (.invokevirtual 159, 3) := by decide +kernel
theorem dR_endsAreWrong_67 : decode cR_endsAreWrong 67 = .ok (.if_icmp .gt 7, 3) := by decide +kernel
theorem dR_endsAreWrong_70 : decode cR_endsAreWrong 70 = .ok (.iconst 1, 1) := by decide +kernel
theorem dR_endsAreWrong_71 : decode cR_endsAreWrong 71 = .ok (.goto 4, 3) := by decide +kernel
theorem dR_endsAreWrong_74 : decode cR_endsAreWrong 74 = .ok (.iconst 0, 1) := by decide +kernel
theorem dR_endsAreWrong_75 : decode cR_endsAreWrong 75 = .ok (.istore_n 3, 1) := by decide +kernel
theorem dR_endsAreWrong_76 : decode cR_endsAreWrong 76 = .ok (.iinc 4 1, 3) := by decide +kernel
theorem dR_endsAreWrong_79 : decode cR_endsAreWrong 79 = .ok (.goto (-38), 3) := by decide +kernel
theorem dR_endsAreWrong_82 : decode cR_endsAreWrong 82 = .ok (.iload_n 3, 1) := by decide +kernel
theorem dR_endsAreWrong_83 : decode cR_endsAreWrong 83 = .ok (.ireturn, 1) := by decide +kernel
theorem dR_isBad_0 : decode cR_isBad 0 = .ok (.aload_n 0, 1) := by decide +kernel
theorem dR_isBad_1 : decode cR_isBad 1 = .ok (.iload_n 1, 1) := by decide +kernel
theorem dR_isBad_2 : decode cR_isBad 2 = .ok (.iconst 1, 1) := by decide +kernel
theorem dR_isBad_3 : decode cR_isBad 3 = .ok (.invokevirtual 165, 3) := by decide +kernel
theorem dR_isBad_6 : decode cR_isBad 6 = .ok (.istore_n 2, 1) := by decide +kernel
theorem dR_isBad_7 : decode cR_isBad 7 = .ok (.aload_n 0, 1) := by decide +kernel
theorem dR_isBad_8 : decode cR_isBad 8 = .ok (.iload_n 1, 1) := by decide +kernel
theorem dR_isBad_9 : decode cR_isBad 9 = .ok (.iconst 3, 1) := by decide +kernel
theorem dR_isBad_10 : decode cR_isBad 10 = .ok (.invokevirtual 165, 3) := by decide +kernel
theorem dR_isBad_13 : decode cR_isBad 13 = .ok (.istore_n 3, 1) := by decide +kernel
theorem dR_isBad_14 : decode cR_isBad 14 = .ok (.aload_n 0, 1) := by decide +kernel
theorem dR_isBad_15 : decode cR_isBad 15 = .ok (.getfield 51, 3) := by decide +kernel
theorem dR_isBad_18 : decode cR_isBad 18 = .ok (.bipush 16, 2) := by decide +kernel
theorem dR_isBad_20 : decode cR_isBad 20 = .ok (.bipush 8, 2) := by decide +kernel
theorem dR_isBad_22 : decode cR_isBad 22 = .ok (.iload_n 1, 1) := by decide +kernel
theorem dR_isBad_23 : decode cR_isBad 23 = .ok (.imul, 1) := by decide +kernel
theorem dR_isBad_24 : decode cR_isBad 24 = .ok (.iadd, 1) := by decide +kernel
theorem dR_isBad_25 : decode cR_isBad 25 = .ok (.iaload, 1) := by decide +kernel
theorem dR_isBad_26 : decode cR_isBad 26 = .ok (.iconst 2, 1) := by decide +kernel
theorem dR_isBad_27 : decode cR_isBad 27 = .ok (.irem, 1) := by decide +kernel
theorem dR_isBad_28 : decode cR_isBad 28 = .ok (.iconst 1, 1) := by decide +kernel
theorem dR_isBad_29 : decode cR_isBad 29 = .ok (.if_icmp .ne 7, 3) := by decide +kernel
theorem dR_isBad_32 : decode cR_isBad 32 = .ok (.iconst 1, 1) := by decide +kernel
theorem dR_isBad_33 : decode cR_isBad 33 = .ok (.goto 4, 3) := by decide +kernel
theorem dR_isBad_36 : decode cR_isBad 36 = .ok (.iconst 0, 1) := by decide +kernel
theorem dR_isBad_37 : decode cR_isBad 37 = .ok (.istore 4, 2) := by decide +kernel
theorem dR_isBad_39 : decode cR_isBad 39 = .ok (.iload_n 2, 1) := by decide +kernel
theorem dR_isBad_40 : decode cR_isBad 40 = .ok (.iconst 3, 1) := by decide +kernel
theorem dR_isBad_41 : decode cR_isBad 41 = .ok (.if_icmp .eq 22, 3) := by decide +kernel
theorem dR_isBad_44 : decode cR_isBad 44 = .ok (.iload_n 3, 1) := by decide +kernel
theorem dR_isBad_45 : decode cR_isBad 45 = .ok (.iconst 3, 1) := by decide +kernel
theorem dR_isBad_46 : decode cR_isBad 46 = .ok (.if_icmp .eq 17, 3) := by decide +kernel
theorem dR_isBad_49 : decode cR_isBad 49 = .ok (.iload_n 2, 1) := by decide +kernel
theorem dR_isBad_50 : decode cR_isBad 50 = .ok (.ifCond .ne 15, 3) := by decide +kernel
theorem dR_isBad_53 : decode cR_isBad 53 = .ok (.aload_n 0, 1) := by decide +kernel
theorem dR_isBad_54 : decode cR_isBad 54 = .ok (.iload_n 1, 1) := by decide +kernel
theorem dR_isBad_55 : decode cR_isBad 55 = .ok (.invokevirtual 162, 3) := by decide +kernel
theorem dR_isBad_58 : decode cR_isBad 58 = .ok (.iconst 3, 1) := by decide +kernel
theorem dR_isBad_59 : decode cR_isBad 59 = .ok (.irem, 1) := by decide +kernel
theorem dR_isBad_60 : decode cR_isBad 60 = .ok (.ifCond .le 5, 3) := by decide +kernel
theorem dR_isBad_63 : decode cR_isBad 63 = .ok (.iconst 1, 1) := by decide +kernel
theorem dR_isBad_64 : decode cR_isBad 64 = .ok (.ireturn, 1) := by decide +kernel
theorem dR_isBad_65 : decode cR_isBad 65 = .ok (.iload_n 3, 1) := by decide +kernel
theorem dR_isBad_66 : decode cR_isBad 66 = .ok (.iconst 1, 1) := by decide +kernel
theorem dR_isBad_67 : decode cR_isBad 67 = .ok (.if_icmp .ne 27, 3) := by decide +kernel
theorem dR_isBad_70 : decode cR_isBad 70 = .ok (.aload_n 0, 1) := by decide +kernel
theorem dR_isBad_71 : decode cR_isBad 71 = .ok (.iload_n 1, 1) := by decide +kernel
theorem dR_isBad_72 : decode cR_isBad 72 = .ok (.invokevirtual 162, 3) := by decide +kernel
theorem dR_isBad_75 : decode cR_isBad 75 = .ok (.bipush 16, 2) := by decide +kernel
theorem dR_isBad_77 : decode cR_isBad 77 = .ok (.irem, 1) := by decide +kernel
theorem dR_isBad_78 : decode cR_isBad 78 = .ok (.iload 4, 2) := by decide +kernel
theorem dR_isBad_80 : decode cR_isBad 80 = .ok (.ifCond .eq 8, 3) := by decide +kernel
theorem dR_isBad_83 : decode cR_isBad 83 = .ok (.bipush 12, 2) := by decide +kernel
theorem dR_isBad_85 : decode cR_isBad 85 = .ok (.goto 4, 3) := by decide +kernel
theorem dR_isBad_88 : decode cR_isBad 88 = .ok (.iconst 4, 1) := by decide +kernel
theorem dR_isBad_89 : decode cR_isBad 89 = .ok (.if_icmp .le 5, 3) := by decide +kernel
theorem dR_isBad_92 : decode cR_isBad 92 = .ok (.iconst 1, 1) := by decide +kernel
theorem dR_isBad_93 : decode cR_isBad 93 = .ok (.ireturn, 1) := by decide +kernel
theorem dR_isBad_94 : decode cR_isBad 94 = .ok (.iload_n 3, 1) := by decide +kernel
theorem dR_isBad_95 : decode cR_isBad 95 = .ok (.iconst 2, 1) := by decide +kernel
theorem dR_isBad_96 : decode cR_isBad 96 = .ok (.if_icmp .ne 23, 3) := by decide +kernel
theorem dR_isBad_99 : decode cR_isBad 99 = .ok (.iload 4, 2) := by decide +kernel
theorem dR_isBad_101 : decode cR_isBad 101 = .ok (.ifCond .eq 16, 3) := by decide +kernel
theorem dR_isBad_104 : decode cR_isBad 104 = .ok (.iload_n 2, 1) := by decide +kernel
theorem dR_isBad_105 : decode cR_isBad 105 = .ok (.iconst 1, 1) := by decide +kernel
theorem dR_isBad_106 : decode cR_isBad 106 = .ok (.if_icmp .ne 11, 3) := by decide +kernel
theorem dR_isBad_109 : decode cR_isBad 109 = .ok (.aload_n 0, 1) := by decide +kernel
theorem dR_isBad_110 : decode cR_isBad 110 = .ok (.iload_n 1, 1) := by decide +kernel
theorem dR_isBad_111 : decode cR_isBad 111 = .ok (.invokevirtual 168, 3) := by decide +kernel
theorem dR_isBad_114 : decode cR_isBad 114 = .ok (.ifCond .eq 5, 3) := by decide +kernel
theorem dR_isBad_117 : decode cR_isBad 117 = .ok (.iconst 1, 1) := by decide +kernel
theorem dR_isBad_118 : decode cR_isBad 118 = .ok (.ireturn, 1) := by decide +kernel
theorem dR_isBad_119 : decode cR_isBad 119 = .ok (.iload_n 3, 1) := by decide +kernel
theorem dR_isBad_120 : decode cR_isBad 120 = .ok (.iconst 2, 1) := by decide +kernel
theorem dR_isBad_121 : decode cR_isBad 121 = .ok (.if_icmp .ne 12, 3) := by decide +kernel
theorem dR_isBad_124 : decode cR_isBad 124 = .ok (.aload_n 0, 1) := by decide +kernel
theorem dR_isBad_125 : decode cR_isBad 125 = .ok (.iload_n 1, 1) := by decide +kernel
theorem dR_isBad_126 : decode cR_isBad 126 = .ok (.iconst 0, 1) := by decide +kernel
theorem dR_isBad_127 : decode cR_isBad 127 = .ok (.invokevirtual 155, 3) := by decide +kernel
theorem dR_isBad_130 : decode cR_isBad 130 = .ok (.goto 27, 3) := by decide +kernel
theorem dR_isBad_133 : decode cR_isBad 133 = .ok (.iload_n 3, 1) := by decide +kernel
theorem dR_isBad_134 : decode cR_isBad 134 = .ok (.iconst 1, 1) := by decide +kernel
theorem dR_isBad_135 : decode cR_isBad 135 = .ok (.if_icmp .ne 14, 3) := by decide +kernel
theorem dR_isBad_138 : decode cR_isBad 138 = .ok (.aload_n 0, 1) := by decide +kernel
theorem dR_isBad_139 : decode cR_isBad 139 = .ok (.iload_n 1, 1) := by decide +kernel
theorem dR_isBad_140 : decode cR_isBad 140 = .ok (.invokevirtual 162, 3) := by decide +kernel
theorem dR_isBad_143 : decode cR_isBad 143 = .ok (.bipush 16, 2) := by decide +kernel
theorem dR_isBad_145 : decode cR_isBad 145 = .ok (.idiv, 1) := by decide +kernel
theorem dR_isBad_146 : decode cR_isBad 146 = .ok (.goto 11, 3) := by decide +kernel
theorem dR_isBad_149 : decode cR_isBad 149 = .ok (.aload_n 0, 1) := by decide +kernel
theorem dR_isBad_150 : decode cR_isBad 150 = .ok (.iload_n 1, 1) := by decide +kernel
theorem dR_isBad_151 : decode cR_isBad 151 = .ok (.invokevirtual 162, 3) := by decide +kernel
theorem dR_isBad_154 : decode cR_isBad 154 = .ok (.invokestatic 107, 3) := by decide +kernel
theorem dR_isBad_157 : decode cR_isBad 157 = .ok (.istore 5, 2) := by decide +kernel
theorem dR_isBad_159 : decode cR_isBad 159 = .ok (.iload 5, 2) := by decide +kernel
theorem dR_isBad_161 : decode cR_isBad 161 = .ok (.ifCond .le 40, 3) := by decide +kernel
theorem dR_isBad_164 : decode cR_isBad 164 = .ok (.aload_n 0, 1) := by decide +kernel
theorem dR_isBad_165 : decode cR_isBad 165 = .ok (.iload_n 1, 1) := by decide +kernel
theorem dR_isBad_166 : decode cR_isBad 166 = .ok (.invokevirtual 171, 3) := by decide +kernel
theorem dR_isBad_169 : decode cR_isBad 169 = .ok (.iconst 1, 1) := by decide +kernel
theorem dR_isBad_170 : decode cR_isBad 170 = .ok (.aload_n 0, 1) := by decide +kernel
theorem dR_isBad_171 : decode cR_isBad 171 = .ok (.getfield 143, 3) := by decide +kernel
theorem dR_isBad_174 : decode cR_isBad 174 = .ok (.iconst 1, 1) := by decide +kernel
theorem dR_isBad_175 : decode cR_isBad 175 = .ok (.iadd, 1) := by decide +kernel
theorem dR_isBad_176 : decode cR_isBad 176 = .ok (.iconst 2, 1) := by decide +kernel
theorem dR_isBad_177 : decode cR_isBad 177 = .ok (.idiv, 1) := by decide +kernel
theorem dR_isBad_178 : decode cR_isBad 178 = .ok (.iadd, 1) := by decide +kernel
theorem dR_isBad_179 : decode cR_isBad 179 = .ok (.if_icmp .lt 18, 3) := by decide +kernel
theorem dR_isBad_182 : decode cR_isBad 182 = .ok (.aload_n 0, 1) := by decide +kernel
theorem dR_isBad_183 : decode cR_isBad 183 = .ok (.iload_n 1, 1) := by decide +kernel
theorem dR_isBad_184 : decode cR_isBad 184 = .ok (.invokevirtual 171, 3) := by decide +kernel
theorem dR_isBad_187 : decode cR_isBad 187 = .ok (.iload 5, 2) := by decide +kernel
theorem dR_isBad_189 : decode cR_isBad 189 = .ok (.iadd, 1) := by decide +kernel
theorem dR_isBad_190 : decode cR_isBad 190 = .ok (.aload_n 0, 1) := by decide +kernel
theorem dR_isBad_191 : decode cR_isBad 191 = .ok (.getfield 146, 3) := by decide +kernel
theorem dR_isBad_194 : decode cR_isBad 194 = .ok (.if_icmp .le 7, 3) := by decide +kernel
theorem dR_isBad_197 : decode cR_isBad 197 = .ok (.iconst 1, 1) := by decide +kernel
theorem dR_isBad_198 : decode cR_isBad 198 = .ok (.goto 4, 3) := by decide +kernel
theorem dR_isBad_201 : decode cR_isBad 201 = .ok (.iconst 0, 1) := by decide +kernel
theorem dR_isBad_202 : decode cR_isBad 202 = .ok (.ireturn, 1) := by decide +kernel
theorem dR_isInode_0 : decode cR_isInode 0 = .ok (.iload_n 1, 1) := by decide +kernel
theorem dR_isInode_1 : decode cR_isInode 1 = .ok (.ifCond .lt 24, 3) := by decide +kernel
theorem dR_isInode_4 : decode cR_isInode 4 = .ok (.iload_n 1, 1) := by decide +kernel
theorem dR_isInode_5 : decode cR_isInode 5 = .ok (.aload_n 0, 1) := by decide +kernel
theorem dR_isInode_6 : decode cR_isInode 6 = .ok (.getfield 143, 3) := by decide +kernel
theorem dR_isInode_9 : decode cR_isInode 9 = .ok (.if_icmp .ge 16, 3) := by decide +kernel
theorem dR_isInode_12 : decode cR_isInode 12 = .ok (.aload_n 0, 1) := by decide +kernel
theorem dR_isInode_13 : decode cR_isInode 13 = .ok (.getfield 54, 3) := by decide +kernel
theorem dR_isInode_16 : decode cR_isInode 16 = .ok (.iload_n 1, 1) := by decide +kernel
theorem dR_isInode_17 : decode cR_isInode 17 = .ok (.baload, 1) := by decide +kernel
theorem dR_isInode_18 : decode cR_isInode 18 = .ok (.ifCond .eq 7, 3) := by decide +kernel
theorem dR_isInode_21 : decode cR_isInode 21 = .ok (.iconst 1, 1) := by decide +kernel
theorem dR_isInode_22 : decode cR_isInode 22 = .ok (.goto 4, 3) := by decide +kernel
theorem dR_isInode_25 : decode cR_isInode 25 = .ok (.iconst 0, 1) := by decide +kernel
theorem dR_isInode_26 : decode cR_isInode 26 = .ok (.ireturn, 1) := by decide +kernel
theorem dR_stat_0 : decode cR_stat 0 = .ok (.aload_n 0, 1) := by decide +kernel
theorem dR_stat_1 : decode cR_stat 1 = .ok (.aload_n 0, 1) := by decide +kernel
theorem dR_stat_2 : decode cR_stat 2 = .ok (.getfield 132, 3) := by decide +kernel
theorem dR_stat_5 : decode cR_stat 5 = .ok (.ifCond .ne 7, 3) := by decide +kernel
theorem dR_stat_8 : decode cR_stat 8 = .ok (.iconst 1, 1) := by decide +kernel
theorem dR_stat_9 : decode cR_stat 9 = .ok (.goto 29, 3) := by decide +kernel
theorem dR_stat_12 : decode cR_stat 12 = .ok (.aload_n 0, 1) := by decide +kernel
theorem dR_stat_13 : decode cR_stat 13 = .ok (.iload_n 1, 1) := by decide +kernel
theorem dR_stat_14 : decode cR_stat 14 = .ok (.invokevirtual 174, 3) := by decide +kernel
theorem dR_stat_17 : decode cR_stat 17 = .ok (.ifCond .ne 7, 3) := by decide +kernel
theorem dR_stat_20 : decode cR_stat 20 = .ok (.iconst 2, 1) := by decide +kernel
theorem dR_stat_21 : decode cR_stat 21 = .ok (.goto 17, 3) := by decide +kernel
theorem dR_stat_24 : decode cR_stat 24 = .ok (.iload_n 2, 1) := by decide +kernel
theorem dR_stat_25 : decode cR_stat 25 = .ok (.ifCond .lt 8, 3) := by decide +kernel
theorem dR_stat_28 : decode cR_stat 28 = .ok (.iload_n 2, 1) := by decide +kernel
theorem dR_stat_29 : decode cR_stat 29 = .ok (.iconst 5, 1) := by decide +kernel
theorem dR_stat_30 : decode cR_stat 30 = .ok (.if_icmp .le 7, 3) := by decide +kernel
theorem dR_stat_33 : decode cR_stat 33 = .ok (.iconst 3, 1) := by decide +kernel
theorem dR_stat_34 : decode cR_stat 34 = .ok (.goto 4, 3) := by decide +kernel
theorem dR_stat_37 : decode cR_stat 37 = .ok (.iconst 0, 1) := by decide +kernel
theorem dR_stat_38 : decode cR_stat 38 = .ok (.putfield 69, 3) := by decide +kernel
theorem dR_stat_41 : decode cR_stat 41 = .ok (.aload_n 0, 1) := by decide +kernel
theorem dR_stat_42 : decode cR_stat 42 = .ok (.getfield 69, 3) := by decide +kernel
theorem dR_stat_45 : decode cR_stat 45 = .ok (.ifCond .le 5, 3) := by decide +kernel
theorem dR_stat_48 : decode cR_stat 48 = .ok (.iconst 0, 1) := by decide +kernel
theorem dR_stat_49 : decode cR_stat 49 = .ok (.ireturn, 1) := by decide +kernel
theorem dR_stat_50 : decode cR_stat 50 = .ok (.iload_n 2, 1) := by decide +kernel
theorem dR_stat_51 : decode cR_stat 51 = .ok (.tableswitch 74 0 4 #[33, 40, 47, 53, 68], 33) := by decide +kernel
theorem dR_stat_84 : decode cR_stat 84 = .ok (.aload_n 0, 1) := by decide +kernel
theorem dR_stat_85 : decode cR_stat 85 = .ok (.iload_n 1, 1) := by decide +kernel
theorem dR_stat_86 : decode cR_stat 86 = .ok (.iconst 1, 1) := by decide +kernel
theorem dR_stat_87 : decode cR_stat 87 = .ok (.invokevirtual 165, 3) := by decide +kernel
theorem dR_stat_90 : decode cR_stat 90 = .ok (.ireturn, 1) := by decide +kernel
theorem dR_stat_91 : decode cR_stat 91 = .ok (.aload_n 0, 1) := by decide +kernel
theorem dR_stat_92 : decode cR_stat 92 = .ok (.iload_n 1, 1) := by decide +kernel
theorem dR_stat_93 : decode cR_stat 93 = .ok (.iconst 3, 1) := by decide +kernel
theorem dR_stat_94 : decode cR_stat 94 = .ok (.invokevirtual 165, 3) := by decide +kernel
theorem dR_stat_97 : decode cR_stat 97 = .ok (.ireturn, 1) := by decide +kernel
theorem dR_stat_98 : decode cR_stat 98 = .ok (.aload_n 0, 1) := by decide +kernel
theorem dR_stat_99 : decode cR_stat 99 = .ok (.iload_n 1, 1) := by decide +kernel
theorem dR_stat_100 : decode cR_stat 100 = .ok (.invokevirtual 162, 3) := by decide +kernel
theorem dR_stat_103 : decode cR_stat 103 = .ok (.ireturn, 1) := by decide +kernel
theorem dR_stat_104 : decode cR_stat 104 = .ok (.aload_n 0, 1) := by decide +kernel
theorem dR_stat_105 : decode cR_stat 105 = .ok (.getfield 51, 3) := by decide +kernel
theorem dR_stat_108 : decode cR_stat 108 = .ok (.bipush 16, 2) := by decide +kernel
theorem dR_stat_110 : decode cR_stat 110 = .ok (.bipush 8, 2) := by decide +kernel
theorem dR_stat_112 : decode cR_stat 112 = .ok (.iload_n 1, 1) := by decide +kernel
theorem dR_stat_113 : decode cR_stat 113 = .ok (.imul, 1) := by decide +kernel
theorem dR_stat_114 : decode cR_stat 114 = .ok (.iadd, 1) := by decide +kernel
theorem dR_stat_115 : decode cR_stat 115 = .ok (.iconst 3, 1) := by decide +kernel
theorem dR_stat_116 : decode cR_stat 116 = .ok (.iadd, 1) := by decide +kernel
theorem dR_stat_117 : decode cR_stat 117 = .ok (.iaload, 1) := by decide +kernel
theorem dR_stat_118 : decode cR_stat 118 = .ok (.ireturn, 1) := by decide +kernel
theorem dR_stat_119 : decode cR_stat 119 = .ok (.aload_n 0, 1) := by decide +kernel
theorem dR_stat_120 : decode cR_stat 120 = .ok (.iload_n 1, 1) := by decide +kernel
theorem dR_stat_121 : decode cR_stat 121 = .ok (.invokevirtual 171, 3) := by decide +kernel
theorem dR_stat_124 : decode cR_stat 124 = .ok (.ireturn, 1) := by decide +kernel
theorem dR_stat_125 : decode cR_stat 125 = .ok (.aload_n 0, 1) := by decide +kernel
theorem dR_stat_126 : decode cR_stat 126 = .ok (.iload_n 1, 1) := by decide +kernel
theorem dR_stat_127 : decode cR_stat 127 = .ok (.invokevirtual 177, 3) := by decide +kernel
theorem dR_stat_130 : decode cR_stat 130 = .ok (.ifCond .eq 7, 3) := by decide +kernel
theorem dR_stat_133 : decode cR_stat 133 = .ok (.iconst 1, 1) := by decide +kernel
theorem dR_stat_134 : decode cR_stat 134 = .ok (.goto 4, 3) := by decide +kernel
theorem dR_stat_137 : decode cR_stat 137 = .ok (.iconst 0, 1) := by decide +kernel
theorem dR_stat_138 : decode cR_stat 138 = .ok (.ireturn, 1) := by decide +kernel
theorem dR_byteOf_0 : decode cR_byteOf 0 = .ok (.aload_n 0, 1) := by decide +kernel
theorem dR_byteOf_1 : decode cR_byteOf 1 = .ok (.iload_n 1, 1) := by decide +kernel
theorem dR_byteOf_2 : decode cR_byteOf 2 = .ok (.iconst 3, 1) := by decide +kernel
theorem dR_byteOf_3 : decode cR_byteOf 3 = .ok (.invokevirtual 165, 3) := by decide +kernel
theorem dR_byteOf_6 : decode cR_byteOf 6 = .ok (.iconst 1, 1) := by decide +kernel
theorem dR_byteOf_7 : decode cR_byteOf 7 = .ok (.if_icmp .ne 22, 3) := by decide +kernel
theorem dR_byteOf_10 : decode cR_byteOf 10 = .ok (.iload_n 2, 1) := by decide +kernel
theorem dR_byteOf_11 : decode cR_byteOf 11 = .ok (.aload_n 0, 1) := by decide +kernel
theorem dR_byteOf_12 : decode cR_byteOf 12 = .ok (.iload_n 1, 1) := by decide +kernel
theorem dR_byteOf_13 : decode cR_byteOf 13 = .ok (.invokevirtual 162, 3) := by decide +kernel
theorem dR_byteOf_16 : decode cR_byteOf 16 = .ok (.bipush 16, 2) := by decide +kernel
theorem dR_byteOf_18 : decode cR_byteOf 18 = .ok (.idiv, 1) := by decide +kernel
theorem dR_byteOf_19 : decode cR_byteOf 19 = .ok (.bipush 16, 2) := by decide +kernel
theorem dR_byteOf_21 : decode cR_byteOf 21 = .ok (.imul, 1) := by decide +kernel
theorem dR_byteOf_22 : decode cR_byteOf 22 = .ok (.if_icmp .lt 7, 3) := by decide +kernel
theorem dR_byteOf_25 : decode cR_byteOf 25 = .ok (.iconst 1, 1) := by decide +kernel
theorem dR_byteOf_26 : decode cR_byteOf 26 = .ok (.goto 4, 3) := by decide +kernel
theorem dR_byteOf_29 : decode cR_byteOf 29 = .ok (.iconst 0, 1) := by decide +kernel
theorem dR_byteOf_30 : decode cR_byteOf 30 = .ok (.istore_n 3, 1) := by decide +kernel
theorem dR_byteOf_31 : decode cR_byteOf 31 = .ok (.iload_n 3, 1) := by decide +kernel
theorem dR_byteOf_32 : decode cR_byteOf 32 = .ok (.ifCond .eq 15, 3) := by decide +kernel
theorem dR_byteOf_35 : decode cR_byteOf 35 = .ok (.aload_n 0, 1) := by decide +kernel
theorem dR_byteOf_36 : decode cR_byteOf 36 = .ok (.iload_n 1, 1) := by decide +kernel
theorem dR_byteOf_37 : decode cR_byteOf 37 = .ok (.iload_n 2, 1) := by decide +kernel
theorem dR_byteOf_38 : decode cR_byteOf 38 = .ok (.bipush 16, 2) := by decide +kernel
theorem dR_byteOf_40 : decode cR_byteOf 40 = .ok (.irem, 1) := by decide +kernel
theorem dR_byteOf_41 : decode cR_byteOf 41 = .ok (.invokevirtual 155, 3) := by decide +kernel
theorem dR_byteOf_44 : decode cR_byteOf 44 = .ok (.goto 18, 3) := by decide +kernel
theorem dR_byteOf_47 : decode cR_byteOf 47 = .ok (.aload_n 0, 1) := by decide +kernel
theorem dR_byteOf_48 : decode cR_byteOf 48 = .ok (.getfield 51, 3) := by decide +kernel
theorem dR_byteOf_51 : decode cR_byteOf 51 = .ok (.bipush 16, 2) := by decide +kernel
theorem dR_byteOf_53 : decode cR_byteOf 53 = .ok (.aload_n 0, 1) := by decide +kernel
theorem dR_byteOf_54 : decode cR_byteOf 54 = .ok (.iload_n 1, 1) := by decide +kernel
theorem dR_byteOf_55 : decode cR_byteOf 55 = .ok (.invokevirtual 171, 3) := by decide +kernel
theorem dR_byteOf_58 : decode cR_byteOf 58 = .ok (.imul, 1) := by decide +kernel
theorem dR_byteOf_59 : decode cR_byteOf 59 = .ok (.iload_n 2, 1) := by decide +kernel
theorem dR_byteOf_60 : decode cR_byteOf 60 = .ok (.iadd, 1) := by decide +kernel
theorem dR_byteOf_61 : decode cR_byteOf 61 = .ok (.iaload, 1) := by decide +kernel
theorem dR_byteOf_62 : decode cR_byteOf 62 = .ok (.ireturn, 1) := by decide +kernel
