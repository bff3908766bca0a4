theorem dX_create_0 : decode cX_create 0 = .ok (.iload_n 1, 1) := by decide +kernel
theorem dX_create_1 : decode cX_create 1 = .ok (.ifCond .lt 8, 3) := by decide +kernel
theorem dX_create_4 : decode cX_create 4 = .ok (.iload_n 1, 1) := by decide +kernel
theorem dX_create_5 : decode cX_create 5 = .ok (.iconst 2, 1) := by decide +kernel
theorem dX_create_6 : decode cX_create 6 = .ok (.if_icmp .le 11, 3) := by decide +kernel
theorem dX_create_9 : decode cX_create 9 = .ok (.new 45, 3) := by decide +kernel
theorem dX_create_12 : decode cX_create 12 = .ok (.dup, 1) := by decide +kernel
theorem dX_create_13 : decode cX_create 13 = .ok (.invokespecial 47, 3) := by decide +kernel
theorem dX_create_16 : decode cX_create 16 = .ok (.athrow, 1) := by decide +kernel
theorem dX_create_17 : decode cX_create 17 = .ok (.aload_n 0, 1) := by decide +kernel
theorem dX_create_18 : decode cX_create 18 = .ok (.iload_n 2, 1) := by decide +kernel
theorem dX_create_19 : decode cX_create 19 = .ok (.iload_n 3, 1) := by decide +kernel
theorem dX_create_20 : decode cX_create 20 = .ok (.invokevirtual 48, 3) := by decide +kernel
theorem dX_create_23 : decode cX_create 23 = .ok (.aload_n 0, 1) := by decide +kernel
theorem dX_create_24 : decode cX_create 24 = .ok (.getfield 10, 3) := by decide +kernel
theorem dX_create_27 : decode cX_create 27 = .ok (.invokevirtual 52, 3) := by decide +kernel
theorem dX_create_30 : decode cX_create 30 = .ok (.ifCond .eq 11, 3) := by decide +kernel
theorem dX_create_33 : decode cX_create 33 = .ok (.new 56, 3) := by decide +kernel
theorem dX_create_36 : decode cX_create 36 = .ok (.dup, 1) := by decide +kernel
theorem dX_create_37 : decode cX_create 37 = .ok (.invokespecial 58, 3) := by decide +kernel
theorem dX_create_40 : decode cX_create 40 = .ok (.athrow, 1) := by decide +kernel
theorem dX_create_41 : decode cX_create 41 = .ok (.aload_n 0, 1) := by decide +kernel
theorem dX_create_42 : decode cX_create 42 = .ok (.getfield 10, 3) := by decide +kernel
theorem dX_create_45 : decode cX_create 45 = .ok (.iload_n 1, 1) := by decide +kernel
theorem dX_create_46 : decode cX_create 46 = .ok (.invokevirtual 59, 3) := by decide +kernel
theorem dX_create_49 : decode cX_create 49 = .ok (.istore 4, 2) := by decide +kernel
theorem dX_create_51 : decode cX_create 51 = .ok (.aload_n 0, 1) := by decide +kernel
theorem dX_create_52 : decode cX_create 52 = .ok (.getfield 10, 3) := by decide +kernel
theorem dX_create_55 : decode cX_create 55 = .ok (.iload_n 2, 1) := by decide +kernel
theorem dX_create_56 : decode cX_create 56 = .ok (.iload_n 3, 1) := by decide +kernel
theorem dX_create_57 : decode cX_create 57 = .ok (.bipush 97, 2) := by decide +kernel
theorem dX_create_59 : decode cX_create 59 = .ok (.isub, 1) := by decide +kernel
theorem dX_create_60 : decode cX_create 60 = .ok (.iload 4, 2) := by decide +kernel
theorem dX_create_62 : decode cX_create 62 = .ok (.invokevirtual 63, 3) := by decide +kernel
theorem dX_create_65 : decode cX_create 65 = .ok (.iload 4, 2) := by decide +kernel
theorem dX_create_67 : decode cX_create 67 = .ok (.ireturn, 1) := by decide +kernel
theorem dX_link_0 : decode cX_link 0 = .ok (.aload_n 0, 1) := by decide +kernel
theorem dX_link_1 : decode cX_link 1 = .ok (.getfield 10, 3) := by decide +kernel
theorem dX_link_4 : decode cX_link 4 = .ok (.iload_n 1, 1) := by decide +kernel
theorem dX_link_5 : decode cX_link 5 = .ok (.iconst 1, 1) := by decide +kernel
theorem dX_link_6 : decode cX_link 6 = .ok (.invokevirtual 67, 3) := by decide +kernel
theorem dX_link_9 : decode cX_link 9 = .ok (.ifCond .ne 11, 3) := by decide +kernel
theorem dX_link_12 : decode cX_link 12 = .ok (.new 45, 3) := by decide +kernel
theorem dX_link_15 : decode cX_link 15 = .ok (.dup, 1) := by decide +kernel
theorem dX_link_16 : decode cX_link 16 = .ok (.invokespecial 47, 3) := by decide +kernel
theorem dX_link_19 : decode cX_link 19 = .ok (.athrow, 1) := by decide +kernel
theorem dX_link_20 : decode cX_link 20 = .ok (.aload_n 0, 1) := by decide +kernel
theorem dX_link_21 : decode cX_link 21 = .ok (.iload_n 2, 1) := by decide +kernel
theorem dX_link_22 : decode cX_link 22 = .ok (.iload_n 3, 1) := by decide +kernel
theorem dX_link_23 : decode cX_link 23 = .ok (.invokevirtual 48, 3) := by decide +kernel
theorem dX_link_26 : decode cX_link 26 = .ok (.aload_n 0, 1) := by decide +kernel
theorem dX_link_27 : decode cX_link 27 = .ok (.getfield 10, 3) := by decide +kernel
theorem dX_link_30 : decode cX_link 30 = .ok (.iload_n 2, 1) := by decide +kernel
theorem dX_link_31 : decode cX_link 31 = .ok (.iload_n 3, 1) := by decide +kernel
theorem dX_link_32 : decode cX_link 32 = .ok (.bipush 97, 2) := by decide +kernel
theorem dX_link_34 : decode cX_link 34 = .ok (.isub, 1) := by decide +kernel
theorem dX_link_35 : decode cX_link 35 = .ok (.iload_n 1, 1) := by decide +kernel
theorem dX_link_36 : decode cX_link 36 = .ok (.invokevirtual 63, 3) := by decide +kernel
theorem dX_link_39 : decode cX_link 39 = .ok (.return_, 1) := by decide +kernel
theorem dX_unlink_0 : decode cX_unlink 0 = .ok (.aload_n 0, 1) := by decide +kernel
theorem dX_unlink_1 : decode cX_unlink 1 = .ok (.iload_n 1, 1) := by decide +kernel
theorem dX_unlink_2 : decode cX_unlink 2 = .ok (.iload_n 2, 1) := by decide +kernel
theorem dX_unlink_3 : decode cX_unlink 3 = .ok (.invokevirtual 71, 3) := by decide +kernel
theorem dX_unlink_6 : decode cX_unlink 6 = .ok (.aload_n 0, 1) := by decide +kernel
theorem dX_unlink_7 : decode cX_unlink 7 = .ok (.getfield 10, 3) := by decide +kernel
theorem dX_unlink_10 : decode cX_unlink 10 = .ok (.aload_n 0, 1) := by decide +kernel
theorem dX_unlink_11 : decode cX_unlink 11 = .ok (.getfield 10, 3) := by decide +kernel
theorem dX_unlink_14 : decode cX_unlink 14 = .ok (.iload_n 1, 1) := by decide +kernel
theorem dX_unlink_15 : decode cX_unlink 15 = .ok (.iload_n 2, 1) := by decide +kernel
theorem dX_unlink_16 : decode cX_unlink 16 = .ok (.bipush 97, 2) := by decide +kernel
theorem dX_unlink_18 : decode cX_unlink 18 = .ok (.isub, 1) := by decide +kernel
theorem dX_unlink_19 : decode cX_unlink 19 = .ok (.invokevirtual 74, 3) := by decide +kernel
theorem dX_unlink_22 : decode cX_unlink 22 = .ok (.iconst 1, 1) := by decide +kernel
theorem dX_unlink_23 : decode cX_unlink 23 = .ok (.invokevirtual 67, 3) := by decide +kernel
theorem dX_unlink_26 : decode cX_unlink 26 = .ok (.ifCond .ne 11, 3) := by decide +kernel
theorem dX_unlink_29 : decode cX_unlink 29 = .ok (.new 45, 3) := by decide +kernel
theorem dX_unlink_32 : decode cX_unlink 32 = .ok (.dup, 1) := by decide +kernel
theorem dX_unlink_33 : decode cX_unlink 33 = .ok (.invokespecial 47, 3) := by decide +kernel
theorem dX_unlink_36 : decode cX_unlink 36 = .ok (.athrow, 1) := by decide +kernel
theorem dX_unlink_37 : decode cX_unlink 37 = .ok (.aload_n 0, 1) := by decide +kernel
theorem dX_unlink_38 : decode cX_unlink 38 = .ok (.getfield 10, 3) := by decide +kernel
theorem dX_unlink_41 : decode cX_unlink 41 = .ok (.iload_n 1, 1) := by decide +kernel
theorem dX_unlink_42 : decode cX_unlink 42 = .ok (.iload_n 2, 1) := by decide +kernel
theorem dX_unlink_43 : decode cX_unlink 43 = .ok (.bipush 97, 2) := by decide +kernel
theorem dX_unlink_45 : decode cX_unlink 45 = .ok (.isub, 1) := by decide +kernel
theorem dX_unlink_46 : decode cX_unlink 46 = .ok (.invokevirtual 78, 3) := by decide +kernel
theorem dX_unlink_49 : decode cX_unlink 49 = .ok (.return_, 1) := by decide +kernel
theorem dX_append_0 : decode cX_append 0 = .ok (.aload_n 0, 1) := by decide +kernel
theorem dX_append_1 : decode cX_append 1 = .ok (.getfield 10, 3) := by decide +kernel
theorem dX_append_4 : decode cX_append 4 = .ok (.iload_n 1, 1) := by decide +kernel
theorem dX_append_5 : decode cX_append 5 = .ok (.iconst 1, 1) := by decide +kernel
theorem dX_append_6 : decode cX_append 6 = .ok (.invokevirtual 67, 3) := by decide +kernel
theorem dX_append_9 : decode cX_append 9 = .ok (.ifCond .eq 18, 3) := by decide +kernel
theorem dX_append_12 : decode cX_append 12 = .ok (.iload_n 2, 1) := by decide +kernel
theorem dX_append_13 : decode cX_append 13 = .ok (.ifCond .lt 14, 3) := by decide +kernel
theorem dX_append_16 : decode cX_append 16 = .ok (.iload_n 2, 1) := by decide +kernel
theorem dX_append_17 : decode cX_append 17 = .ok (.sipush 255, 3) := by decide +kernel
theorem dX_append_20 : decode cX_append 20 = .ok (.if_icmp .gt 7, 3) := by decide +kernel
theorem dX_append_23 : decode cX_append 23 = .ok (.iconst 1, 1) := by decide +kernel
theorem dX_append_24 : decode cX_append 24 = .ok (.goto 4, 3) := by decide +kernel
theorem dX_append_27 : decode cX_append 27 = .ok (.iconst 0, 1) := by decide +kernel
theorem dX_append_28 : decode cX_append 28 = .ok (.istore_n 3, 1) := by decide +kernel
theorem dX_append_29 : decode cX_append 29 = .ok (.aload_n 0, 1) := by decide +kernel
theorem dX_append_30 : decode cX_append 30 = .ok (.getfield 10, 3) := by decide +kernel
theorem dX_append_33 : decode cX_append 33 = .ok (.iload_n 1, 1) := by decide +kernel
theorem dX_append_34 : decode cX_append 34 = .ok (.iconst 2, 1) := by decide +kernel
theorem dX_append_35 : decode cX_append 35 = .ok (.invokevirtual 67, 3) := by decide +kernel
theorem dX_append_38 : decode cX_append 38 = .ok (.ifCond .eq 14, 3) := by decide +kernel
theorem dX_append_41 : decode cX_append 41 = .ok (.iload_n 2, 1) := by decide +kernel
theorem dX_append_42 : decode cX_append 42 = .ok (.invokestatic 82, 3) := by decide +kernel
theorem dX_append_45 : decode cX_append 45 = .ok (.ifCond .eq 7, 3) := by decide +kernel
theorem dX_append_48 : decode cX_append 48 = .ok (.iconst 1, 1) := by decide +kernel
theorem dX_append_49 : decode cX_append 49 = .ok (.goto 4, 3) := by decide +kernel
theorem dX_append_52 : decode cX_append 52 = .ok (.iconst 0, 1) := by decide +kernel
theorem dX_append_53 : decode cX_append 53 = .ok (.istore 4, 2) := by decide +kernel
theorem dX_append_55 : decode cX_append 55 = .ok (.iload_n 3, 1) := by decide +kernel
theorem dX_append_56 : decode cX_append 56 = .ok (.ifCond .ne 16, 3) := by decide +kernel
theorem dX_append_59 : decode cX_append 59 = .ok (.iload 4, 2) := by decide +kernel
theorem dX_append_61 : decode cX_append 61 = .ok (.ifCond .ne 11, 3) := by decide +kernel
theorem dX_append_64 : decode cX_append 64 = .ok (.new 45, 3) := by decide +kernel
theorem dX_append_67 : decode cX_append 67 = .ok (.dup, 1) := by decide +kernel
theorem dX_append_68 : decode cX_append 68 = .ok (.invokespecial 47, 3) := by decide +kernel
theorem dX_append_71 : decode cX_append 71 = .ok (.athrow, 1) := by decide +kernel
theorem dX_append_72 : decode cX_append 72 = .ok (.aload_n 0, 1) := by decide +kernel
theorem dX_append_73 : decode cX_append 73 = .ok (.getfield 10, 3) := by decide +kernel
theorem dX_append_76 : decode cX_append 76 = .ok (.iload_n 1, 1) := by decide +kernel
theorem dX_append_77 : decode cX_append 77 = .ok (.invokevirtual 86, 3) := by decide +kernel
theorem dX_append_80 : decode cX_append 80 = .ok (.iload_n 3, 1) := by decide +kernel
theorem dX_append_81 : decode cX_append 81 = .ok (.ifCond .eq 8, 3) := by decide +kernel
theorem dX_append_84 : decode cX_append 84 = .ok (.bipush 60, 2) := by decide +kernel
theorem dX_append_86 : decode cX_append 86 = .ok (.goto 4, 3) := by decide +kernel
theorem dX_append_89 : decode cX_append 89 = .ok (.iconst 4, 1) := by decide +kernel
theorem dX_append_90 : decode cX_append 90 = .ok (.if_icmp .lt 11, 3) := by decide +kernel
theorem dX_append_93 : decode cX_append 93 = .ok (.new 56, 3) := by decide +kernel
theorem dX_append_96 : decode cX_append 96 = .ok (.dup, 1) := by decide +kernel
theorem dX_append_97 : decode cX_append 97 = .ok (.invokespecial 58, 3) := by decide +kernel
theorem dX_append_100 : decode cX_append 100 = .ok (.athrow, 1) := by decide +kernel
theorem dX_append_101 : decode cX_append 101 = .ok (.aload_n 0, 1) := by decide +kernel
theorem dX_append_102 : decode cX_append 102 = .ok (.getfield 10, 3) := by decide +kernel
theorem dX_append_105 : decode cX_append 105 = .ok (.iload_n 1, 1) := by decide +kernel
theorem dX_append_106 : decode cX_append 106 = .ok (.iload_n 2, 1) := by decide +kernel
theorem dX_append_107 : decode cX_append 107 = .ok (.invokevirtual 89, 3) := by decide +kernel
theorem dX_append_110 : decode cX_append 110 = .ok (.ireturn, 1) := by decide +kernel
theorem dX_build_0 : decode cX_build 0 = .ok (.iload_n 1, 1) := by decide +kernel
theorem dX_build_1 : decode cX_build 1 = .ok (.ifCond .lt 9, 3) := by decide +kernel
theorem dX_build_4 : decode cX_build 4 = .ok (.iload_n 1, 1) := by decide +kernel
theorem dX_build_5 : decode cX_build 5 = .ok (.bipush 7, 2) := by decide +kernel
theorem dX_build_7 : decode cX_build 7 = .ok (.if_icmp .le 11, 3) := by decide +kernel
theorem dX_build_10 : decode cX_build 10 = .ok (.new 45, 3) := by decide +kernel
theorem dX_build_13 : decode cX_build 13 = .ok (.dup, 1) := by decide +kernel
theorem dX_build_14 : decode cX_build 14 = .ok (.invokespecial 47, 3) := by decide +kernel
theorem dX_build_17 : decode cX_build 17 = .ok (.athrow, 1) := by decide +kernel
theorem dX_build_18 : decode cX_build 18 = .ok (.aload_n 0, 1) := by decide +kernel
theorem dX_build_19 : decode cX_build 19 = .ok (.getfield 19, 3) := by decide +kernel
theorem dX_build_22 : decode cX_build 22 = .ok (.aload_n 0, 1) := by decide +kernel
theorem dX_build_23 : decode cX_build 23 = .ok (.getfield 10, 3) := by decide +kernel
theorem dX_build_26 : decode cX_build 26 = .ok (.iload_n 1, 1) := by decide +kernel
theorem dX_build_27 : decode cX_build 27 = .ok (.invokevirtual 92, 3) := by decide +kernel
theorem dX_build_30 : decode cX_build 30 = .ok (.aload_n 0, 1) := by decide +kernel
theorem dX_build_31 : decode cX_build 31 = .ok (.getfield 19, 3) := by decide +kernel
theorem dX_build_34 : decode cX_build 34 = .ok (.aload_n 0, 1) := by decide +kernel
theorem dX_build_35 : decode cX_build 35 = .ok (.getfield 10, 3) := by decide +kernel
theorem dX_build_38 : decode cX_build 38 = .ok (.iload_n 1, 1) := by decide +kernel
theorem dX_build_39 : decode cX_build 39 = .ok (.invokevirtual 96, 3) := by decide +kernel
theorem dX_build_42 : decode cX_build 42 = .ok (.ifCond .ne 11, 3) := by decide +kernel
theorem dX_build_45 : decode cX_build 45 = .ok (.new 100, 3) := by decide +kernel
theorem dX_build_48 : decode cX_build 48 = .ok (.dup, 1) := by decide +kernel
theorem dX_build_49 : decode cX_build 49 = .ok (.invokespecial 102, 3) := by decide +kernel
theorem dX_build_52 : decode cX_build 52 = .ok (.athrow, 1) := by decide +kernel
theorem dX_build_53 : decode cX_build 53 = .ok (.aload_n 0, 1) := by decide +kernel
theorem dX_build_54 : decode cX_build 54 = .ok (.getfield 26, 3) := by decide +kernel
theorem dX_build_57 : decode cX_build 57 = .ok (.aload_n 0, 1) := by decide +kernel
theorem dX_build_58 : decode cX_build 58 = .ok (.getfield 19, 3) := by decide +kernel
theorem dX_build_61 : decode cX_build 61 = .ok (.getfield 103, 3) := by decide +kernel
theorem dX_build_64 : decode cX_build 64 = .ok (.invokevirtual 106, 3) := by decide +kernel
theorem dX_build_67 : decode cX_build 67 = .ok (.aload_n 0, 1) := by decide +kernel
theorem dX_build_68 : decode cX_build 68 = .ok (.getfield 19, 3) := by decide +kernel
theorem dX_build_71 : decode cX_build 71 = .ok (.getfield 110, 3) := by decide +kernel
theorem dX_build_74 : decode cX_build 74 = .ok (.ireturn, 1) := by decide +kernel
theorem dX_peek_0 : decode cX_peek 0 = .ok (.aload_n 0, 1) := by decide +kernel
theorem dX_peek_1 : decode cX_peek 1 = .ok (.iload_n 1, 1) := by decide +kernel
theorem dX_peek_2 : decode cX_peek 2 = .ok (.invokevirtual 113, 3) := by decide +kernel
theorem dX_peek_5 : decode cX_peek 5 = .ok (.aload_n 0, 1) := by decide +kernel
theorem dX_peek_6 : decode cX_peek 6 = .ok (.getfield 26, 3) := by decide +kernel
theorem dX_peek_9 : decode cX_peek 9 = .ok (.iload_n 1, 1) := by decide +kernel
theorem dX_peek_10 : decode cX_peek 10 = .ok (.invokevirtual 117, 3) := by decide +kernel
theorem dX_peek_13 : decode cX_peek 13 = .ok (.ireturn, 1) := by decide +kernel
theorem dX_poke_0 : decode cX_poke 0 = .ok (.aload_n 0, 1) := by decide +kernel
theorem dX_poke_1 : decode cX_poke 1 = .ok (.iload_n 1, 1) := by decide +kernel
theorem dX_poke_2 : decode cX_poke 2 = .ok (.invokevirtual 113, 3) := by decide +kernel
theorem dX_poke_5 : decode cX_poke 5 = .ok (.aload_n 0, 1) := by decide +kernel
theorem dX_poke_6 : decode cX_poke 6 = .ok (.getfield 26, 3) := by decide +kernel
theorem dX_poke_9 : decode cX_poke 9 = .ok (.iload_n 1, 1) := by decide +kernel
theorem dX_poke_10 : decode cX_poke 10 = .ok (.iload_n 2, 1) := by decide +kernel
theorem dX_poke_11 : decode cX_poke 11 = .ok (.sipush 255, 3) := by decide +kernel
theorem dX_poke_14 : decode cX_poke 14 = .ok (.iand, 1) := by decide +kernel
theorem dX_poke_15 : decode cX_poke 15 = .ok (.invokevirtual 120, 3) := by decide +kernel
theorem dX_poke_18 : decode cX_poke 18 = .ok (.return_, 1) := by decide +kernel
theorem dX_seal_0 : decode cX_seal 0 = .ok (.aload_n 0, 1) := by decide +kernel
theorem dX_seal_1 : decode cX_seal 1 = .ok (.getfield 26, 3) := by decide +kernel
theorem dX_seal_4 : decode cX_seal 4 = .ok (.invokevirtual 123, 3) := by decide +kernel
theorem dX_seal_7 : decode cX_seal 7 = .ok (.return_, 1) := by decide +kernel
theorem dX_mount_0 : decode cX_mount 0 = .ok (.aload_n 0, 1) := by decide +kernel
theorem dX_mount_1 : decode cX_mount 1 = .ok (.getfield 33, 3) := by decide +kernel
theorem dX_mount_4 : decode cX_mount 4 = .ok (.invokevirtual 126, 3) := by decide +kernel
theorem dX_mount_7 : decode cX_mount 7 = .ok (.aload_n 0, 1) := by decide +kernel
theorem dX_mount_8 : decode cX_mount 8 = .ok (.getfield 26, 3) := by decide +kernel
theorem dX_mount_11 : decode cX_mount 11 = .ok (.invokevirtual 129, 3) := by decide +kernel
theorem dX_mount_14 : decode cX_mount 14 = .ok (.ifCond .ne 11, 3) := by decide +kernel
theorem dX_mount_17 : decode cX_mount 17 = .ok (.new 56, 3) := by decide +kernel
theorem dX_mount_20 : decode cX_mount 20 = .ok (.dup, 1) := by decide +kernel
theorem dX_mount_21 : decode cX_mount 21 = .ok (.invokespecial 58, 3) := by decide +kernel
theorem dX_mount_24 : decode cX_mount 24 = .ok (.athrow, 1) := by decide +kernel
theorem dX_mount_25 : decode cX_mount 25 = .ok (.aload_n 0, 1) := by decide +kernel
theorem dX_mount_26 : decode cX_mount 26 = .ok (.getfield 26, 3) := by decide +kernel
theorem dX_mount_29 : decode cX_mount 29 = .ok (.getfield 132, 3) := by decide +kernel
theorem dX_mount_32 : decode cX_mount 32 = .ok (.ireturn, 1) := by decide +kernel
theorem dX_stat_0 : decode cX_stat 0 = .ok (.aload_n 0, 1) := by decide +kernel
theorem dX_stat_1 : decode cX_stat 1 = .ok (.iload_n 1, 1) := by decide +kernel
theorem dX_stat_2 : decode cX_stat 2 = .ok (.invokevirtual 135, 3) := by decide +kernel
theorem dX_stat_5 : decode cX_stat 5 = .ok (.iload_n 2, 1) := by decide +kernel
theorem dX_stat_6 : decode cX_stat 6 = .ok (.tableswitch 100 0 5 #[38, 47, 56, 65, 74, 83], 38) := by decide +kernel
theorem dX_stat_44 : decode cX_stat 44 = .ok (.aload_n 0, 1) := by decide +kernel
theorem dX_stat_45 : decode cX_stat 45 = .ok (.getfield 26, 3) := by decide +kernel
theorem dX_stat_48 : decode cX_stat 48 = .ok (.iload_n 1, 1) := by decide +kernel
theorem dX_stat_49 : decode cX_stat 49 = .ok (.invokevirtual 138, 3) := by decide +kernel
theorem dX_stat_52 : decode cX_stat 52 = .ok (.ireturn, 1) := by decide +kernel
theorem dX_stat_53 : decode cX_stat 53 = .ok (.aload_n 0, 1) := by decide +kernel
theorem dX_stat_54 : decode cX_stat 54 = .ok (.getfield 26, 3) := by decide +kernel
theorem dX_stat_57 : decode cX_stat 57 = .ok (.iload_n 1, 1) := by decide +kernel
theorem dX_stat_58 : decode cX_stat 58 = .ok (.invokevirtual 141, 3) := by decide +kernel
theorem dX_stat_61 : decode cX_stat 61 = .ok (.ireturn, 1) := by decide +kernel
theorem dX_stat_62 : decode cX_stat 62 = .ok (.aload_n 0, 1) := by decide +kernel
theorem dX_stat_63 : decode cX_stat 63 = .ok (.getfield 26, 3) := by decide +kernel
theorem dX_stat_66 : decode cX_stat 66 = .ok (.iload_n 1, 1) := by decide +kernel
theorem dX_stat_67 : decode cX_stat 67 = .ok (.invokevirtual 144, 3) := by decide +kernel
theorem dX_stat_70 : decode cX_stat 70 = .ok (.ireturn, 1) := by decide +kernel
theorem dX_stat_71 : decode cX_stat 71 = .ok (.aload_n 0, 1) := by decide +kernel
theorem dX_stat_72 : decode cX_stat 72 = .ok (.getfield 26, 3) := by decide +kernel
theorem dX_stat_75 : decode cX_stat 75 = .ok (.iload_n 1, 1) := by decide +kernel
theorem dX_stat_76 : decode cX_stat 76 = .ok (.invokevirtual 147, 3) := by decide +kernel
theorem dX_stat_79 : decode cX_stat 79 = .ok (.ireturn, 1) := by decide +kernel
theorem dX_stat_80 : decode cX_stat 80 = .ok (.aload_n 0, 1) := by decide +kernel
theorem dX_stat_81 : decode cX_stat 81 = .ok (.getfield 26, 3) := by decide +kernel
theorem dX_stat_84 : decode cX_stat 84 = .ok (.iload_n 1, 1) := by decide +kernel
theorem dX_stat_85 : decode cX_stat 85 = .ok (.invokevirtual 150, 3) := by decide +kernel
theorem dX_stat_88 : decode cX_stat 88 = .ok (.ireturn, 1) := by decide +kernel
theorem dX_stat_89 : decode cX_stat 89 = .ok (.aload_n 0, 1) := by decide +kernel
theorem dX_stat_90 : decode cX_stat 90 = .ok (.getfield 26, 3) := by decide +kernel
theorem dX_stat_93 : decode cX_stat 93 = .ok (.iload_n 1, 1) := by decide +kernel
theorem dX_stat_94 : decode cX_stat 94 = .ok (.invokevirtual 153, 3) := by decide +kernel
theorem dX_stat_97 : decode cX_stat 97 = .ok (.ifCond .eq 7, 3) := by decide +kernel
theorem dX_stat_100 : decode cX_stat 100 = .ok (.iconst 1, 1) := by decide +kernel
theorem dX_stat_101 : decode cX_stat 101 = .ok (.goto 4, 3) := by decide +kernel
theorem dX_stat_104 : decode cX_stat 104 = .ok (.iconst 0, 1) := by decide +kernel
theorem dX_stat_105 : decode cX_stat 105 = .ok (.ireturn, 1) := by decide +kernel
theorem dX_stat_106 : decode cX_stat 106 = .ok (.new 45, 3) := by decide +kernel
theorem dX_stat_109 : decode cX_stat 109 = .ok (.dup, 1) := by decide +kernel
theorem dX_stat_110 : decode cX_stat 110 = .ok (.invokespecial 47, 3) := by decide +kernel
theorem dX_stat_113 : decode cX_stat 113 = .ok (.athrow, 1) := by decide +kernel
theorem dX_read_0 : decode cX_read 0 = .ok (.aload_n 0, 1) := by decide +kernel
theorem dX_read_1 : decode cX_read 1 = .ok (.iload_n 1, 1) := by decide +kernel
theorem dX_read_2 : decode cX_read 2 = .ok (.invokevirtual 135, 3) := by decide +kernel
theorem dX_read_5 : decode cX_read 5 = .ok (.aload_n 0, 1) := by decide +kernel
theorem dX_read_6 : decode cX_read 6 = .ok (.iload_n 1, 1) := by decide +kernel
theorem dX_read_7 : decode cX_read 7 = .ok (.invokevirtual 156, 3) := by decide +kernel
theorem dX_read_10 : decode cX_read 10 = .ok (.iload_n 2, 1) := by decide +kernel
theorem dX_read_11 : decode cX_read 11 = .ok (.ifCond .lt 15, 3) := by decide +kernel
theorem dX_read_14 : decode cX_read 14 = .ok (.iload_n 2, 1) := by decide +kernel
theorem dX_read_15 : decode cX_read 15 = .ok (.aload_n 0, 1) := by decide +kernel
theorem dX_read_16 : decode cX_read 16 = .ok (.getfield 26, 3) := by decide +kernel
theorem dX_read_19 : decode cX_read 19 = .ok (.iload_n 1, 1) := by decide +kernel
theorem dX_read_20 : decode cX_read 20 = .ok (.invokevirtual 144, 3) := by decide +kernel
theorem dX_read_23 : decode cX_read 23 = .ok (.if_icmp .lt 11, 3) := by decide +kernel
theorem dX_read_26 : decode cX_read 26 = .ok (.new 159, 3) := by decide +kernel
theorem dX_read_29 : decode cX_read 29 = .ok (.dup, 1) := by decide +kernel
theorem dX_read_30 : decode cX_read 30 = .ok (.invokespecial 161, 3) := by decide +kernel
theorem dX_read_33 : decode cX_read 33 = .ok (.athrow, 1) := by decide +kernel
theorem dX_read_34 : decode cX_read 34 = .ok (.aload_n 0, 1) := by decide +kernel
theorem dX_read_35 : decode cX_read 35 = .ok (.getfield 26, 3) := by decide +kernel
theorem dX_read_38 : decode cX_read 38 = .ok (.iload_n 1, 1) := by decide +kernel
theorem dX_read_39 : decode cX_read 39 = .ok (.invokevirtual 141, 3) := by decide +kernel
theorem dX_read_42 : decode cX_read 42 = .ok (.iconst 2, 1) := by decide +kernel
theorem dX_read_43 : decode cX_read 43 = .ok (.if_icmp .eq 13, 3) := by decide +kernel
theorem dX_read_46 : decode cX_read 46 = .ok (.aload_n 0, 1) := by decide +kernel
theorem dX_read_47 : decode cX_read 47 = .ok (.getfield 26, 3) := by decide +kernel
theorem dX_read_50 : decode cX_read 50 = .ok (.iload_n 1, 1) := by decide +kernel
theorem dX_read_51 : decode cX_read 51 = .ok (.iload_n 2, 1) := by decide +kernel
theorem dX_read_52 : decode cX_read 52 = .ok (.invokevirtual 162, 3) := by decide +kernel
theorem dX_read_55 : decode cX_read 55 = .ok (.ireturn, 1) := by decide +kernel
theorem dX_read_56 : decode cX_read 56 = .ok (.aload_n 0, 1) := by decide +kernel
theorem dX_read_57 : decode cX_read 57 = .ok (.iload_n 1, 1) := by decide +kernel
theorem dX_read_58 : decode cX_read 58 = .ok (.iload_n 2, 1) := by decide +kernel
theorem dX_read_59 : decode cX_read 59 = .ok (.invokevirtual 165, 3) := by decide +kernel
theorem dX_read_62 : decode cX_read 62 = .ok (.istore_n 3, 1) := by decide +kernel
theorem dX_read_63 : decode cX_read 63 = .ok (.iload_n 3, 1) := by decide +kernel
theorem dX_read_64 : decode cX_read 64 = .ok (.iconst (-1), 1) := by decide +kernel
theorem dX_read_65 : decode cX_read 65 = .ok (.if_icmp .ne 11, 3) := by decide +kernel
theorem dX_read_68 : decode cX_read 68 = .ok (.new 56, 3) := by decide +kernel
theorem dX_read_71 : decode cX_read 71 = .ok (.dup, 1) := by decide +kernel
theorem dX_read_72 : decode cX_read 72 = .ok (.invokespecial 58, 3) := by decide +kernel
theorem dX_read_75 : decode cX_read 75 = .ok (.athrow, 1) := by decide +kernel
theorem dX_read_76 : decode cX_read 76 = .ok (.iload_n 3, 1) := by decide +kernel
theorem dX_read_77 : decode cX_read 77 = .ok (.ireturn, 1) := by decide +kernel
theorem dX_find_0 : decode cX_find 0 = .ok (.aload_n 0, 1) := by decide +kernel
theorem dX_find_1 : decode cX_find 1 = .ok (.iload_n 1, 1) := by decide +kernel
theorem dX_find_2 : decode cX_find 2 = .ok (.invokevirtual 135, 3) := by decide +kernel
theorem dX_find_5 : decode cX_find 5 = .ok (.aload_n 0, 1) := by decide +kernel
theorem dX_find_6 : decode cX_find 6 = .ok (.getfield 26, 3) := by decide +kernel
theorem dX_find_9 : decode cX_find 9 = .ok (.iload_n 1, 1) := by decide +kernel
theorem dX_find_10 : decode cX_find 10 = .ok (.invokevirtual 138, 3) := by decide +kernel
theorem dX_find_13 : decode cX_find 13 = .ok (.ifCond .eq 11, 3) := by decide +kernel
theorem dX_find_16 : decode cX_find 16 = .ok (.new 45, 3) := by decide +kernel
theorem dX_find_19 : decode cX_find 19 = .ok (.dup, 1) := by decide +kernel
theorem dX_find_20 : decode cX_find 20 = .ok (.invokespecial 47, 3) := by decide +kernel
theorem dX_find_23 : decode cX_find 23 = .ok (.athrow, 1) := by decide +kernel
theorem dX_find_24 : decode cX_find 24 = .ok (.aload_n 0, 1) := by decide +kernel
theorem dX_find_25 : decode cX_find 25 = .ok (.iload_n 1, 1) := by decide +kernel
theorem dX_find_26 : decode cX_find 26 = .ok (.invokevirtual 156, 3) := by decide +kernel
theorem dX_find_29 : decode cX_find 29 = .ok (.aload_n 0, 1) := by decide +kernel
theorem dX_find_30 : decode cX_find 30 = .ok (.getfield 26, 3) := by decide +kernel
theorem dX_find_33 : decode cX_find 33 = .ok (.iload_n 1, 1) := by decide +kernel
theorem dX_find_34 : decode cX_find 34 = .ok (.iload_n 2, 1) := by decide +kernel
theorem dX_find_35 : decode cX_find 35 = .ok (.invokevirtual 168, 3) := by decide +kernel
theorem dX_find_38 : decode cX_find 38 = .ok (.ireturn, 1) := by decide +kernel
theorem dX_resolve_0 : decode cX_resolve 0 = .ok (.aload_n 0, 1) := by decide +kernel
theorem dX_resolve_1 : decode cX_resolve 1 = .ok (.invokevirtual 171, 3) := by decide +kernel
theorem dX_resolve_4 : decode cX_resolve 4 = .ok (.aload_n 0, 1) := by decide +kernel
theorem dX_resolve_5 : decode cX_resolve 5 = .ok (.iconst 0, 1) := by decide +kernel
theorem dX_resolve_6 : decode cX_resolve 6 = .ok (.invokevirtual 156, 3) := by decide +kernel
theorem dX_resolve_9 : decode cX_resolve 9 = .ok (.aload_n 0, 1) := by decide +kernel
theorem dX_resolve_10 : decode cX_resolve 10 = .ok (.iload_n 1, 1) := by decide +kernel
theorem dX_resolve_11 : decode cX_resolve 11 = .ok (.invokevirtual 174, 3) := by decide +kernel
theorem dX_resolve_14 : decode cX_resolve 14 = .ok (.iconst 0, 1) := by decide +kernel
theorem dX_resolve_15 : decode cX_resolve 15 = .ok (.istore_n 2, 1) := by decide +kernel
theorem dX_resolve_16 : decode cX_resolve 16 = .ok (.iconst 0, 1) := by decide +kernel
theorem dX_resolve_17 : decode cX_resolve 17 = .ok (.istore_n 3, 1) := by decide +kernel
theorem dX_resolve_18 : decode cX_resolve 18 = .ok (.iconst 0, 1) := by decide +kernel
theorem dX_resolve_19 : decode cX_resolve 19 = .ok (.istore 4, 2) := by decide +kernel
theorem dX_resolve_21 : decode cX_resolve 21 = .ok (.iload 4, 2) := by decide +kernel
theorem dX_resolve_23 : decode cX_resolve 23 = .ok (.aload_n 0, 1) := by decide +kernel
theorem dX_resolve_24 : decode cX_resolve 24 = .ok (.getfield 37, 3) := by decide +kernel
theorem dX_resolve_27 : decode cX_resolve 27 = .ok (.arraylength, 1) := by decide +kernel
theorem dX_resolve_28 : decode cX_resolve 28 = .ok (.if_icmp .ge 95, 3) := by decide +kernel
theorem dX_resolve_31 : decode cX_resolve 31 = .ok (.aload_n 0, 1) := by decide +kernel
theorem dX_resolve_32 : decode cX_resolve 32 = .ok (.getfield 41, 3) := by decide +kernel
theorem dX_resolve_35 : decode cX_resolve 35 = .ok (.ifCond .le 88, 3) := by decide +kernel
theorem dX_resolve_38 : decode cX_resolve 38 = .ok (.aload_n 0, 1) := by decide +kernel
theorem dX_resolve_39 : decode cX_resolve 39 = .ok (.getfield 26, 3) := by decide +kernel
theorem dX_resolve_42 : decode cX_resolve 42 = .ok (.iload_n 2, 1) := by decide +kernel
theorem dX_resolve_43 : decode cX_resolve 43 = .ok (.invokevirtual 138, 3) := by decide +kernel
theorem dX_resolve_46 : decode cX_resolve 46 = .ok (.ifCond .eq 5, 3) := by decide +kernel
theorem dX_resolve_49 : decode cX_resolve 49 = .ok (.iconst (-1), 1) := by decide +kernel
theorem dX_resolve_50 : decode cX_resolve 50 = .ok (.ireturn, 1) := by decide +kernel
theorem dX_resolve_51 : decode cX_resolve 51 = .ok (.aload_n 0, 1) := by decide +kernel
theorem dX_resolve_52 : decode cX_resolve 52 = .ok (.getfield 26, 3) := by decide +kernel
theorem dX_resolve_55 : decode cX_resolve 55 = .ok (.iload_n 2, 1) := by decide +kernel
theorem dX_resolve_56 : decode cX_resolve 56 = .ok (.aload_n 0, 1) := by decide +kernel
theorem dX_resolve_57 : decode cX_resolve 57 = .ok (.invokevirtual 177, 3) := by decide +kernel
theorem dX_resolve_60 : decode cX_resolve 60 = .ok (.invokevirtual 168, 3) := by decide +kernel
theorem dX_resolve_63 : decode cX_resolve 63 = .ok (.istore_n 2, 1) := by decide +kernel
theorem dX_resolve_64 : decode cX_resolve 64 = .ok (.iload_n 2, 1) := by decide +kernel
theorem dX_resolve_65 : decode cX_resolve 65 = .ok (.iconst (-1), 1) := by decide +kernel
theorem dX_resolve_66 : decode cX_resolve 66 = .ok (.if_icmp .ne 5, 3) := by decide +kernel
theorem dX_resolve_69 : decode cX_resolve 69 = .ok (.iconst (-1), 1) := by decide +kernel
theorem dX_resolve_70 : decode cX_resolve 70 = .ok (.ireturn, 1) := by decide +kernel
theorem dX_resolve_71 : decode cX_resolve 71 = .ok (.aload_n 0, 1) := by decide +kernel
theorem dX_resolve_72 : decode cX_resolve 72 = .ok (.iload_n 2, 1) := by decide +kernel
theorem dX_resolve_73 : decode cX_resolve 73 = .ok (.invokevirtual 156, 3) := by decide +kernel
theorem dX_resolve_76 : decode cX_resolve 76 = .ok (.aload_n 0, 1) := by decide +kernel
theorem dX_resolve_77 : decode cX_resolve 77 = .ok (.getfield 26, 3) := by decide +kernel
theorem dX_resolve_80 : decode cX_resolve 80 = .ok (.iload_n 2, 1) := by decide +kernel
theorem dX_resolve_81 : decode cX_resolve 81 = .ok (.invokevirtual 138, 3) := by decide +kernel
theorem dX_resolve_84 : decode cX_resolve 84 = .ok (.iconst 2, 1) := by decide +kernel
theorem dX_resolve_85 : decode cX_resolve 85 = .ok (.if_icmp .ne 32, 3) := by decide +kernel
theorem dX_resolve_88 : decode cX_resolve 88 = .ok (.iload_n 3, 1) := by decide +kernel
theorem dX_resolve_89 : decode cX_resolve 89 = .ok (.iconst 4, 1) := by decide +kernel
theorem dX_resolve_90 : decode cX_resolve 90 = .ok (.if_icmp .eq 15, 3) := by decide +kernel
theorem dX_resolve_93 : decode cX_resolve 93 = .ok (.aload_n 0, 1) := by decide +kernel
theorem dX_resolve_94 : decode cX_resolve 94 = .ok (.getfield 26, 3) := by decide +kernel
theorem dX_resolve_97 : decode cX_resolve 97 = .ok (.iload_n 2, 1) := by decide +kernel
theorem dX_resolve_98 : decode cX_resolve 98 = .ok (.invokevirtual 144, 3) := by decide +kernel
theorem dX_resolve_101 : decode cX_resolve 101 = .ok (.iconst 4, 1) := by decide +kernel
theorem dX_resolve_102 : decode cX_resolve 102 = .ok (.if_icmp .le 5, 3) := by decide +kernel
theorem dX_resolve_105 : decode cX_resolve 105 = .ok (.iconst (-1), 1) := by decide +kernel
theorem dX_resolve_106 : decode cX_resolve 106 = .ok (.ireturn, 1) := by decide +kernel
theorem dX_resolve_107 : decode cX_resolve 107 = .ok (.iinc 3 1, 3) := by decide +kernel
theorem dX_resolve_110 : decode cX_resolve 110 = .ok (.aload_n 0, 1) := by decide +kernel
theorem dX_resolve_111 : decode cX_resolve 111 = .ok (.iload_n 2, 1) := by decide +kernel
theorem dX_resolve_112 : decode cX_resolve 112 = .ok (.invokevirtual 181, 3) := by decide +kernel
theorem dX_resolve_115 : decode cX_resolve 115 = .ok (.iconst 0, 1) := by decide +kernel
theorem dX_resolve_116 : decode cX_resolve 116 = .ok (.istore_n 2, 1) := by decide +kernel
theorem dX_resolve_117 : decode cX_resolve 117 = .ok (.iinc 4 1, 3) := by decide +kernel
theorem dX_resolve_120 : decode cX_resolve 120 = .ok (.goto (-99), 3) := by decide +kernel
theorem dX_resolve_123 : decode cX_resolve 123 = .ok (.iload_n 2, 1) := by decide +kernel
theorem dX_resolve_124 : decode cX_resolve 124 = .ok (.ireturn, 1) := by decide +kernel
theorem dX_cache_0 : decode cX_cache 0 = .ok (.aload_n 0, 1) := by decide +kernel
theorem dX_cache_1 : decode cX_cache 1 = .ok (.getfield 26, 3) := by decide +kernel
theorem dX_cache_4 : decode cX_cache 4 = .ok (.getfield 184, 3) := by decide +kernel
theorem dX_cache_7 : decode cX_cache 7 = .ok (.ifCond .ne 5, 3) := by decide +kernel
theorem dX_cache_10 : decode cX_cache 10 = .ok (.iconst 0, 1) := by decide +kernel
theorem dX_cache_11 : decode cX_cache 11 = .ok (.ireturn, 1) := by decide +kernel
theorem dX_cache_12 : decode cX_cache 12 = .ok (.iload_n 1, 1) := by decide +kernel
theorem dX_cache_13 : decode cX_cache 13 = .ok (.ifCond .eq 13, 3) := by decide +kernel
theorem dX_cache_16 : decode cX_cache 16 = .ok (.aload_n 0, 1) := by decide +kernel
theorem dX_cache_17 : decode cX_cache 17 = .ok (.getfield 33, 3) := by decide +kernel
theorem dX_cache_20 : decode cX_cache 20 = .ok (.getfield 188, 3) := by decide +kernel
theorem dX_cache_23 : decode cX_cache 23 = .ok (.goto 10, 3) := by decide +kernel
theorem dX_cache_26 : decode cX_cache 26 = .ok (.aload_n 0, 1) := by decide +kernel
theorem dX_cache_27 : decode cX_cache 27 = .ok (.getfield 33, 3) := by decide +kernel
theorem dX_cache_30 : decode cX_cache 30 = .ok (.getfield 191, 3) := by decide +kernel
theorem dX_cache_33 : decode cX_cache 33 = .ok (.ireturn, 1) := by decide +kernel
theorem dX_check_0 : decode cX_check 0 = .ok (.aload_n 0, 1) := by decide +kernel
theorem dX_check_1 : decode cX_check 1 = .ok (.invokevirtual 171, 3) := by decide +kernel
theorem dX_check_4 : decode cX_check 4 = .ok (.iconst 0, 1) := by decide +kernel
theorem dX_check_5 : decode cX_check 5 = .ok (.istore_n 1, 1) := by decide +kernel
theorem dX_check_6 : decode cX_check 6 = .ok (.iload_n 1, 1) := by decide +kernel
theorem dX_check_7 : decode cX_check 7 = .ok (.bipush 126, 2) := by decide +kernel
theorem dX_check_9 : decode cX_check 9 = .ok (.if_icmp .ge 30, 3) := by decide +kernel
theorem dX_check_12 : decode cX_check 12 = .ok (.aload_n 0, 1) := by decide +kernel
theorem dX_check_13 : decode cX_check 13 = .ok (.getfield 26, 3) := by decide +kernel
theorem dX_check_16 : decode cX_check 16 = .ok (.iload_n 1, 1) := by decide +kernel
theorem dX_check_17 : decode cX_check 17 = .ok (.invokevirtual 194, 3) := by decide +kernel
theorem dX_check_20 : decode cX_check 20 = .ok (.ifCond .eq 13, 3) := by decide +kernel
theorem dX_check_23 : decode cX_check 23 = .ok (.aload_n 0, 1) := by decide +kernel
theorem dX_check_24 : decode cX_check 24 = .ok (.iload_n 1, 1) := by decide +kernel
theorem dX_check_25 : decode cX_check 25 = .ok (.invokevirtual 197, 3) := by decide +kernel
theorem dX_check_28 : decode cX_check 28 = .ok (.ifCond .eq 5, 3) := by decide +kernel
theorem dX_check_31 : decode cX_check 31 = .ok (.iload_n 1, 1) := by decide +kernel
theorem dX_check_32 : decode cX_check 32 = .ok (.ireturn, 1) := by decide +kernel
theorem dX_check_33 : decode cX_check 33 = .ok (.iinc 1 1, 3) := by decide +kernel
theorem dX_check_36 : decode cX_check 36 = .ok (.goto (-30), 3) := by decide +kernel
theorem dX_check_39 : decode cX_check 39 = .ok (.iconst (-1), 1) := by decide +kernel
theorem dX_check_40 : decode cX_check 40 = .ok (.ireturn, 1) := by decide +kernel
theorem dX_demandDirectoryAndLetter_0 : decode cX_demandDirectoryAndLetter 0 = .ok (.aload_n 0, 1) := by decide +kernel
theorem dX_demandDirectoryAndLetter_1 : decode cX_demandDirectoryAndLetter 1 = .ok (.getfield 10, 3) := by decide +kernel
theorem dX_demandDirectoryAndLetter_4 : decode cX_demandDirectoryAndLetter 4 = .ok (.iload_n 1, 1) := by decide +kernel
theorem dX_demandDirectoryAndLetter_5 : decode cX_demandDirectoryAndLetter 5 = .ok (.iconst 0, 1) := by decide +kernel
theorem dX_demandDirectoryAndLetter_6 : decode cX_demandDirectoryAndLetter 6 = .ok (.invokevirtual 67, 3) := by decide +kernel
theorem dX_demandDirectoryAndLetter_9 : decode cX_demandDirectoryAndLetter 9 = .ok (.ifCond .eq 10, 3) := by decide +kernel
theorem dX_demandDirectoryAndLetter_12 : decode cX_demandDirectoryAndLetter 12 = .ok (.iload_n 2, 1) := by decide +kernel
theorem dX_demandDirectoryAndLetter_13 : decode cX_demandDirectoryAndLetter 13 = .ok (.invokestatic 82, 3) := by decide +kernel
theorem dX_demandDirectoryAndLetter_16 : decode cX_demandDirectoryAndLetter 16 = .ok (.ifCond .ne 11, 3) := by decide +kernel
theorem dX_demandDirectoryAndLetter_19 : decode cX_demandDirectoryAndLetter 19 = .ok (.new 45, 3) := by decide +kernel
theorem dX_demandDirectoryAndLetter_22 : decode cX_demandDirectoryAndLetter 22 = .ok (.dup, 1) := by decide +kernel
theorem dX_demandDirectoryAndLetter_23 : decode cX_demandDirectoryAndLetter 23 = .ok (.invokespecial 47, 3) := by decide +kernel
theorem dX_demandDirectoryAndLetter_26 : decode cX_demandDirectoryAndLetter 26 = .ok (.athrow, 1) := by decide +kernel
theorem dX_demandDirectoryAndLetter_27 : decode cX_demandDirectoryAndLetter 27 = .ok (.return_, 1) := by decide +kernel
theorem dX_demandFreeName_0 : decode cX_demandFreeName 0 = .ok (.aload_n 0, 1) := by decide +kernel
theorem dX_demandFreeName_1 : decode cX_demandFreeName 1 = .ok (.iload_n 1, 1) := by decide +kernel
theorem dX_demandFreeName_2 : decode cX_demandFreeName 2 = .ok (.iload_n 2, 1) := by decide +kernel
theorem dX_demandFreeName_3 : decode cX_demandFreeName 3 = .ok (.invokevirtual 71, 3) := by decide +kernel
theorem dX_demandFreeName_6 : decode cX_demandFreeName 6 = .ok (.aload_n 0, 1) := by decide +kernel
theorem dX_demandFreeName_7 : decode cX_demandFreeName 7 = .ok (.getfield 10, 3) := by decide +kernel
theorem dX_demandFreeName_10 : decode cX_demandFreeName 10 = .ok (.iload_n 1, 1) := by decide +kernel
theorem dX_demandFreeName_11 : decode cX_demandFreeName 11 = .ok (.iload_n 2, 1) := by decide +kernel
theorem dX_demandFreeName_12 : decode cX_demandFreeName 12 = .ok (.bipush 97, 2) := by decide +kernel
theorem dX_demandFreeName_14 : decode cX_demandFreeName 14 = .ok (.isub, 1) := by decide +kernel
theorem dX_demandFreeName_15 : decode cX_demandFreeName 15 = .ok (.invokevirtual 74, 3) := by decide +kernel
theorem dX_demandFreeName_18 : decode cX_demandFreeName 18 = .ok (.iconst (-1), 1) := by decide +kernel
theorem dX_demandFreeName_19 : decode cX_demandFreeName 19 = .ok (.if_icmp .eq 11, 3) := by decide +kernel
theorem dX_demandFreeName_22 : decode cX_demandFreeName 22 = .ok (.new 45, 3) := by decide +kernel
theorem dX_demandFreeName_25 : decode cX_demandFreeName 25 = .ok (.dup, 1) := by decide +kernel
theorem dX_demandFreeName_26 : decode cX_demandFreeName 26 = .ok (.invokespecial 47, 3) := by decide +kernel
theorem dX_demandFreeName_29 : decode cX_demandFreeName 29 = .ok (.athrow, 1) := by decide +kernel
theorem dX_demandFreeName_30 : decode cX_demandFreeName 30 = .ok (.return_, 1) := by decide +kernel
theorem dX_demandPlace_0 : decode cX_demandPlace 0 = .ok (.iload_n 1, 1) := by decide +kernel
theorem dX_demandPlace_1 : decode cX_demandPlace 1 = .ok (.ifCond .lt 10, 3) := by decide +kernel
theorem dX_demandPlace_4 : decode cX_demandPlace 4 = .ok (.iload_n 1, 1) := by decide +kernel
theorem dX_demandPlace_5 : decode cX_demandPlace 5 = .ok (.sipush 1024, 3) := by decide +kernel
theorem dX_demandPlace_8 : decode cX_demandPlace 8 = .ok (.if_icmp .lt 11, 3) := by decide +kernel
theorem dX_demandPlace_11 : decode cX_demandPlace 11 = .ok (.new 159, 3) := by decide +kernel
theorem dX_demandPlace_14 : decode cX_demandPlace 14 = .ok (.dup, 1) := by decide +kernel
theorem dX_demandPlace_15 : decode cX_demandPlace 15 = .ok (.invokespecial 161, 3) := by decide +kernel
theorem dX_demandPlace_18 : decode cX_demandPlace 18 = .ok (.athrow, 1) := by decide +kernel
theorem dX_demandPlace_19 : decode cX_demandPlace 19 = .ok (.return_, 1) := by decide +kernel
theorem dX_demandMounted_0 : decode cX_demandMounted 0 = .ok (.aload_n 0, 1) := by decide +kernel
theorem dX_demandMounted_1 : decode cX_demandMounted 1 = .ok (.getfield 26, 3) := by decide +kernel
theorem dX_demandMounted_4 : decode cX_demandMounted 4 = .ok (.getfield 184, 3) := by decide +kernel
theorem dX_demandMounted_7 : decode cX_demandMounted 7 = .ok (.ifCond .ne 11, 3) := by decide +kernel
theorem dX_demandMounted_10 : decode cX_demandMounted 10 = .ok (.new 56, 3) := by decide +kernel
theorem dX_demandMounted_13 : decode cX_demandMounted 13 = .ok (.dup, 1) := by decide +kernel
theorem dX_demandMounted_14 : decode cX_demandMounted 14 = .ok (.invokespecial 58, 3) := by decide +kernel
theorem dX_demandMounted_17 : decode cX_demandMounted 17 = .ok (.athrow, 1) := by decide +kernel
theorem dX_demandMounted_18 : decode cX_demandMounted 18 = .ok (.return_, 1) := by decide +kernel
theorem dX_demandInode_0 : decode cX_demandInode 0 = .ok (.aload_n 0, 1) := by decide +kernel
theorem dX_demandInode_1 : decode cX_demandInode 1 = .ok (.invokevirtual 171, 3) := by decide +kernel
theorem dX_demandInode_4 : decode cX_demandInode 4 = .ok (.aload_n 0, 1) := by decide +kernel
theorem dX_demandInode_5 : decode cX_demandInode 5 = .ok (.getfield 26, 3) := by decide +kernel
theorem dX_demandInode_8 : decode cX_demandInode 8 = .ok (.iload_n 1, 1) := by decide +kernel
theorem dX_demandInode_9 : decode cX_demandInode 9 = .ok (.invokevirtual 194, 3) := by decide +kernel
theorem dX_demandInode_12 : decode cX_demandInode 12 = .ok (.ifCond .ne 11, 3) := by decide +kernel
theorem dX_demandInode_15 : decode cX_demandInode 15 = .ok (.new 159, 3) := by decide +kernel
theorem dX_demandInode_18 : decode cX_demandInode 18 = .ok (.dup, 1) := by decide +kernel
theorem dX_demandInode_19 : decode cX_demandInode 19 = .ok (.invokespecial 161, 3) := by decide +kernel
theorem dX_demandInode_22 : decode cX_demandInode 22 = .ok (.athrow, 1) := by decide +kernel
theorem dX_demandInode_23 : decode cX_demandInode 23 = .ok (.return_, 1) := by decide +kernel
theorem dX_demandGood_0 : decode cX_demandGood 0 = .ok (.aload_n 0, 1) := by decide +kernel
theorem dX_demandGood_1 : decode cX_demandGood 1 = .ok (.getfield 26, 3) := by decide +kernel
theorem dX_demandGood_4 : decode cX_demandGood 4 = .ok (.iload_n 1, 1) := by decide +kernel
theorem dX_demandGood_5 : decode cX_demandGood 5 = .ok (.invokevirtual 194, 3) := by decide +kernel
theorem dX_demandGood_8 : decode cX_demandGood 8 = .ok (.ifCond .eq 14, 3) := by decide +kernel
theorem dX_demandGood_11 : decode cX_demandGood 11 = .ok (.aload_n 0, 1) := by decide +kernel
theorem dX_demandGood_12 : decode cX_demandGood 12 = .ok (.getfield 26, 3) := by decide +kernel
theorem dX_demandGood_15 : decode cX_demandGood 15 = .ok (.iload_n 1, 1) := by decide +kernel
theorem dX_demandGood_16 : decode cX_demandGood 16 = .ok (.invokevirtual 153, 3) := by decide +kernel
theorem dX_demandGood_19 : decode cX_demandGood 19 = .ok (.ifCond .eq 11, 3) := by decide +kernel
theorem dX_demandGood_22 : decode cX_demandGood 22 = .ok (.new 56, 3) := by decide +kernel
theorem dX_demandGood_25 : decode cX_demandGood 25 = .ok (.dup, 1) := by decide +kernel
theorem dX_demandGood_26 : decode cX_demandGood 26 = .ok (.invokespecial 58, 3) := by decide +kernel
theorem dX_demandGood_29 : decode cX_demandGood 29 = .ok (.athrow, 1) := by decide +kernel
theorem dX_demandGood_30 : decode cX_demandGood 30 = .ok (.return_, 1) := by decide +kernel
theorem dX_packedByte_0 : decode cX_packedByte 0 = .ok (.aload_n 0, 1) := by decide +kernel
theorem dX_packedByte_1 : decode cX_packedByte 1 = .ok (.getfield 26, 3) := by decide +kernel
theorem dX_packedByte_4 : decode cX_packedByte 4 = .ok (.iload_n 1, 1) := by decide +kernel
theorem dX_packedByte_5 : decode cX_packedByte 5 = .ok (.iload_n 2, 1) := by decide +kernel
theorem dX_packedByte_6 : decode cX_packedByte 6 = .ok (.invokevirtual 200, 3) := by decide +kernel
theorem dX_packedByte_9 : decode cX_packedByte 9 = .ok (.istore_n 3, 1) := by decide +kernel
theorem dX_packedByte_10 : decode cX_packedByte 10 = .ok (.aload_n 0, 1) := by decide +kernel
theorem dX_packedByte_11 : decode cX_packedByte 11 = .ok (.getfield 33, 3) := by decide +kernel
theorem dX_packedByte_14 : decode cX_packedByte 14 = .ok (.iload_n 1, 1) := by decide +kernel
theorem dX_packedByte_15 : decode cX_packedByte 15 = .ok (.iload_n 3, 1) := by decide +kernel
theorem dX_packedByte_16 : decode cX_packedByte 16 = .ok (.invokevirtual 203, 3) := by decide +kernel
theorem dX_packedByte_19 : decode cX_packedByte 19 = .ok (.ifCond .ne 33, 3) := by decide +kernel
theorem dX_packedByte_22 : decode cX_packedByte 22 = .ok (.aload_n 0, 1) := by decide +kernel
theorem dX_packedByte_23 : decode cX_packedByte 23 = .ok (.getfield 26, 3) := by decide +kernel
theorem dX_packedByte_26 : decode cX_packedByte 26 = .ok (.iload_n 1, 1) := by decide +kernel
theorem dX_packedByte_27 : decode cX_packedByte 27 = .ok (.iload_n 3, 1) := by decide +kernel
theorem dX_packedByte_28 : decode cX_packedByte 28 = .ok (.aload_n 0, 1) := by decide +kernel
theorem dX_packedByte_29 : decode cX_packedByte 29 = .ok (.getfield 33, 3) := by decide +kernel
theorem dX_packedByte_32 : decode cX_packedByte 32 = .ok (.getfield 206, 3) := by decide +kernel
theorem dX_packedByte_35 : decode cX_packedByte 35 = .ok (.invokevirtual 210, 3) := by decide +kernel
theorem dX_packedByte_38 : decode cX_packedByte 38 = .ok (.ifCond .ne 5, 3) := by decide +kernel
theorem dX_packedByte_41 : decode cX_packedByte 41 = .ok (.iconst (-1), 1) := by decide +kernel
theorem dX_packedByte_42 : decode cX_packedByte 42 = .ok (.ireturn, 1) := by decide +kernel
theorem dX_packedByte_43 : decode cX_packedByte 43 = .ok (.aload_n 0, 1) := by decide +kernel
theorem dX_packedByte_44 : decode cX_packedByte 44 = .ok (.getfield 33, 3) := by decide +kernel
theorem dX_packedByte_47 : decode cX_packedByte 47 = .ok (.iload_n 1, 1) := by decide +kernel
theorem dX_packedByte_48 : decode cX_packedByte 48 = .ok (.iload_n 3, 1) := by decide +kernel
theorem dX_packedByte_49 : decode cX_packedByte 49 = .ok (.invokevirtual 214, 3) := by decide +kernel
theorem dX_packedByte_52 : decode cX_packedByte 52 = .ok (.aload_n 0, 1) := by decide +kernel
theorem dX_packedByte_53 : decode cX_packedByte 53 = .ok (.getfield 33, 3) := by decide +kernel
theorem dX_packedByte_56 : decode cX_packedByte 56 = .ok (.getfield 217, 3) := by decide +kernel
theorem dX_packedByte_59 : decode cX_packedByte 59 = .ok (.iload_n 2, 1) := by decide +kernel
theorem dX_packedByte_60 : decode cX_packedByte 60 = .ok (.aload_n 0, 1) := by decide +kernel
theorem dX_packedByte_61 : decode cX_packedByte 61 = .ok (.getfield 26, 3) := by decide +kernel
theorem dX_packedByte_64 : decode cX_packedByte 64 = .ok (.iload_n 1, 1) := by decide +kernel
theorem dX_packedByte_65 : decode cX_packedByte 65 = .ok (.iload_n 3, 1) := by decide +kernel
theorem dX_packedByte_66 : decode cX_packedByte 66 = .ok (.invokevirtual 220, 3) := by decide +kernel
theorem dX_packedByte_69 : decode cX_packedByte 69 = .ok (.isub, 1) := by decide +kernel
theorem dX_packedByte_70 : decode cX_packedByte 70 = .ok (.invokevirtual 223, 3) := by decide +kernel
theorem dX_packedByte_73 : decode cX_packedByte 73 = .ok (.ireturn, 1) := by decide +kernel
theorem dX_isWrong_0 : decode cX_isWrong 0 = .ok (.aload_n 0, 1) := by decide +kernel
theorem dX_isWrong_1 : decode cX_isWrong 1 = .ok (.getfield 26, 3) := by decide +kernel
theorem dX_isWrong_4 : decode cX_isWrong 4 = .ok (.iload_n 1, 1) := by decide +kernel
theorem dX_isWrong_5 : decode cX_isWrong 5 = .ok (.invokevirtual 153, 3) := by decide +kernel
theorem dX_isWrong_8 : decode cX_isWrong 8 = .ok (.ifCond .eq 5, 3) := by decide +kernel
theorem dX_isWrong_11 : decode cX_isWrong 11 = .ok (.iconst 1, 1) := by decide +kernel
theorem dX_isWrong_12 : decode cX_isWrong 12 = .ok (.ireturn, 1) := by decide +kernel
theorem dX_isWrong_13 : decode cX_isWrong 13 = .ok (.aload_n 0, 1) := by decide +kernel
theorem dX_isWrong_14 : decode cX_isWrong 14 = .ok (.getfield 26, 3) := by decide +kernel
theorem dX_isWrong_17 : decode cX_isWrong 17 = .ok (.iload_n 1, 1) := by decide +kernel
theorem dX_isWrong_18 : decode cX_isWrong 18 = .ok (.invokevirtual 141, 3) := by decide +kernel
theorem dX_isWrong_21 : decode cX_isWrong 21 = .ok (.iconst 2, 1) := by decide +kernel
theorem dX_isWrong_22 : decode cX_isWrong 22 = .ok (.if_icmp .ne 9, 3) := by decide +kernel
theorem dX_isWrong_25 : decode cX_isWrong 25 = .ok (.aload_n 0, 1) := by decide +kernel
theorem dX_isWrong_26 : decode cX_isWrong 26 = .ok (.iload_n 1, 1) := by decide +kernel
theorem dX_isWrong_27 : decode cX_isWrong 27 = .ok (.invokevirtual 227, 3) := by decide +kernel
theorem dX_isWrong_30 : decode cX_isWrong 30 = .ok (.ireturn, 1) := by decide +kernel
theorem dX_isWrong_31 : decode cX_isWrong 31 = .ok (.aload_n 0, 1) := by decide +kernel
theorem dX_isWrong_32 : decode cX_isWrong 32 = .ok (.getfield 26, 3) := by decide +kernel
theorem dX_isWrong_35 : decode cX_isWrong 35 = .ok (.iload_n 1, 1) := by decide +kernel
theorem dX_isWrong_36 : decode cX_isWrong 36 = .ok (.invokevirtual 138, 3) := by decide +kernel
theorem dX_isWrong_39 : decode cX_isWrong 39 = .ok (.ifCond .ne 18, 3) := by decide +kernel
theorem dX_isWrong_42 : decode cX_isWrong 42 = .ok (.aload_n 0, 1) := by decide +kernel
theorem dX_isWrong_43 : decode cX_isWrong 43 = .ok (.getfield 26, 3) := by decide +kernel
theorem dX_isWrong_46 : decode cX_isWrong 46 = .ok (.iload_n 1, 1) := by decide +kernel
theorem dX_isWrong_47 : decode cX_isWrong 47 = .ok (.invokevirtual 230, 3) := by decide +kernel
theorem dX_isWrong_50 : decode cX_isWrong 50 = .ok (.ifCond .eq 7, 3) := by decide +kernel
theorem dX_isWrong_53 : decode cX_isWrong 53 = .ok (.iconst 1, 1) := by decide +kernel
theorem dX_isWrong_54 : decode cX_isWrong 54 = .ok (.goto 4, 3) := by decide +kernel
theorem dX_isWrong_57 : decode cX_isWrong 57 = .ok (.iconst 0, 1) := by decide +kernel
theorem dX_isWrong_58 : decode cX_isWrong 58 = .ok (.ireturn, 1) := by decide +kernel
theorem dX_hasBadCluster_0 : decode cX_hasBadCluster 0 = .ok (.iconst 0, 1) := by decide +kernel
theorem dX_hasBadCluster_1 : decode cX_hasBadCluster 1 = .ok (.istore_n 2, 1) := by decide +kernel
theorem dX_hasBadCluster_2 : decode cX_hasBadCluster 2 = .ok (.iload_n 2, 1) := by decide +kernel
theorem dX_hasBadCluster_3 : decode cX_hasBadCluster 3 = .ok (.aload_n 0, 1) := by decide +kernel
theorem dX_hasBadCluster_4 : decode cX_hasBadCluster 4 = .ok (.getfield 26, 3) := by decide +kernel
theorem dX_hasBadCluster_7 : decode cX_hasBadCluster 7 = .ok (.iload_n 1, 1) := by decide +kernel
theorem dX_hasBadCluster_8 : decode cX_hasBadCluster 8 = .ok (.invokevirtual 233, 3) := by decide +kernel
theorem dX_hasBadCluster_11 : decode cX_hasBadCluster 11 = .ok (.if_icmp .ge 30, 3) := by decide +kernel
theorem dX_hasBadCluster_14 : decode cX_hasBadCluster 14 = .ok (.aload_n 0, 1) := by decide +kernel
theorem dX_hasBadCluster_15 : decode cX_hasBadCluster 15 = .ok (.getfield 26, 3) := by decide +kernel
theorem dX_hasBadCluster_18 : decode cX_hasBadCluster 18 = .ok (.iload_n 1, 1) := by decide +kernel
theorem dX_hasBadCluster_19 : decode cX_hasBadCluster 19 = .ok (.iload_n 2, 1) := by decide +kernel
theorem dX_hasBadCluster_20 : decode cX_hasBadCluster 20 = .ok (.aload_n 0, 1) := by decide +kernel
theorem dX_hasBadCluster_21 : decode cX_hasBadCluster 21 = .ok (.getfield 33, 3) := by decide +kernel
theorem dX_hasBadCluster_24 : decode cX_hasBadCluster 24 = .ok (.getfield 206, 3) := by decide +kernel
theorem dX_hasBadCluster_27 : decode cX_hasBadCluster 27 = .ok (.invokevirtual 210, 3) := by decide +kernel
theorem dX_hasBadCluster_30 : decode cX_hasBadCluster 30 = .ok (.ifCond .ne 5, 3) := by decide +kernel
theorem dX_hasBadCluster_33 : decode cX_hasBadCluster 33 = .ok (.iconst 1, 1) := by decide +kernel
theorem dX_hasBadCluster_34 : decode cX_hasBadCluster 34 = .ok (.ireturn, 1) := by decide +kernel
theorem dX_hasBadCluster_35 : decode cX_hasBadCluster 35 = .ok (.iinc 2 1, 3) := by decide +kernel
theorem dX_hasBadCluster_38 : decode cX_hasBadCluster 38 = .ok (.goto (-36), 3) := by decide +kernel
theorem dX_hasBadCluster_41 : decode cX_hasBadCluster 41 = .ok (.iconst 0, 1) := by decide +kernel
theorem dX_hasBadCluster_42 : decode cX_hasBadCluster 42 = .ok (.ireturn, 1) := by decide +kernel
theorem dX_layAhead_0 : decode cX_layAhead 0 = .ok (.iconst 0, 1) := by decide +kernel
theorem dX_layAhead_1 : decode cX_layAhead 1 = .ok (.istore_n 2, 1) := by decide +kernel
theorem dX_layAhead_2 : decode cX_layAhead 2 = .ok (.iload_n 2, 1) := by decide +kernel
theorem dX_layAhead_3 : decode cX_layAhead 3 = .ok (.iconst 4, 1) := by decide +kernel
theorem dX_layAhead_4 : decode cX_layAhead 4 = .ok (.if_icmp .ge 17, 3) := by decide +kernel
theorem dX_layAhead_7 : decode cX_layAhead 7 = .ok (.iload_n 1, 1) := by decide +kernel
theorem dX_layAhead_8 : decode cX_layAhead 8 = .ok (.iload_n 2, 1) := by decide +kernel
theorem dX_layAhead_9 : decode cX_layAhead 9 = .ok (.invokestatic 236, 3) := by decide +kernel
theorem dX_layAhead_12 : decode cX_layAhead 12 = .ok (.ifCond .eq 9, 3) := by decide +kernel
theorem dX_layAhead_15 : decode cX_layAhead 15 = .ok (.iinc 2 1, 3) := by decide +kernel
theorem dX_layAhead_18 : decode cX_layAhead 18 = .ok (.goto (-16), 3) := by decide +kernel
theorem dX_layAhead_21 : decode cX_layAhead 21 = .ok (.aload_n 0, 1) := by decide +kernel
theorem dX_layAhead_22 : decode cX_layAhead 22 = .ok (.iconst 0, 1) := by decide +kernel
theorem dX_layAhead_23 : decode cX_layAhead 23 = .ok (.putfield 41, 3) := by decide +kernel
theorem dX_layAhead_26 : decode cX_layAhead 26 = .ok (.iload_n 2, 1) := by decide +kernel
theorem dX_layAhead_27 : decode cX_layAhead 27 = .ok (.iconst 1, 1) := by decide +kernel
theorem dX_layAhead_28 : decode cX_layAhead 28 = .ok (.isub, 1) := by decide +kernel
theorem dX_layAhead_29 : decode cX_layAhead 29 = .ok (.istore_n 3, 1) := by decide +kernel
theorem dX_layAhead_30 : decode cX_layAhead 30 = .ok (.iload_n 3, 1) := by decide +kernel
theorem dX_layAhead_31 : decode cX_layAhead 31 = .ok (.ifCond .lt 18, 3) := by decide +kernel
theorem dX_layAhead_34 : decode cX_layAhead 34 = .ok (.aload_n 0, 1) := by decide +kernel
theorem dX_layAhead_35 : decode cX_layAhead 35 = .ok (.iload_n 1, 1) := by decide +kernel
theorem dX_layAhead_36 : decode cX_layAhead 36 = .ok (.iload_n 3, 1) := by decide +kernel
theorem dX_layAhead_37 : decode cX_layAhead 37 = .ok (.invokestatic 236, 3) := by decide +kernel
theorem dX_layAhead_40 : decode cX_layAhead 40 = .ok (.invokevirtual 239, 3) := by decide +kernel
theorem dX_layAhead_43 : decode cX_layAhead 43 = .ok (.iinc 3 (-1), 3) := by decide +kernel
theorem dX_layAhead_46 : decode cX_layAhead 46 = .ok (.goto (-16), 3) := by decide +kernel
theorem dX_layAhead_49 : decode cX_layAhead 49 = .ok (.return_, 1) := by decide +kernel
theorem dX_layLinkAhead_0 : decode cX_layLinkAhead 0 = .ok (.aload_n 0, 1) := by decide +kernel
theorem dX_layLinkAhead_1 : decode cX_layLinkAhead 1 = .ok (.getfield 26, 3) := by decide +kernel
theorem dX_layLinkAhead_4 : decode cX_layLinkAhead 4 = .ok (.iload_n 1, 1) := by decide +kernel
theorem dX_layLinkAhead_5 : decode cX_layLinkAhead 5 = .ok (.invokevirtual 144, 3) := by decide +kernel
theorem dX_layLinkAhead_8 : decode cX_layLinkAhead 8 = .ok (.iconst 1, 1) := by decide +kernel
theorem dX_layLinkAhead_9 : decode cX_layLinkAhead 9 = .ok (.isub, 1) := by decide +kernel
theorem dX_layLinkAhead_10 : decode cX_layLinkAhead 10 = .ok (.istore_n 2, 1) := by decide +kernel
theorem dX_layLinkAhead_11 : decode cX_layLinkAhead 11 = .ok (.iload_n 2, 1) := by decide +kernel
theorem dX_layLinkAhead_12 : decode cX_layLinkAhead 12 = .ok (.ifCond .lt 22, 3) := by decide +kernel
theorem dX_layLinkAhead_15 : decode cX_layLinkAhead 15 = .ok (.aload_n 0, 1) := by decide +kernel
theorem dX_layLinkAhead_16 : decode cX_layLinkAhead 16 = .ok (.aload_n 0, 1) := by decide +kernel
theorem dX_layLinkAhead_17 : decode cX_layLinkAhead 17 = .ok (.getfield 26, 3) := by decide +kernel
theorem dX_layLinkAhead_20 : decode cX_layLinkAhead 20 = .ok (.iload_n 1, 1) := by decide +kernel
theorem dX_layLinkAhead_21 : decode cX_layLinkAhead 21 = .ok (.iload_n 2, 1) := by decide +kernel
theorem dX_layLinkAhead_22 : decode cX_layLinkAhead 22 = .ok (.invokevirtual 162, 3) := by decide +kernel
theorem dX_layLinkAhead_25 : decode cX_layLinkAhead 25 = .ok (.invokevirtual 239, 3) := by decide +kernel
theorem dX_layLinkAhead_28 : decode cX_layLinkAhead 28 = .ok (.iinc 2 (-1), 3) := by decide +kernel
theorem dX_layLinkAhead_31 : decode cX_layLinkAhead 31 = .ok (.goto (-20), 3) := by decide +kernel
theorem dX_layLinkAhead_34 : decode cX_layLinkAhead 34 = .ok (.return_, 1) := by decide +kernel
theorem dX_layLetterAhead_0 : decode cX_layLetterAhead 0 = .ok (.aload_n 0, 1) := by decide +kernel
theorem dX_layLetterAhead_1 : decode cX_layLetterAhead 1 = .ok (.getfield 41, 3) := by decide +kernel
theorem dX_layLetterAhead_4 : decode cX_layLetterAhead 4 = .ok (.aload_n 0, 1) := by decide +kernel
theorem dX_layLetterAhead_5 : decode cX_layLetterAhead 5 = .ok (.getfield 37, 3) := by decide +kernel
theorem dX_layLetterAhead_8 : decode cX_layLetterAhead 8 = .ok (.arraylength, 1) := by decide +kernel
theorem dX_layLetterAhead_9 : decode cX_layLetterAhead 9 = .ok (.if_icmp .ge 23, 3) := by decide +kernel
theorem dX_layLetterAhead_12 : decode cX_layLetterAhead 12 = .ok (.aload_n 0, 1) := by decide +kernel
theorem dX_layLetterAhead_13 : decode cX_layLetterAhead 13 = .ok (.getfield 37, 3) := by decide +kernel
theorem dX_layLetterAhead_16 : decode cX_layLetterAhead 16 = .ok (.aload_n 0, 1) := by decide +kernel
theorem dX_layLetterAhead_17 : decode cX_layLetterAhead 17 = .ok (.getfield 41, 3) := by decide +kernel
theorem dX_layLetterAhead_20 : decode cX_layLetterAhead 20 = .ok (.iload_n 1, 1) := by decide +kernel
theorem dX_layLetterAhead_21 : decode cX_layLetterAhead 21 = .ok (.iastore, 1) := by decide +kernel
theorem dX_layLetterAhead_22 : decode cX_layLetterAhead 22 = .ok (.aload_n 0, 1) := by decide +kernel
theorem dX_layLetterAhead_23 : decode cX_layLetterAhead 23 = .ok (.dup, 1) := by decide +kernel
theorem dX_layLetterAhead_24 : decode cX_layLetterAhead 24 = .ok (.getfield 41, 3) := by decide +kernel
theorem dX_layLetterAhead_27 : decode cX_layLetterAhead 27 = .ok (.iconst 1, 1) := by decide +kernel
theorem dX_layLetterAhead_28 : decode cX_layLetterAhead 28 = .ok (.iadd, 1) := by decide +kernel
theorem dX_layLetterAhead_29 : decode cX_layLetterAhead 29 = .ok (.putfield 41, 3) := by decide +kernel
theorem dX_layLetterAhead_32 : decode cX_layLetterAhead 32 = .ok (.return_, 1) := by decide +kernel
theorem dX_nextLetter_0 : decode cX_nextLetter 0 = .ok (.aload_n 0, 1) := by decide +kernel
theorem dX_nextLetter_1 : decode cX_nextLetter 1 = .ok (.getfield 41, 3) := by decide +kernel
theorem dX_nextLetter_4 : decode cX_nextLetter 4 = .ok (.ifCond .gt 5, 3) := by decide +kernel
theorem dX_nextLetter_7 : decode cX_nextLetter 7 = .ok (.iconst 0, 1) := by decide +kernel
theorem dX_nextLetter_8 : decode cX_nextLetter 8 = .ok (.ireturn, 1) := by decide +kernel
theorem dX_nextLetter_9 : decode cX_nextLetter 9 = .ok (.aload_n 0, 1) := by decide +kernel
theorem dX_nextLetter_10 : decode cX_nextLetter 10 = .ok (.dup, 1) := by decide +kernel
theorem dX_nextLetter_11 : decode cX_nextLetter 11 = .ok (.getfield 41, 3) := by decide +kernel
theorem dX_nextLetter_14 : decode cX_nextLetter 14 = .ok (.iconst 1, 1) := by decide +kernel
theorem dX_nextLetter_15 : decode cX_nextLetter 15 = .ok (.isub, 1) := by decide +kernel
theorem dX_nextLetter_16 : decode cX_nextLetter 16 = .ok (.putfield 41, 3) := by decide +kernel
theorem dX_nextLetter_19 : decode cX_nextLetter 19 = .ok (.aload_n 0, 1) := by decide +kernel
theorem dX_nextLetter_20 : decode cX_nextLetter 20 = .ok (.getfield 37, 3) := by decide +kernel
theorem dX_nextLetter_23 : decode cX_nextLetter 23 = .ok (.aload_n 0, 1) := by decide +kernel
theorem dX_nextLetter_24 : decode cX_nextLetter 24 = .ok (.getfield 41, 3) := by decide +kernel
theorem dX_nextLetter_27 : decode cX_nextLetter 27 = .ok (.iaload, 1) := by decide +kernel
theorem dX_nextLetter_28 : decode cX_nextLetter 28 = .ok (.ireturn, 1) := by decide +kernel
theorem dX_letterOf_0 : decode cX_letterOf 0 = .ok (.iload_n 0, 1) := by decide +kernel
theorem dX_letterOf_1 : decode cX_letterOf 1 = .ok (.bipush 8, 2) := by decide +kernel
theorem dX_letterOf_3 : decode cX_letterOf 3 = .ok (.iload_n 1, 1) := by decide +kernel
theorem dX_letterOf_4 : decode cX_letterOf 4 = .ok (.imul, 1) := by decide +kernel
theorem dX_letterOf_5 : decode cX_letterOf 5 = .ok (.iushr, 1) := by decide +kernel
theorem dX_letterOf_6 : decode cX_letterOf 6 = .ok (.sipush 255, 3) := by decide +kernel
theorem dX_letterOf_9 : decode cX_letterOf 9 = .ok (.iand, 1) := by decide +kernel
theorem dX_letterOf_10 : decode cX_letterOf 10 = .ok (.ireturn, 1) := by decide +kernel
