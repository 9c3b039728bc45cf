theorem d_D_init_0 : decode b_D_init 0 = .ok (.aload_n 0, 1) := by decide +kernel
theorem d_D_init_1 : decode b_D_init 1 = .ok (.invokespecial 1, 3) := by decide +kernel
theorem d_D_init_4 : decode b_D_init 4 = .ok (.aload_n 0, 1) := by decide +kernel
theorem d_D_init_5 : decode b_D_init 5 = .ok (.iload_n 1, 1) := by decide +kernel
theorem d_D_init_6 : decode b_D_init 6 = .ok (.iconst 1, 1) := by decide +kernel
theorem d_D_init_7 : decode b_D_init 7 = .ok (.invokestatic 7, 3) := by decide +kernel
theorem d_D_init_10 : decode b_D_init 10 = .ok (.bipush 8, 2) := by decide +kernel
theorem d_D_init_12 : decode b_D_init 12 = .ok (.invokestatic 15, 3) := by decide +kernel
theorem d_D_init_15 : decode b_D_init 15 = .ok (.putfield 18, 3) := by decide +kernel
theorem d_D_init_18 : decode b_D_init 18 = .ok (.aload_n 0, 1) := by decide +kernel
theorem d_D_init_19 : decode b_D_init 19 = .ok (.new 22, 3) := by decide +kernel
theorem d_D_init_22 : decode b_D_init 22 = .ok (.dup, 1) := by decide +kernel
theorem d_D_init_23 : decode b_D_init 23 = .ok (.invokespecial 24, 3) := by decide +kernel
theorem d_D_init_26 : decode b_D_init 26 = .ok (.putfield 25, 3) := by decide +kernel
theorem d_D_init_29 : decode b_D_init 29 = .ok (.aload_n 0, 1) := by decide +kernel
theorem d_D_init_30 : decode b_D_init 30 = .ok (.bipush 8, 2) := by decide +kernel
theorem d_D_init_32 : decode b_D_init 32 = .ok (.anewarray 29, 3) := by decide +kernel
theorem d_D_init_35 : decode b_D_init 35 = .ok (.putfield 31, 3) := by decide +kernel
theorem d_D_init_38 : decode b_D_init 38 = .ok (.iconst 0, 1) := by decide +kernel
theorem d_D_init_39 : decode b_D_init 39 = .ok (.istore_n 2, 1) := by decide +kernel
theorem d_D_init_40 : decode b_D_init 40 = .ok (.iload_n 2, 1) := by decide +kernel
theorem d_D_init_41 : decode b_D_init 41 = .ok (.bipush 8, 2) := by decide +kernel
theorem d_D_init_43 : decode b_D_init 43 = .ok (.if_icmp .ge 22, 3) := by decide +kernel
theorem d_D_init_46 : decode b_D_init 46 = .ok (.aload_n 0, 1) := by decide +kernel
theorem d_D_init_47 : decode b_D_init 47 = .ok (.getfield 31, 3) := by decide +kernel
theorem d_D_init_50 : decode b_D_init 50 = .ok (.iload_n 2, 1) := by decide +kernel
theorem d_D_init_51 : decode b_D_init 51 = .ok (.new 29, 3) := by decide +kernel
theorem d_D_init_54 : decode b_D_init 54 = .ok (.dup, 1) := by decide +kernel
theorem d_D_init_55 : decode b_D_init 55 = .ok (.invokespecial 35, 3) := by decide +kernel
theorem d_D_init_58 : decode b_D_init 58 = .ok (.aastore, 1) := by decide +kernel
theorem d_D_init_59 : decode b_D_init 59 = .ok (.iinc 2 1, 3) := by decide +kernel
theorem d_D_init_62 : decode b_D_init 62 = .ok (.goto (-22), 3) := by decide +kernel
theorem d_D_init_65 : decode b_D_init 65 = .ok (.return_, 1) := by decide +kernel
theorem d_N_init_0 : decode b_N_init 0 = .ok (.aload_n 0, 1) := by decide +kernel
theorem d_N_init_1 : decode b_N_init 1 = .ok (.invokespecial 3, 3) := by decide +kernel
theorem d_N_init_4 : decode b_N_init 4 = .ok (.aload_n 0, 1) := by decide +kernel
theorem d_N_init_5 : decode b_N_init 5 = .ok (.sipush 1000, 3) := by decide +kernel
theorem d_N_init_8 : decode b_N_init 8 = .ok (.putfield 9, 3) := by decide +kernel
theorem d_N_init_11 : decode b_N_init 11 = .ok (.return_, 1) := by decide +kernel
theorem d_G_init_0 : decode b_G_init 0 = .ok (.aload_n 0, 1) := by decide +kernel
theorem d_G_init_1 : decode b_G_init 1 = .ok (.invokespecial 3, 3) := by decide +kernel
theorem d_G_init_4 : decode b_G_init 4 = .ok (.aload_n 0, 1) := by decide +kernel
theorem d_G_init_5 : decode b_G_init 5 = .ok (.iconst 0, 1) := by decide +kernel
theorem d_G_init_6 : decode b_G_init 6 = .ok (.putfield 9, 3) := by decide +kernel
theorem d_G_init_9 : decode b_G_init 9 = .ok (.aload_n 0, 1) := by decide +kernel
theorem d_G_init_10 : decode b_G_init 10 = .ok (.bipush 8, 2) := by decide +kernel
theorem d_G_init_12 : decode b_G_init 12 = .ok (.newarray .int, 2) := by decide +kernel
theorem d_G_init_14 : decode b_G_init 14 = .ok (.putfield 15, 3) := by decide +kernel
theorem d_G_init_17 : decode b_G_init 17 = .ok (.aload_n 0, 1) := by decide +kernel
theorem d_G_init_18 : decode b_G_init 18 = .ok (.bipush 8, 2) := by decide +kernel
theorem d_G_init_20 : decode b_G_init 20 = .ok (.newarray .long, 2) := by decide +kernel
theorem d_G_init_22 : decode b_G_init 22 = .ok (.putfield 19, 3) := by decide +kernel
theorem d_G_init_25 : decode b_G_init 25 = .ok (.aload_n 0, 1) := by decide +kernel
theorem d_G_init_26 : decode b_G_init 26 = .ok (.getfield 19, 3) := by decide +kernel
theorem d_G_init_29 : decode b_G_init 29 = .ok (.ldc2_w 23, 3) := by decide +kernel
theorem d_G_init_32 : decode b_G_init 32 = .ok (.invokestatic 25, 3) := by decide +kernel
theorem d_G_init_35 : decode b_G_init 35 = .ok (.return_, 1) := by decide +kernel
theorem d_JA_fillL_0 : decode b_JA_fillL 0 = .ok (.iconst 0, 1) := by decide +kernel
theorem d_JA_fillL_1 : decode b_JA_fillL 1 = .ok (.istore_n 3, 1) := by decide +kernel
theorem d_JA_fillL_2 : decode b_JA_fillL 2 = .ok (.aload_n 0, 1) := by decide +kernel
theorem d_JA_fillL_3 : decode b_JA_fillL 3 = .ok (.arraylength, 1) := by decide +kernel
theorem d_JA_fillL_4 : decode b_JA_fillL 4 = .ok (.istore 4, 2) := by decide +kernel
theorem d_JA_fillL_6 : decode b_JA_fillL 6 = .ok (.iload_n 3, 1) := by decide +kernel
theorem d_JA_fillL_7 : decode b_JA_fillL 7 = .ok (.iload 4, 2) := by decide +kernel
theorem d_JA_fillL_9 : decode b_JA_fillL 9 = .ok (.if_icmp .ge 13, 3) := by decide +kernel
theorem d_JA_fillL_12 : decode b_JA_fillL 12 = .ok (.aload_n 0, 1) := by decide +kernel
theorem d_JA_fillL_13 : decode b_JA_fillL 13 = .ok (.iload_n 3, 1) := by decide +kernel
theorem d_JA_fillL_14 : decode b_JA_fillL 14 = .ok (.lload_n 1, 1) := by decide +kernel
theorem d_JA_fillL_15 : decode b_JA_fillL 15 = .ok (.lastore, 1) := by decide +kernel
theorem d_JA_fillL_16 : decode b_JA_fillL 16 = .ok (.iinc 3 1, 3) := by decide +kernel
theorem d_JA_fillL_19 : decode b_JA_fillL 19 = .ok (.goto (-13), 3) := by decide +kernel
theorem d_JA_fillL_22 : decode b_JA_fillL 22 = .ok (.return_, 1) := by decide +kernel
theorem d_D_restart_0 : decode b_D_restart 0 = .ok (.iconst 0, 1) := by decide +kernel
theorem d_D_restart_1 : decode b_D_restart 1 = .ok (.istore_n 1, 1) := by decide +kernel
theorem d_D_restart_2 : decode b_D_restart 2 = .ok (.iconst 0, 1) := by decide +kernel
theorem d_D_restart_3 : decode b_D_restart 3 = .ok (.istore_n 2, 1) := by decide +kernel
theorem d_D_restart_4 : decode b_D_restart 4 = .ok (.iload_n 2, 1) := by decide +kernel
theorem d_D_restart_5 : decode b_D_restart 5 = .ok (.bipush 8, 2) := by decide +kernel
theorem d_D_restart_7 : decode b_D_restart 7 = .ok (.if_icmp .ge 33, 3) := by decide +kernel
theorem d_D_restart_10 : decode b_D_restart 10 = .ok (.iload_n 1, 1) := by decide +kernel
theorem d_D_restart_11 : decode b_D_restart 11 = .ok (.aload_n 0, 1) := by decide +kernel
theorem d_D_restart_12 : decode b_D_restart 12 = .ok (.getfield 31, 3) := by decide +kernel
theorem d_D_restart_15 : decode b_D_restart 15 = .ok (.iload_n 2, 1) := by decide +kernel
theorem d_D_restart_16 : decode b_D_restart 16 = .ok (.aaload, 1) := by decide +kernel
theorem d_D_restart_17 : decode b_D_restart 17 = .ok (.getfield 97, 3) := by decide +kernel
theorem d_D_restart_20 : decode b_D_restart 20 = .ok (.invokestatic 119, 3) := by decide +kernel
theorem d_D_restart_23 : decode b_D_restart 23 = .ok (.iadd, 1) := by decide +kernel
theorem d_D_restart_24 : decode b_D_restart 24 = .ok (.istore_n 1, 1) := by decide +kernel
theorem d_D_restart_25 : decode b_D_restart 25 = .ok (.aload_n 0, 1) := by decide +kernel
theorem d_D_restart_26 : decode b_D_restart 26 = .ok (.getfield 31, 3) := by decide +kernel
theorem d_D_restart_29 : decode b_D_restart 29 = .ok (.iload_n 2, 1) := by decide +kernel
theorem d_D_restart_30 : decode b_D_restart 30 = .ok (.aaload, 1) := by decide +kernel
theorem d_D_restart_31 : decode b_D_restart 31 = .ok (.invokevirtual 124, 3) := by decide +kernel
theorem d_D_restart_34 : decode b_D_restart 34 = .ok (.iinc 2 1, 3) := by decide +kernel
theorem d_D_restart_37 : decode b_D_restart 37 = .ok (.goto (-33), 3) := by decide +kernel
theorem d_D_restart_40 : decode b_D_restart 40 = .ok (.iload_n 1, 1) := by decide +kernel
theorem d_D_restart_41 : decode b_D_restart 41 = .ok (.ireturn, 1) := by decide +kernel
theorem d_JI_bitCount_0 : decode b_JI_bitCount 0 = .ok (.iload_n 0, 1) := by decide +kernel
theorem d_JI_bitCount_1 : decode b_JI_bitCount 1 = .ok (.iload_n 0, 1) := by decide +kernel
theorem d_JI_bitCount_2 : decode b_JI_bitCount 2 = .ok (.iconst 1, 1) := by decide +kernel
theorem d_JI_bitCount_3 : decode b_JI_bitCount 3 = .ok (.iushr, 1) := by decide +kernel
theorem d_JI_bitCount_4 : decode b_JI_bitCount 4 = .ok (.ldc_w 265, 3) := by decide +kernel
theorem d_JI_bitCount_7 : decode b_JI_bitCount 7 = .ok (.iand, 1) := by decide +kernel
theorem d_JI_bitCount_8 : decode b_JI_bitCount 8 = .ok (.isub, 1) := by decide +kernel
theorem d_JI_bitCount_9 : decode b_JI_bitCount 9 = .ok (.istore_n 0, 1) := by decide +kernel
theorem d_JI_bitCount_10 : decode b_JI_bitCount 10 = .ok (.iload_n 0, 1) := by decide +kernel
theorem d_JI_bitCount_11 : decode b_JI_bitCount 11 = .ok (.ldc_w 266, 3) := by decide +kernel
theorem d_JI_bitCount_14 : decode b_JI_bitCount 14 = .ok (.iand, 1) := by decide +kernel
theorem d_JI_bitCount_15 : decode b_JI_bitCount 15 = .ok (.iload_n 0, 1) := by decide +kernel
theorem d_JI_bitCount_16 : decode b_JI_bitCount 16 = .ok (.iconst 2, 1) := by decide +kernel
theorem d_JI_bitCount_17 : decode b_JI_bitCount 17 = .ok (.iushr, 1) := by decide +kernel
theorem d_JI_bitCount_18 : decode b_JI_bitCount 18 = .ok (.ldc_w 266, 3) := by decide +kernel
theorem d_JI_bitCount_21 : decode b_JI_bitCount 21 = .ok (.iand, 1) := by decide +kernel
theorem d_JI_bitCount_22 : decode b_JI_bitCount 22 = .ok (.iadd, 1) := by decide +kernel
theorem d_JI_bitCount_23 : decode b_JI_bitCount 23 = .ok (.istore_n 0, 1) := by decide +kernel
theorem d_JI_bitCount_24 : decode b_JI_bitCount 24 = .ok (.iload_n 0, 1) := by decide +kernel
theorem d_JI_bitCount_25 : decode b_JI_bitCount 25 = .ok (.iload_n 0, 1) := by decide +kernel
theorem d_JI_bitCount_26 : decode b_JI_bitCount 26 = .ok (.iconst 4, 1) := by decide +kernel
theorem d_JI_bitCount_27 : decode b_JI_bitCount 27 = .ok (.iushr, 1) := by decide +kernel
theorem d_JI_bitCount_28 : decode b_JI_bitCount 28 = .ok (.iadd, 1) := by decide +kernel
theorem d_JI_bitCount_29 : decode b_JI_bitCount 29 = .ok (.ldc_w 267, 3) := by decide +kernel
theorem d_JI_bitCount_32 : decode b_JI_bitCount 32 = .ok (.iand, 1) := by decide +kernel
theorem d_JI_bitCount_33 : decode b_JI_bitCount 33 = .ok (.istore_n 0, 1) := by decide +kernel
theorem d_JI_bitCount_34 : decode b_JI_bitCount 34 = .ok (.iload_n 0, 1) := by decide +kernel
theorem d_JI_bitCount_35 : decode b_JI_bitCount 35 = .ok (.iload_n 0, 1) := by decide +kernel
theorem d_JI_bitCount_36 : decode b_JI_bitCount 36 = .ok (.bipush 8, 2) := by decide +kernel
theorem d_JI_bitCount_38 : decode b_JI_bitCount 38 = .ok (.iushr, 1) := by decide +kernel
theorem d_JI_bitCount_39 : decode b_JI_bitCount 39 = .ok (.iadd, 1) := by decide +kernel
theorem d_JI_bitCount_40 : decode b_JI_bitCount 40 = .ok (.istore_n 0, 1) := by decide +kernel
theorem d_JI_bitCount_41 : decode b_JI_bitCount 41 = .ok (.iload_n 0, 1) := by decide +kernel
theorem d_JI_bitCount_42 : decode b_JI_bitCount 42 = .ok (.iload_n 0, 1) := by decide +kernel
theorem d_JI_bitCount_43 : decode b_JI_bitCount 43 = .ok (.bipush 16, 2) := by decide +kernel
theorem d_JI_bitCount_45 : decode b_JI_bitCount 45 = .ok (.iushr, 1) := by decide +kernel
theorem d_JI_bitCount_46 : decode b_JI_bitCount 46 = .ok (.iadd, 1) := by decide +kernel
theorem d_JI_bitCount_47 : decode b_JI_bitCount 47 = .ok (.istore_n 0, 1) := by decide +kernel
theorem d_JI_bitCount_48 : decode b_JI_bitCount 48 = .ok (.iload_n 0, 1) := by decide +kernel
theorem d_JI_bitCount_49 : decode b_JI_bitCount 49 = .ok (.bipush 63, 2) := by decide +kernel
theorem d_JI_bitCount_51 : decode b_JI_bitCount 51 = .ok (.iand, 1) := by decide +kernel
theorem d_JI_bitCount_52 : decode b_JI_bitCount 52 = .ok (.ireturn, 1) := by decide +kernel
theorem d_G_clear_0 : decode b_G_clear 0 = .ok (.aload_n 0, 1) := by decide +kernel
theorem d_G_clear_1 : decode b_G_clear 1 = .ok (.iconst 0, 1) := by decide +kernel
theorem d_G_clear_2 : decode b_G_clear 2 = .ok (.putfield 9, 3) := by decide +kernel
theorem d_G_clear_5 : decode b_G_clear 5 = .ok (.aload_n 0, 1) := by decide +kernel
theorem d_G_clear_6 : decode b_G_clear 6 = .ok (.iconst 0, 1) := by decide +kernel
theorem d_G_clear_7 : decode b_G_clear 7 = .ok (.putfield 31, 3) := by decide +kernel
theorem d_G_clear_10 : decode b_G_clear 10 = .ok (.aload_n 0, 1) := by decide +kernel
theorem d_G_clear_11 : decode b_G_clear 11 = .ok (.iconst 0, 1) := by decide +kernel
theorem d_G_clear_12 : decode b_G_clear 12 = .ok (.putfield 34, 3) := by decide +kernel
theorem d_G_clear_15 : decode b_G_clear 15 = .ok (.return_, 1) := by decide +kernel
theorem d_D_notes_0 : decode b_D_notes 0 = .ok (.aload_n 0, 1) := by decide +kernel
theorem d_D_notes_1 : decode b_D_notes 1 = .ok (.getfield 25, 3) := by decide +kernel
theorem d_D_notes_4 : decode b_D_notes 4 = .ok (.getfield 135, 3) := by decide +kernel
theorem d_D_notes_7 : decode b_D_notes 7 = .ok (.ireturn, 1) := by decide +kernel
theorem d_D_join_0 : decode b_D_join 0 = .ok (.aload_n 0, 1) := by decide +kernel
theorem d_D_join_1 : decode b_D_join 1 = .ok (.iload_n 1, 1) := by decide +kernel
theorem d_D_join_2 : decode b_D_join 2 = .ok (.invokevirtual 36, 3) := by decide +kernel
theorem d_D_join_5 : decode b_D_join 5 = .ok (.astore_n 3, 1) := by decide +kernel
theorem d_D_join_6 : decode b_D_join 6 = .ok (.aload_n 0, 1) := by decide +kernel
theorem d_D_join_7 : decode b_D_join 7 = .ok (.iload_n 2, 1) := by decide +kernel
theorem d_D_join_8 : decode b_D_join 8 = .ok (.invokevirtual 40, 3) := by decide +kernel
theorem d_D_join_11 : decode b_D_join 11 = .ok (.aload_n 3, 1) := by decide +kernel
theorem d_D_join_12 : decode b_D_join 12 = .ok (.iload_n 2, 1) := by decide +kernel
theorem d_D_join_13 : decode b_D_join 13 = .ok (.aload_n 0, 1) := by decide +kernel
theorem d_D_join_14 : decode b_D_join 14 = .ok (.getfield 44, 3) := by decide +kernel
theorem d_D_join_17 : decode b_D_join 17 = .ok (.invokevirtual 47, 3) := by decide +kernel
theorem d_D_join_20 : decode b_D_join 20 = .ok (.aload_n 3, 1) := by decide +kernel
theorem d_D_join_21 : decode b_D_join 21 = .ok (.aload_n 0, 1) := by decide +kernel
theorem d_D_join_22 : decode b_D_join 22 = .ok (.getfield 44, 3) := by decide +kernel
theorem d_D_join_25 : decode b_D_join 25 = .ok (.aload_n 0, 1) := by decide +kernel
theorem d_D_join_26 : decode b_D_join 26 = .ok (.getfield 25, 3) := by decide +kernel
theorem d_D_join_29 : decode b_D_join 29 = .ok (.invokevirtual 51, 3) := by decide +kernel
theorem d_D_join_32 : decode b_D_join 32 = .ok (.aload_n 3, 1) := by decide +kernel
theorem d_D_join_33 : decode b_D_join 33 = .ok (.getfield 55, 3) := by decide +kernel
theorem d_D_join_36 : decode b_D_join 36 = .ok (.iconst 2, 1) := by decide +kernel
theorem d_D_join_37 : decode b_D_join 37 = .ok (.if_icmp .ne 10, 3) := by decide +kernel
theorem d_D_join_40 : decode b_D_join 40 = .ok (.aload_n 3, 1) := by decide +kernel
theorem d_D_join_41 : decode b_D_join 41 = .ok (.getfield 58, 3) := by decide +kernel
theorem d_D_join_44 : decode b_D_join 44 = .ok (.goto 4, 3) := by decide +kernel
theorem d_D_join_47 : decode b_D_join 47 = .ok (.iconst (-1), 1) := by decide +kernel
theorem d_D_join_48 : decode b_D_join 48 = .ok (.ireturn, 1) := by decide +kernel
theorem d_D_groupAt_0 : decode b_D_groupAt 0 = .ok (.iload_n 1, 1) := by decide +kernel
theorem d_D_groupAt_1 : decode b_D_groupAt 1 = .ok (.ifCond .lt 9, 3) := by decide +kernel
theorem d_D_groupAt_4 : decode b_D_groupAt 4 = .ok (.iload_n 1, 1) := by decide +kernel
theorem d_D_groupAt_5 : decode b_D_groupAt 5 = .ok (.bipush 8, 2) := by decide +kernel
theorem d_D_groupAt_7 : decode b_D_groupAt 7 = .ok (.if_icmp .lt 13, 3) := by decide +kernel
theorem d_D_groupAt_10 : decode b_D_groupAt 10 = .ok (.new 78, 3) := by decide +kernel
theorem d_D_groupAt_13 : decode b_D_groupAt 13 = .ok (.dup, 1) := by decide +kernel
theorem d_D_groupAt_14 : decode b_D_groupAt 14 = .ok (.ldc 141, 2) := by decide +kernel
theorem d_D_groupAt_16 : decode b_D_groupAt 16 = .ok (.invokespecial 82, 3) := by decide +kernel
theorem d_D_groupAt_19 : decode b_D_groupAt 19 = .ok (.athrow, 1) := by decide +kernel
theorem d_D_groupAt_20 : decode b_D_groupAt 20 = .ok (.aload_n 0, 1) := by decide +kernel
theorem d_D_groupAt_21 : decode b_D_groupAt 21 = .ok (.getfield 31, 3) := by decide +kernel
theorem d_D_groupAt_24 : decode b_D_groupAt 24 = .ok (.iload_n 1, 1) := by decide +kernel
theorem d_D_groupAt_25 : decode b_D_groupAt 25 = .ok (.aaload, 1) := by decide +kernel
theorem d_D_groupAt_26 : decode b_D_groupAt 26 = .ok (.areturn, 1) := by decide +kernel
theorem d_D_checkMember_0 : decode b_D_checkMember 0 = .ok (.iload_n 1, 1) := by decide +kernel
theorem d_D_checkMember_1 : decode b_D_checkMember 1 = .ok (.ifCond .lt 9, 3) := by decide +kernel
theorem d_D_checkMember_4 : decode b_D_checkMember 4 = .ok (.iload_n 1, 1) := by decide +kernel
theorem d_D_checkMember_5 : decode b_D_checkMember 5 = .ok (.bipush 8, 2) := by decide +kernel
theorem d_D_checkMember_7 : decode b_D_checkMember 7 = .ok (.if_icmp .lt 13, 3) := by decide +kernel
theorem d_D_checkMember_10 : decode b_D_checkMember 10 = .ok (.new 78, 3) := by decide +kernel
theorem d_D_checkMember_13 : decode b_D_checkMember 13 = .ok (.dup, 1) := by decide +kernel
theorem d_D_checkMember_14 : decode b_D_checkMember 14 = .ok (.ldc 143, 2) := by decide +kernel
theorem d_D_checkMember_16 : decode b_D_checkMember 16 = .ok (.invokespecial 82, 3) := by decide +kernel
theorem d_D_checkMember_19 : decode b_D_checkMember 19 = .ok (.athrow, 1) := by decide +kernel
theorem d_D_checkMember_20 : decode b_D_checkMember 20 = .ok (.return_, 1) := by decide +kernel
theorem d_G_takeIn_0 : decode b_G_takeIn 0 = .ok (.aload_n 0, 1) := by decide +kernel
theorem d_G_takeIn_1 : decode b_G_takeIn 1 = .ok (.getfield 9, 3) := by decide +kernel
theorem d_G_takeIn_4 : decode b_G_takeIn 4 = .ok (.iconst 1, 1) := by decide +kernel
theorem d_G_takeIn_5 : decode b_G_takeIn 5 = .ok (.if_icmp .eq 8, 3) := by decide +kernel
theorem d_G_takeIn_8 : decode b_G_takeIn 8 = .ok (.aload_n 0, 1) := by decide +kernel
theorem d_G_takeIn_9 : decode b_G_takeIn 9 = .ok (.iload_n 2, 1) := by decide +kernel
theorem d_G_takeIn_10 : decode b_G_takeIn 10 = .ok (.invokevirtual 40, 3) := by decide +kernel
theorem d_G_takeIn_13 : decode b_G_takeIn 13 = .ok (.aload_n 0, 1) := by decide +kernel
theorem d_G_takeIn_14 : decode b_G_takeIn 14 = .ok (.dup, 1) := by decide +kernel
theorem d_G_takeIn_15 : decode b_G_takeIn 15 = .ok (.getfield 31, 3) := by decide +kernel
theorem d_G_takeIn_18 : decode b_G_takeIn 18 = .ok (.iconst 1, 1) := by decide +kernel
theorem d_G_takeIn_19 : decode b_G_takeIn 19 = .ok (.iload_n 1, 1) := by decide +kernel
theorem d_G_takeIn_20 : decode b_G_takeIn 20 = .ok (.ishl, 1) := by decide +kernel
theorem d_G_takeIn_21 : decode b_G_takeIn 21 = .ok (.ior, 1) := by decide +kernel
theorem d_G_takeIn_22 : decode b_G_takeIn 22 = .ok (.putfield 31, 3) := by decide +kernel
theorem d_G_takeIn_25 : decode b_G_takeIn 25 = .ok (.aload_n 0, 1) := by decide +kernel
theorem d_G_takeIn_26 : decode b_G_takeIn 26 = .ok (.dup, 1) := by decide +kernel
theorem d_G_takeIn_27 : decode b_G_takeIn 27 = .ok (.getfield 34, 3) := by decide +kernel
theorem d_G_takeIn_30 : decode b_G_takeIn 30 = .ok (.iconst 1, 1) := by decide +kernel
theorem d_G_takeIn_31 : decode b_G_takeIn 31 = .ok (.iload_n 1, 1) := by decide +kernel
theorem d_G_takeIn_32 : decode b_G_takeIn 32 = .ok (.ishl, 1) := by decide +kernel
theorem d_G_takeIn_33 : decode b_G_takeIn 33 = .ok (.ior, 1) := by decide +kernel
theorem d_G_takeIn_34 : decode b_G_takeIn 34 = .ok (.putfield 34, 3) := by decide +kernel
theorem d_G_takeIn_37 : decode b_G_takeIn 37 = .ok (.aload_n 0, 1) := by decide +kernel
theorem d_G_takeIn_38 : decode b_G_takeIn 38 = .ok (.getfield 15, 3) := by decide +kernel
theorem d_G_takeIn_41 : decode b_G_takeIn 41 = .ok (.iload_n 1, 1) := by decide +kernel
theorem d_G_takeIn_42 : decode b_G_takeIn 42 = .ok (.iload_n 2, 1) := by decide +kernel
theorem d_G_takeIn_43 : decode b_G_takeIn 43 = .ok (.iastore, 1) := by decide +kernel
theorem d_G_takeIn_44 : decode b_G_takeIn 44 = .ok (.return_, 1) := by decide +kernel
theorem d_G_mix_0 : decode b_G_mix 0 = .ok (.aload_n 0, 1) := by decide +kernel
theorem d_G_mix_1 : decode b_G_mix 1 = .ok (.iconst 1, 1) := by decide +kernel
theorem d_G_mix_2 : decode b_G_mix 2 = .ok (.putfield 9, 3) := by decide +kernel
theorem d_G_mix_5 : decode b_G_mix 5 = .ok (.aload_n 0, 1) := by decide +kernel
theorem d_G_mix_6 : decode b_G_mix 6 = .ok (.iconst 0, 1) := by decide +kernel
theorem d_G_mix_7 : decode b_G_mix 7 = .ok (.putfield 34, 3) := by decide +kernel
theorem d_G_mix_10 : decode b_G_mix 10 = .ok (.aload_n 0, 1) := by decide +kernel
theorem d_G_mix_11 : decode b_G_mix 11 = .ok (.iload_n 1, 1) := by decide +kernel
theorem d_G_mix_12 : decode b_G_mix 12 = .ok (.bipush 20, 2) := by decide +kernel
theorem d_G_mix_14 : decode b_G_mix 14 = .ok (.iadd, 1) := by decide +kernel
theorem d_G_mix_15 : decode b_G_mix 15 = .ok (.putfield 37, 3) := by decide +kernel
theorem d_G_mix_18 : decode b_G_mix 18 = .ok (.return_, 1) := by decide +kernel
theorem d_G_finishMixing_0 : decode b_G_finishMixing 0 = .ok (.aload_n 0, 1) := by decide +kernel
theorem d_G_finishMixing_1 : decode b_G_finishMixing 1 = .ok (.getfield 9, 3) := by decide +kernel
theorem d_G_finishMixing_4 : decode b_G_finishMixing 4 = .ok (.iconst 1, 1) := by decide +kernel
theorem d_G_finishMixing_5 : decode b_G_finishMixing 5 = .ok (.if_icmp .ne 22, 3) := by decide +kernel
theorem d_G_finishMixing_8 : decode b_G_finishMixing 8 = .ok (.aload_n 0, 1) := by decide +kernel
theorem d_G_finishMixing_9 : decode b_G_finishMixing 9 = .ok (.getfield 34, 3) := by decide +kernel
theorem d_G_finishMixing_12 : decode b_G_finishMixing 12 = .ok (.aload_n 0, 1) := by decide +kernel
theorem d_G_finishMixing_13 : decode b_G_finishMixing 13 = .ok (.getfield 31, 3) := by decide +kernel
theorem d_G_finishMixing_16 : decode b_G_finishMixing 16 = .ok (.if_icmp .eq 12, 3) := by decide +kernel
theorem d_G_finishMixing_19 : decode b_G_finishMixing 19 = .ok (.iload_n 1, 1) := by decide +kernel
theorem d_G_finishMixing_20 : decode b_G_finishMixing 20 = .ok (.aload_n 0, 1) := by decide +kernel
theorem d_G_finishMixing_21 : decode b_G_finishMixing 21 = .ok (.getfield 37, 3) := by decide +kernel
theorem d_G_finishMixing_24 : decode b_G_finishMixing 24 = .ok (.if_icmp .ge 4, 3) := by decide +kernel
theorem d_G_finishMixing_27 : decode b_G_finishMixing 27 = .ok (.return_, 1) := by decide +kernel
theorem d_G_finishMixing_28 : decode b_G_finishMixing 28 = .ok (.aload_n 0, 1) := by decide +kernel
theorem d_G_finishMixing_29 : decode b_G_finishMixing 29 = .ok (.getfield 34, 3) := by decide +kernel
theorem d_G_finishMixing_32 : decode b_G_finishMixing 32 = .ok (.ifCond .ne 8, 3) := by decide +kernel
theorem d_G_finishMixing_35 : decode b_G_finishMixing 35 = .ok (.aload_n 0, 1) := by decide +kernel
theorem d_G_finishMixing_36 : decode b_G_finishMixing 36 = .ok (.invokevirtual 44, 3) := by decide +kernel
theorem d_G_finishMixing_39 : decode b_G_finishMixing 39 = .ok (.return_, 1) := by decide +kernel
theorem d_G_finishMixing_40 : decode b_G_finishMixing 40 = .ok (.aload_n 2, 1) := by decide +kernel
theorem d_G_finishMixing_41 : decode b_G_finishMixing 41 = .ok (.invokevirtual 55, 3) := by decide +kernel
theorem d_G_finishMixing_44 : decode b_G_finishMixing 44 = .ok (.ifCond .eq 8, 3) := by decide +kernel
theorem d_G_finishMixing_47 : decode b_G_finishMixing 47 = .ok (.aload_n 0, 1) := by decide +kernel
theorem d_G_finishMixing_48 : decode b_G_finishMixing 48 = .ok (.iload_n 1, 1) := by decide +kernel
theorem d_G_finishMixing_49 : decode b_G_finishMixing 49 = .ok (.invokevirtual 61, 3) := by decide +kernel
theorem d_G_finishMixing_52 : decode b_G_finishMixing 52 = .ok (.return_, 1) := by decide +kernel
theorem d_N_write_0 : decode b_N_write 0 = .ok (.aload_n 0, 1) := by decide +kernel
theorem d_N_write_1 : decode b_N_write 1 = .ok (.getfield 9, 3) := by decide +kernel
theorem d_N_write_4 : decode b_N_write 4 = .ok (.iconst 1, 1) := by decide +kernel
theorem d_N_write_5 : decode b_N_write 5 = .ok (.if_icmp .ge 5, 3) := by decide +kernel
theorem d_N_write_8 : decode b_N_write 8 = .ok (.iconst 0, 1) := by decide +kernel
theorem d_N_write_9 : decode b_N_write 9 = .ok (.ireturn, 1) := by decide +kernel
theorem d_N_write_10 : decode b_N_write 10 = .ok (.aload_n 0, 1) := by decide +kernel
theorem d_N_write_11 : decode b_N_write 11 = .ok (.dup, 1) := by decide +kernel
theorem d_N_write_12 : decode b_N_write 12 = .ok (.getfield 9, 3) := by decide +kernel
theorem d_N_write_15 : decode b_N_write 15 = .ok (.iconst 1, 1) := by decide +kernel
theorem d_N_write_16 : decode b_N_write 16 = .ok (.isub, 1) := by decide +kernel
theorem d_N_write_17 : decode b_N_write 17 = .ok (.putfield 9, 3) := by decide +kernel
theorem d_N_write_20 : decode b_N_write 20 = .ok (.aload_n 0, 1) := by decide +kernel
theorem d_N_write_21 : decode b_N_write 21 = .ok (.dup, 1) := by decide +kernel
theorem d_N_write_22 : decode b_N_write 22 = .ok (.getfield 15, 3) := by decide +kernel
theorem d_N_write_25 : decode b_N_write 25 = .ok (.iconst 1, 1) := by decide +kernel
theorem d_N_write_26 : decode b_N_write 26 = .ok (.iadd, 1) := by decide +kernel
theorem d_N_write_27 : decode b_N_write 27 = .ok (.putfield 15, 3) := by decide +kernel
theorem d_N_write_30 : decode b_N_write 30 = .ok (.iconst 1, 1) := by decide +kernel
theorem d_N_write_31 : decode b_N_write 31 = .ok (.ireturn, 1) := by decide +kernel
theorem d_G_settle_0 : decode b_G_settle 0 = .ok (.aload_n 0, 1) := by decide +kernel
theorem d_G_settle_1 : decode b_G_settle 1 = .ok (.dup, 1) := by decide +kernel
theorem d_G_settle_2 : decode b_G_settle 2 = .ok (.getfield 64, 3) := by decide +kernel
theorem d_G_settle_5 : decode b_G_settle 5 = .ok (.iconst 1, 1) := by decide +kernel
theorem d_G_settle_6 : decode b_G_settle 6 = .ok (.iadd, 1) := by decide +kernel
theorem d_G_settle_7 : decode b_G_settle 7 = .ok (.putfield 64, 3) := by decide +kernel
theorem d_G_settle_10 : decode b_G_settle 10 = .ok (.aload_n 0, 1) := by decide +kernel
theorem d_G_settle_11 : decode b_G_settle 11 = .ok (.iconst 2, 1) := by decide +kernel
theorem d_G_settle_12 : decode b_G_settle 12 = .ok (.putfield 9, 3) := by decide +kernel
theorem d_G_settle_15 : decode b_G_settle 15 = .ok (.aload_n 0, 1) := by decide +kernel
theorem d_G_settle_16 : decode b_G_settle 16 = .ok (.aload_n 0, 1) := by decide +kernel
theorem d_G_settle_17 : decode b_G_settle 17 = .ok (.getfield 34, 3) := by decide +kernel
theorem d_G_settle_20 : decode b_G_settle 20 = .ok (.putfield 31, 3) := by decide +kernel
theorem d_G_settle_23 : decode b_G_settle 23 = .ok (.aload_n 0, 1) := by decide +kernel
theorem d_G_settle_24 : decode b_G_settle 24 = .ok (.getfield 15, 3) := by decide +kernel
theorem d_G_settle_27 : decode b_G_settle 27 = .ok (.iload_n 1, 1) := by decide +kernel
theorem d_G_settle_28 : decode b_G_settle 28 = .ok (.invokestatic 67, 3) := by decide +kernel
theorem d_G_settle_31 : decode b_G_settle 31 = .ok (.return_, 1) := by decide +kernel
theorem d_JA_fillI_0 : decode b_JA_fillI 0 = .ok (.iconst 0, 1) := by decide +kernel
theorem d_JA_fillI_1 : decode b_JA_fillI 1 = .ok (.istore_n 2, 1) := by decide +kernel
theorem d_JA_fillI_2 : decode b_JA_fillI 2 = .ok (.aload_n 0, 1) := by decide +kernel
theorem d_JA_fillI_3 : decode b_JA_fillI 3 = .ok (.arraylength, 1) := by decide +kernel
theorem d_JA_fillI_4 : decode b_JA_fillI 4 = .ok (.istore_n 3, 1) := by decide +kernel
theorem d_JA_fillI_5 : decode b_JA_fillI 5 = .ok (.iload_n 2, 1) := by decide +kernel
theorem d_JA_fillI_6 : decode b_JA_fillI 6 = .ok (.iload_n 3, 1) := by decide +kernel
theorem d_JA_fillI_7 : decode b_JA_fillI 7 = .ok (.if_icmp .ge 13, 3) := by decide +kernel
theorem d_JA_fillI_10 : decode b_JA_fillI 10 = .ok (.aload_n 0, 1) := by decide +kernel
theorem d_JA_fillI_11 : decode b_JA_fillI 11 = .ok (.iload_n 2, 1) := by decide +kernel
theorem d_JA_fillI_12 : decode b_JA_fillI 12 = .ok (.iload_n 1, 1) := by decide +kernel
theorem d_JA_fillI_13 : decode b_JA_fillI 13 = .ok (.iastore, 1) := by decide +kernel
theorem d_JA_fillI_14 : decode b_JA_fillI 14 = .ok (.iinc 2 1, 3) := by decide +kernel
theorem d_JA_fillI_17 : decode b_JA_fillI 17 = .ok (.goto (-12), 3) := by decide +kernel
theorem d_JA_fillI_20 : decode b_JA_fillI 20 = .ok (.return_, 1) := by decide +kernel
theorem d_D_leave_0 : decode b_D_leave 0 = .ok (.aload_n 0, 1) := by decide +kernel
theorem d_D_leave_1 : decode b_D_leave 1 = .ok (.iload_n 1, 1) := by decide +kernel
theorem d_D_leave_2 : decode b_D_leave 2 = .ok (.invokevirtual 36, 3) := by decide +kernel
theorem d_D_leave_5 : decode b_D_leave 5 = .ok (.astore_n 3, 1) := by decide +kernel
theorem d_D_leave_6 : decode b_D_leave 6 = .ok (.aload_n 0, 1) := by decide +kernel
theorem d_D_leave_7 : decode b_D_leave 7 = .ok (.iload_n 2, 1) := by decide +kernel
theorem d_D_leave_8 : decode b_D_leave 8 = .ok (.invokevirtual 40, 3) := by decide +kernel
theorem d_D_leave_11 : decode b_D_leave 11 = .ok (.aload_n 3, 1) := by decide +kernel
theorem d_D_leave_12 : decode b_D_leave 12 = .ok (.iload_n 2, 1) := by decide +kernel
theorem d_D_leave_13 : decode b_D_leave 13 = .ok (.invokevirtual 61, 3) := by decide +kernel
theorem d_D_leave_16 : decode b_D_leave 16 = .ok (.ifCond .ne 6, 3) := by decide +kernel
theorem d_D_leave_19 : decode b_D_leave 19 = .ok (.bipush (-8), 2) := by decide +kernel
theorem d_D_leave_21 : decode b_D_leave 21 = .ok (.ireturn, 1) := by decide +kernel
theorem d_D_leave_22 : decode b_D_leave 22 = .ok (.aload_n 3, 1) := by decide +kernel
theorem d_D_leave_23 : decode b_D_leave 23 = .ok (.iconst 1, 1) := by decide +kernel
theorem d_D_leave_24 : decode b_D_leave 24 = .ok (.iload_n 2, 1) := by decide +kernel
theorem d_D_leave_25 : decode b_D_leave 25 = .ok (.ishl, 1) := by decide +kernel
theorem d_D_leave_26 : decode b_D_leave 26 = .ok (.aload_n 0, 1) := by decide +kernel
theorem d_D_leave_27 : decode b_D_leave 27 = .ok (.getfield 44, 3) := by decide +kernel
theorem d_D_leave_30 : decode b_D_leave 30 = .ok (.invokevirtual 65, 3) := by decide +kernel
theorem d_D_leave_33 : decode b_D_leave 33 = .ok (.aload_n 3, 1) := by decide +kernel
theorem d_D_leave_34 : decode b_D_leave 34 = .ok (.aload_n 0, 1) := by decide +kernel
theorem d_D_leave_35 : decode b_D_leave 35 = .ok (.getfield 44, 3) := by decide +kernel
theorem d_D_leave_38 : decode b_D_leave 38 = .ok (.aload_n 0, 1) := by decide +kernel
theorem d_D_leave_39 : decode b_D_leave 39 = .ok (.getfield 25, 3) := by decide +kernel
theorem d_D_leave_42 : decode b_D_leave 42 = .ok (.invokevirtual 51, 3) := by decide +kernel
theorem d_D_leave_45 : decode b_D_leave 45 = .ok (.iconst 1, 1) := by decide +kernel
theorem d_D_leave_46 : decode b_D_leave 46 = .ok (.ireturn, 1) := by decide +kernel
theorem d_G_has_0 : decode b_G_has 0 = .ok (.aload_n 0, 1) := by decide +kernel
theorem d_G_has_1 : decode b_G_has 1 = .ok (.getfield 31, 3) := by decide +kernel
theorem d_G_has_4 : decode b_G_has 4 = .ok (.iconst 1, 1) := by decide +kernel
theorem d_G_has_5 : decode b_G_has 5 = .ok (.iload_n 1, 1) := by decide +kernel
theorem d_G_has_6 : decode b_G_has 6 = .ok (.ishl, 1) := by decide +kernel
theorem d_G_has_7 : decode b_G_has 7 = .ok (.iand, 1) := by decide +kernel
theorem d_G_has_8 : decode b_G_has 8 = .ok (.ifCond .eq 7, 3) := by decide +kernel
theorem d_G_has_11 : decode b_G_has 11 = .ok (.iconst 1, 1) := by decide +kernel
theorem d_G_has_12 : decode b_G_has 12 = .ok (.goto 4, 3) := by decide +kernel
theorem d_G_has_15 : decode b_G_has 15 = .ok (.iconst 0, 1) := by decide +kernel
theorem d_G_has_16 : decode b_G_has 16 = .ok (.ireturn, 1) := by decide +kernel
theorem d_G_putOut_0 : decode b_G_putOut 0 = .ok (.aload_n 0, 1) := by decide +kernel
theorem d_G_putOut_1 : decode b_G_putOut 1 = .ok (.dup, 1) := by decide +kernel
theorem d_G_putOut_2 : decode b_G_putOut 2 = .ok (.getfield 31, 3) := by decide +kernel
theorem d_G_putOut_5 : decode b_G_putOut 5 = .ok (.iload_n 1, 1) := by decide +kernel
theorem d_G_putOut_6 : decode b_G_putOut 6 = .ok (.iconst (-1), 1) := by decide +kernel
theorem d_G_putOut_7 : decode b_G_putOut 7 = .ok (.ixor, 1) := by decide +kernel
theorem d_G_putOut_8 : decode b_G_putOut 8 = .ok (.iand, 1) := by decide +kernel
theorem d_G_putOut_9 : decode b_G_putOut 9 = .ok (.putfield 31, 3) := by decide +kernel
theorem d_G_putOut_12 : decode b_G_putOut 12 = .ok (.aload_n 0, 1) := by decide +kernel
theorem d_G_putOut_13 : decode b_G_putOut 13 = .ok (.dup, 1) := by decide +kernel
theorem d_G_putOut_14 : decode b_G_putOut 14 = .ok (.getfield 34, 3) := by decide +kernel
theorem d_G_putOut_17 : decode b_G_putOut 17 = .ok (.iload_n 1, 1) := by decide +kernel
theorem d_G_putOut_18 : decode b_G_putOut 18 = .ok (.iconst (-1), 1) := by decide +kernel
theorem d_G_putOut_19 : decode b_G_putOut 19 = .ok (.ixor, 1) := by decide +kernel
theorem d_G_putOut_20 : decode b_G_putOut 20 = .ok (.iand, 1) := by decide +kernel
theorem d_G_putOut_21 : decode b_G_putOut 21 = .ok (.putfield 34, 3) := by decide +kernel
theorem d_G_putOut_24 : decode b_G_putOut 24 = .ok (.aload_n 0, 1) := by decide +kernel
theorem d_G_putOut_25 : decode b_G_putOut 25 = .ok (.getfield 31, 3) := by decide +kernel
theorem d_G_putOut_28 : decode b_G_putOut 28 = .ok (.ifCond .ne 10, 3) := by decide +kernel
theorem d_G_putOut_31 : decode b_G_putOut 31 = .ok (.aload_n 0, 1) := by decide +kernel
theorem d_G_putOut_32 : decode b_G_putOut 32 = .ok (.invokevirtual 44, 3) := by decide +kernel
theorem d_G_putOut_35 : decode b_G_putOut 35 = .ok (.goto 16, 3) := by decide +kernel
theorem d_G_putOut_38 : decode b_G_putOut 38 = .ok (.aload_n 0, 1) := by decide +kernel
theorem d_G_putOut_39 : decode b_G_putOut 39 = .ok (.getfield 9, 3) := by decide +kernel
theorem d_G_putOut_42 : decode b_G_putOut 42 = .ok (.iconst 2, 1) := by decide +kernel
theorem d_G_putOut_43 : decode b_G_putOut 43 = .ok (.if_icmp .ne 8, 3) := by decide +kernel
theorem d_G_putOut_46 : decode b_G_putOut 46 = .ok (.aload_n 0, 1) := by decide +kernel
theorem d_G_putOut_47 : decode b_G_putOut 47 = .ok (.iload_n 2, 1) := by decide +kernel
theorem d_G_putOut_48 : decode b_G_putOut 48 = .ok (.invokevirtual 40, 3) := by decide +kernel
theorem d_G_putOut_51 : decode b_G_putOut 51 = .ok (.return_, 1) := by decide +kernel
theorem d_D_beat_0 : decode b_D_beat 0 = .ok (.aload_n 0, 1) := by decide +kernel
theorem d_D_beat_1 : decode b_D_beat 1 = .ok (.iload_n 1, 1) := by decide +kernel
theorem d_D_beat_2 : decode b_D_beat 2 = .ok (.invokevirtual 36, 3) := by decide +kernel
theorem d_D_beat_5 : decode b_D_beat 5 = .ok (.astore 4, 2) := by decide +kernel
theorem d_D_beat_7 : decode b_D_beat 7 = .ok (.aload_n 0, 1) := by decide +kernel
theorem d_D_beat_8 : decode b_D_beat 8 = .ok (.iload_n 2, 1) := by decide +kernel
theorem d_D_beat_9 : decode b_D_beat 9 = .ok (.invokevirtual 40, 3) := by decide +kernel
theorem d_D_beat_12 : decode b_D_beat 12 = .ok (.aload 4, 2) := by decide +kernel
theorem d_D_beat_14 : decode b_D_beat 14 = .ok (.iload_n 2, 1) := by decide +kernel
theorem d_D_beat_15 : decode b_D_beat 15 = .ok (.invokevirtual 61, 3) := by decide +kernel
theorem d_D_beat_18 : decode b_D_beat 18 = .ok (.ifCond .ne 6, 3) := by decide +kernel
theorem d_D_beat_21 : decode b_D_beat 21 = .ok (.bipush (-8), 2) := by decide +kernel
theorem d_D_beat_23 : decode b_D_beat 23 = .ok (.ireturn, 1) := by decide +kernel
theorem d_D_beat_24 : decode b_D_beat 24 = .ok (.iload_n 3, 1) := by decide +kernel
theorem d_D_beat_25 : decode b_D_beat 25 = .ok (.aload 4, 2) := by decide +kernel
theorem d_D_beat_27 : decode b_D_beat 27 = .ok (.getfield 58, 3) := by decide +kernel
theorem d_D_beat_30 : decode b_D_beat 30 = .ok (.if_icmp .eq 6, 3) := by decide +kernel
theorem d_D_beat_33 : decode b_D_beat 33 = .ok (.bipush (-9), 2) := by decide +kernel
theorem d_D_beat_35 : decode b_D_beat 35 = .ok (.ireturn, 1) := by decide +kernel
theorem d_D_beat_36 : decode b_D_beat 36 = .ok (.aload 4, 2) := by decide +kernel
theorem d_D_beat_38 : decode b_D_beat 38 = .ok (.getfield 68, 3) := by decide +kernel
theorem d_D_beat_41 : decode b_D_beat 41 = .ok (.iload_n 2, 1) := by decide +kernel
theorem d_D_beat_42 : decode b_D_beat 42 = .ok (.aload_n 0, 1) := by decide +kernel
theorem d_D_beat_43 : decode b_D_beat 43 = .ok (.getfield 44, 3) := by decide +kernel
theorem d_D_beat_46 : decode b_D_beat 46 = .ok (.iastore, 1) := by decide +kernel
theorem d_D_beat_47 : decode b_D_beat 47 = .ok (.aload 4, 2) := by decide +kernel
theorem d_D_beat_49 : decode b_D_beat 49 = .ok (.iload_n 2, 1) := by decide +kernel
theorem d_D_beat_50 : decode b_D_beat 50 = .ok (.invokevirtual 72, 3) := by decide +kernel
theorem d_D_beat_53 : decode b_D_beat 53 = .ok (.ifCond .eq 7, 3) := by decide +kernel
theorem d_D_beat_56 : decode b_D_beat 56 = .ok (.iconst 0, 1) := by decide +kernel
theorem d_D_beat_57 : decode b_D_beat 57 = .ok (.goto 4, 3) := by decide +kernel
theorem d_D_beat_60 : decode b_D_beat 60 = .ok (.iconst 1, 1) := by decide +kernel
theorem d_D_beat_61 : decode b_D_beat 61 = .ok (.ireturn, 1) := by decide +kernel
theorem d_G_hasJoined_0 : decode b_G_hasJoined 0 = .ok (.aload_n 0, 1) := by decide +kernel
theorem d_G_hasJoined_1 : decode b_G_hasJoined 1 = .ok (.getfield 34, 3) := by decide +kernel
theorem d_G_hasJoined_4 : decode b_G_hasJoined 4 = .ok (.iconst 1, 1) := by decide +kernel
theorem d_G_hasJoined_5 : decode b_G_hasJoined 5 = .ok (.iload_n 1, 1) := by decide +kernel
theorem d_G_hasJoined_6 : decode b_G_hasJoined 6 = .ok (.ishl, 1) := by decide +kernel
theorem d_G_hasJoined_7 : decode b_G_hasJoined 7 = .ok (.iand, 1) := by decide +kernel
theorem d_G_hasJoined_8 : decode b_G_hasJoined 8 = .ok (.ifCond .eq 7, 3) := by decide +kernel
theorem d_G_hasJoined_11 : decode b_G_hasJoined 11 = .ok (.iconst 1, 1) := by decide +kernel
theorem d_G_hasJoined_12 : decode b_G_hasJoined 12 = .ok (.goto 4, 3) := by decide +kernel
theorem d_G_hasJoined_15 : decode b_G_hasJoined 15 = .ok (.iconst 0, 1) := by decide +kernel
theorem d_G_hasJoined_16 : decode b_G_hasJoined 16 = .ok (.ireturn, 1) := by decide +kernel
theorem d_D_commit_0 : decode b_D_commit 0 = .ok (.aload_n 0, 1) := by decide +kernel
theorem d_D_commit_1 : decode b_D_commit 1 = .ok (.iload_n 1, 1) := by decide +kernel
theorem d_D_commit_2 : decode b_D_commit 2 = .ok (.invokevirtual 36, 3) := by decide +kernel
theorem d_D_commit_5 : decode b_D_commit 5 = .ok (.astore 7, 2) := by decide +kernel
theorem d_D_commit_7 : decode b_D_commit 7 = .ok (.aload_n 0, 1) := by decide +kernel
theorem d_D_commit_8 : decode b_D_commit 8 = .ok (.iload_n 2, 1) := by decide +kernel
theorem d_D_commit_9 : decode b_D_commit 9 = .ok (.invokevirtual 40, 3) := by decide +kernel
theorem d_D_commit_12 : decode b_D_commit 12 = .ok (.aload_n 0, 1) := by decide +kernel
theorem d_D_commit_13 : decode b_D_commit 13 = .ok (.iload 4, 2) := by decide +kernel
theorem d_D_commit_15 : decode b_D_commit 15 = .ok (.invokevirtual 75, 3) := by decide +kernel
theorem d_D_commit_18 : decode b_D_commit 18 = .ok (.lload 5, 2) := by decide +kernel
theorem d_D_commit_20 : decode b_D_commit 20 = .ok (.lconst 0, 1) := by decide +kernel
theorem d_D_commit_21 : decode b_D_commit 21 = .ok (.lcmp, 1) := by decide +kernel
theorem d_D_commit_22 : decode b_D_commit 22 = .ok (.ifCond .ge 13, 3) := by decide +kernel
theorem d_D_commit_25 : decode b_D_commit 25 = .ok (.new 78, 3) := by decide +kernel
theorem d_D_commit_28 : decode b_D_commit 28 = .ok (.dup, 1) := by decide +kernel
theorem d_D_commit_29 : decode b_D_commit 29 = .ok (.ldc 80, 2) := by decide +kernel
theorem d_D_commit_31 : decode b_D_commit 31 = .ok (.invokespecial 82, 3) := by decide +kernel
theorem d_D_commit_34 : decode b_D_commit 34 = .ok (.athrow, 1) := by decide +kernel
theorem d_D_commit_35 : decode b_D_commit 35 = .ok (.aload 7, 2) := by decide +kernel
theorem d_D_commit_37 : decode b_D_commit 37 = .ok (.iload_n 2, 1) := by decide +kernel
theorem d_D_commit_38 : decode b_D_commit 38 = .ok (.iload_n 3, 1) := by decide +kernel
theorem d_D_commit_39 : decode b_D_commit 39 = .ok (.iload 4, 2) := by decide +kernel
theorem d_D_commit_41 : decode b_D_commit 41 = .ok (.invokevirtual 85, 3) := by decide +kernel
theorem d_D_commit_44 : decode b_D_commit 44 = .ok (.istore 8, 2) := by decide +kernel
theorem d_D_commit_46 : decode b_D_commit 46 = .ok (.iload 8, 2) := by decide +kernel
theorem d_D_commit_48 : decode b_D_commit 48 = .ok (.ifCond .eq 6, 3) := by decide +kernel
theorem d_D_commit_51 : decode b_D_commit 51 = .ok (.iload 8, 2) := by decide +kernel
theorem d_D_commit_53 : decode b_D_commit 53 = .ok (.ireturn, 1) := by decide +kernel
theorem d_D_commit_54 : decode b_D_commit 54 = .ok (.aload_n 0, 1) := by decide +kernel
theorem d_D_commit_55 : decode b_D_commit 55 = .ok (.getfield 25, 3) := by decide +kernel
theorem d_D_commit_58 : decode b_D_commit 58 = .ok (.invokevirtual 89, 3) := by decide +kernel
theorem d_D_commit_61 : decode b_D_commit 61 = .ok (.ifCond .ne 6, 3) := by decide +kernel
theorem d_D_commit_64 : decode b_D_commit 64 = .ok (.bipush (-2), 2) := by decide +kernel
theorem d_D_commit_66 : decode b_D_commit 66 = .ok (.ireturn, 1) := by decide +kernel
theorem d_D_commit_67 : decode b_D_commit 67 = .ok (.aload 7, 2) := by decide +kernel
theorem d_D_commit_69 : decode b_D_commit 69 = .ok (.getfield 93, 3) := by decide +kernel
theorem d_D_commit_72 : decode b_D_commit 72 = .ok (.iload 4, 2) := by decide +kernel
theorem d_D_commit_74 : decode b_D_commit 74 = .ok (.lload 5, 2) := by decide +kernel
theorem d_D_commit_76 : decode b_D_commit 76 = .ok (.lastore, 1) := by decide +kernel
theorem d_D_commit_77 : decode b_D_commit 77 = .ok (.aload 7, 2) := by decide +kernel
theorem d_D_commit_79 : decode b_D_commit 79 = .ok (.getfield 68, 3) := by decide +kernel
theorem d_D_commit_82 : decode b_D_commit 82 = .ok (.iload_n 2, 1) := by decide +kernel
theorem d_D_commit_83 : decode b_D_commit 83 = .ok (.aload_n 0, 1) := by decide +kernel
theorem d_D_commit_84 : decode b_D_commit 84 = .ok (.getfield 44, 3) := by decide +kernel
theorem d_D_commit_87 : decode b_D_commit 87 = .ok (.iastore, 1) := by decide +kernel
theorem d_D_commit_88 : decode b_D_commit 88 = .ok (.iconst 0, 1) := by decide +kernel
theorem d_D_commit_89 : decode b_D_commit 89 = .ok (.ireturn, 1) := by decide +kernel
theorem d_D_checkLog_0 : decode b_D_checkLog 0 = .ok (.iload_n 1, 1) := by decide +kernel
theorem d_D_checkLog_1 : decode b_D_checkLog 1 = .ok (.ifCond .lt 11, 3) := by decide +kernel
theorem d_D_checkLog_4 : decode b_D_checkLog 4 = .ok (.iload_n 1, 1) := by decide +kernel
theorem d_D_checkLog_5 : decode b_D_checkLog 5 = .ok (.aload_n 0, 1) := by decide +kernel
theorem d_D_checkLog_6 : decode b_D_checkLog 6 = .ok (.getfield 18, 3) := by decide +kernel
theorem d_D_checkLog_9 : decode b_D_checkLog 9 = .ok (.if_icmp .lt 13, 3) := by decide +kernel
theorem d_D_checkLog_12 : decode b_D_checkLog 12 = .ok (.new 78, 3) := by decide +kernel
theorem d_D_checkLog_15 : decode b_D_checkLog 15 = .ok (.dup, 1) := by decide +kernel
theorem d_D_checkLog_16 : decode b_D_checkLog 16 = .ok (.ldc 145, 2) := by decide +kernel
theorem d_D_checkLog_18 : decode b_D_checkLog 18 = .ok (.invokespecial 82, 3) := by decide +kernel
theorem d_D_checkLog_21 : decode b_D_checkLog 21 = .ok (.athrow, 1) := by decide +kernel
theorem d_D_checkLog_22 : decode b_D_checkLog 22 = .ok (.return_, 1) := by decide +kernel
theorem d_G_refusalOf_0 : decode b_G_refusalOf 0 = .ok (.aload_n 0, 1) := by decide +kernel
theorem d_G_refusalOf_1 : decode b_G_refusalOf 1 = .ok (.iload_n 1, 1) := by decide +kernel
theorem d_G_refusalOf_2 : decode b_G_refusalOf 2 = .ok (.invokevirtual 47, 3) := by decide +kernel
theorem d_G_refusalOf_5 : decode b_G_refusalOf 5 = .ok (.ifCond .ne 6, 3) := by decide +kernel
theorem d_G_refusalOf_8 : decode b_G_refusalOf 8 = .ok (.bipush (-8), 2) := by decide +kernel
theorem d_G_refusalOf_10 : decode b_G_refusalOf 10 = .ok (.ireturn, 1) := by decide +kernel
theorem d_G_refusalOf_11 : decode b_G_refusalOf 11 = .ok (.iload_n 2, 1) := by decide +kernel
theorem d_G_refusalOf_12 : decode b_G_refusalOf 12 = .ok (.aload_n 0, 1) := by decide +kernel
theorem d_G_refusalOf_13 : decode b_G_refusalOf 13 = .ok (.getfield 64, 3) := by decide +kernel
theorem d_G_refusalOf_16 : decode b_G_refusalOf 16 = .ok (.if_icmp .eq 6, 3) := by decide +kernel
theorem d_G_refusalOf_19 : decode b_G_refusalOf 19 = .ok (.bipush (-9), 2) := by decide +kernel
theorem d_G_refusalOf_21 : decode b_G_refusalOf 21 = .ok (.ireturn, 1) := by decide +kernel
theorem d_G_refusalOf_22 : decode b_G_refusalOf 22 = .ok (.aload_n 0, 1) := by decide +kernel
theorem d_G_refusalOf_23 : decode b_G_refusalOf 23 = .ok (.getfield 9, 3) := by decide +kernel
theorem d_G_refusalOf_26 : decode b_G_refusalOf 26 = .ok (.iconst 2, 1) := by decide +kernel
theorem d_G_refusalOf_27 : decode b_G_refusalOf 27 = .ok (.if_icmp .eq 6, 3) := by decide +kernel
theorem d_G_refusalOf_30 : decode b_G_refusalOf 30 = .ok (.bipush (-10), 2) := by decide +kernel
theorem d_G_refusalOf_32 : decode b_G_refusalOf 32 = .ok (.ireturn, 1) := by decide +kernel
theorem d_G_refusalOf_33 : decode b_G_refusalOf 33 = .ok (.aload_n 0, 1) := by decide +kernel
theorem d_G_refusalOf_34 : decode b_G_refusalOf 34 = .ok (.iload_n 3, 1) := by decide +kernel
theorem d_G_refusalOf_35 : decode b_G_refusalOf 35 = .ok (.iload_n 1, 1) := by decide +kernel
theorem d_G_refusalOf_36 : decode b_G_refusalOf 36 = .ok (.invokevirtual 82, 3) := by decide +kernel
theorem d_G_refusalOf_39 : decode b_G_refusalOf 39 = .ok (.ifCond .eq 7, 3) := by decide +kernel
theorem d_G_refusalOf_42 : decode b_G_refusalOf 42 = .ok (.iconst 0, 1) := by decide +kernel
theorem d_G_refusalOf_43 : decode b_G_refusalOf 43 = .ok (.goto 5, 3) := by decide +kernel
theorem d_G_refusalOf_46 : decode b_G_refusalOf 46 = .ok (.bipush (-11), 2) := by decide +kernel
theorem d_G_refusalOf_48 : decode b_G_refusalOf 48 = .ok (.ireturn, 1) := by decide +kernel
theorem d_G_gives_0 : decode b_G_gives 0 = .ok (.aload_n 0, 1) := by decide +kernel
theorem d_G_gives_1 : decode b_G_gives 1 = .ok (.getfield 31, 3) := by decide +kernel
theorem d_G_gives_4 : decode b_G_gives 4 = .ok (.invokestatic 76, 3) := by decide +kernel
theorem d_G_gives_7 : decode b_G_gives 7 = .ok (.istore_n 3, 1) := by decide +kernel
theorem d_G_gives_8 : decode b_G_gives 8 = .ok (.aload_n 0, 1) := by decide +kernel
theorem d_G_gives_9 : decode b_G_gives 9 = .ok (.getfield 9, 3) := by decide +kernel
theorem d_G_gives_12 : decode b_G_gives 12 = .ok (.iconst 2, 1) := by decide +kernel
theorem d_G_gives_13 : decode b_G_gives 13 = .ok (.if_icmp .ne 15, 3) := by decide +kernel
theorem d_G_gives_16 : decode b_G_gives 16 = .ok (.aload_n 0, 1) := by decide +kernel
theorem d_G_gives_17 : decode b_G_gives 17 = .ok (.iload_n 2, 1) := by decide +kernel
theorem d_G_gives_18 : decode b_G_gives 18 = .ok (.invokevirtual 47, 3) := by decide +kernel
theorem d_G_gives_21 : decode b_G_gives 21 = .ok (.ifCond .eq 7, 3) := by decide +kernel
theorem d_G_gives_24 : decode b_G_gives 24 = .ok (.iload_n 3, 1) := by decide +kernel
theorem d_G_gives_25 : decode b_G_gives 25 = .ok (.ifCond .ne 5, 3) := by decide +kernel
theorem d_G_gives_28 : decode b_G_gives 28 = .ok (.iconst 0, 1) := by decide +kernel
theorem d_G_gives_29 : decode b_G_gives 29 = .ok (.ireturn, 1) := by decide +kernel
theorem d_G_gives_30 : decode b_G_gives 30 = .ok (.aload_n 0, 1) := by decide +kernel
theorem d_G_gives_31 : decode b_G_gives 31 = .ok (.getfield 31, 3) := by decide +kernel
theorem d_G_gives_34 : decode b_G_gives 34 = .ok (.iconst 1, 1) := by decide +kernel
theorem d_G_gives_35 : decode b_G_gives 35 = .ok (.iload_n 2, 1) := by decide +kernel
theorem d_G_gives_36 : decode b_G_gives 36 = .ok (.ishl, 1) := by decide +kernel
theorem d_G_gives_37 : decode b_G_gives 37 = .ok (.iconst 1, 1) := by decide +kernel
theorem d_G_gives_38 : decode b_G_gives 38 = .ok (.isub, 1) := by decide +kernel
theorem d_G_gives_39 : decode b_G_gives 39 = .ok (.iand, 1) := by decide +kernel
theorem d_G_gives_40 : decode b_G_gives 40 = .ok (.invokestatic 76, 3) := by decide +kernel
theorem d_G_gives_43 : decode b_G_gives 43 = .ok (.istore 4, 2) := by decide +kernel
theorem d_G_gives_45 : decode b_G_gives 45 = .ok (.iload_n 1, 1) := by decide +kernel
theorem d_G_gives_46 : decode b_G_gives 46 = .ok (.iload_n 3, 1) := by decide +kernel
theorem d_G_gives_47 : decode b_G_gives 47 = .ok (.irem, 1) := by decide +kernel
theorem d_G_gives_48 : decode b_G_gives 48 = .ok (.iload 4, 2) := by decide +kernel
theorem d_G_gives_50 : decode b_G_gives 50 = .ok (.if_icmp .ne 7, 3) := by decide +kernel
theorem d_G_gives_53 : decode b_G_gives 53 = .ok (.iconst 1, 1) := by decide +kernel
theorem d_G_gives_54 : decode b_G_gives 54 = .ok (.goto 4, 3) := by decide +kernel
theorem d_G_gives_57 : decode b_G_gives 57 = .ok (.iconst 0, 1) := by decide +kernel
theorem d_G_gives_58 : decode b_G_gives 58 = .ok (.ireturn, 1) := by decide +kernel
theorem d_D_committed_0 : decode b_D_committed 0 = .ok (.aload_n 0, 1) := by decide +kernel
theorem d_D_committed_1 : decode b_D_committed 1 = .ok (.iload_n 1, 1) := by decide +kernel
theorem d_D_committed_2 : decode b_D_committed 2 = .ok (.invokevirtual 36, 3) := by decide +kernel
theorem d_D_committed_5 : decode b_D_committed 5 = .ok (.astore_n 3, 1) := by decide +kernel
theorem d_D_committed_6 : decode b_D_committed 6 = .ok (.aload_n 0, 1) := by decide +kernel
theorem d_D_committed_7 : decode b_D_committed 7 = .ok (.iload_n 2, 1) := by decide +kernel
theorem d_D_committed_8 : decode b_D_committed 8 = .ok (.invokevirtual 75, 3) := by decide +kernel
theorem d_D_committed_11 : decode b_D_committed 11 = .ok (.aload_n 3, 1) := by decide +kernel
theorem d_D_committed_12 : decode b_D_committed 12 = .ok (.getfield 93, 3) := by decide +kernel
theorem d_D_committed_15 : decode b_D_committed 15 = .ok (.iload_n 2, 1) := by decide +kernel
theorem d_D_committed_16 : decode b_D_committed 16 = .ok (.laload, 1) := by decide +kernel
theorem d_D_committed_17 : decode b_D_committed 17 = .ok (.lreturn, 1) := by decide +kernel
theorem d_D_group_0 : decode b_D_group 0 = .ok (.aload_n 0, 1) := by decide +kernel
theorem d_D_group_1 : decode b_D_group 1 = .ok (.iload_n 1, 1) := by decide +kernel
theorem d_D_group_2 : decode b_D_group 2 = .ok (.invokevirtual 36, 3) := by decide +kernel
theorem d_D_group_5 : decode b_D_group 5 = .ok (.astore_n 3, 1) := by decide +kernel
theorem d_D_group_6 : decode b_D_group 6 = .ok (.iload_n 2, 1) := by decide +kernel
theorem d_D_group_7 : decode b_D_group 7 = .ok (.tableswitch 62 0 4 #[33, 38, 43, 48, 53], 33) := by decide +kernel
theorem d_D_group_40 : decode b_D_group 40 = .ok (.aload_n 3, 1) := by decide +kernel
theorem d_D_group_41 : decode b_D_group 41 = .ok (.getfield 58, 3) := by decide +kernel
theorem d_D_group_44 : decode b_D_group 44 = .ok (.ireturn, 1) := by decide +kernel
theorem d_D_group_45 : decode b_D_group 45 = .ok (.aload_n 3, 1) := by decide +kernel
theorem d_D_group_46 : decode b_D_group 46 = .ok (.getfield 55, 3) := by decide +kernel
theorem d_D_group_49 : decode b_D_group 49 = .ok (.ireturn, 1) := by decide +kernel
theorem d_D_group_50 : decode b_D_group 50 = .ok (.aload_n 3, 1) := by decide +kernel
theorem d_D_group_51 : decode b_D_group 51 = .ok (.getfield 97, 3) := by decide +kernel
theorem d_D_group_54 : decode b_D_group 54 = .ok (.ireturn, 1) := by decide +kernel
theorem d_D_group_55 : decode b_D_group 55 = .ok (.aload_n 3, 1) := by decide +kernel
theorem d_D_group_56 : decode b_D_group 56 = .ok (.getfield 100, 3) := by decide +kernel
theorem d_D_group_59 : decode b_D_group 59 = .ok (.ireturn, 1) := by decide +kernel
theorem d_D_group_60 : decode b_D_group 60 = .ok (.aload_n 3, 1) := by decide +kernel
theorem d_D_group_61 : decode b_D_group 61 = .ok (.aload_n 0, 1) := by decide +kernel
theorem d_D_group_62 : decode b_D_group 62 = .ok (.getfield 44, 3) := by decide +kernel
theorem d_D_group_65 : decode b_D_group 65 = .ok (.invokevirtual 103, 3) := by decide +kernel
theorem d_D_group_68 : decode b_D_group 68 = .ok (.ireturn, 1) := by decide +kernel
theorem d_D_group_69 : decode b_D_group 69 = .ok (.new 78, 3) := by decide +kernel
theorem d_D_group_72 : decode b_D_group 72 = .ok (.dup, 1) := by decide +kernel
theorem d_D_group_73 : decode b_D_group 73 = .ok (.ldc 107, 2) := by decide +kernel
theorem d_D_group_75 : decode b_D_group 75 = .ok (.invokespecial 82, 3) := by decide +kernel
theorem d_D_group_78 : decode b_D_group 78 = .ok (.athrow, 1) := by decide +kernel
theorem d_G_ticksToLimit_0 : decode b_G_ticksToLimit 0 = .ok (.aload_n 0, 1) := by decide +kernel
theorem d_G_ticksToLimit_1 : decode b_G_ticksToLimit 1 = .ok (.getfield 9, 3) := by decide +kernel
theorem d_G_ticksToLimit_4 : decode b_G_ticksToLimit 4 = .ok (.iconst 1, 1) := by decide +kernel
theorem d_G_ticksToLimit_5 : decode b_G_ticksToLimit 5 = .ok (.if_icmp .ne 16, 3) := by decide +kernel
theorem d_G_ticksToLimit_8 : decode b_G_ticksToLimit 8 = .ok (.aload_n 0, 1) := by decide +kernel
theorem d_G_ticksToLimit_9 : decode b_G_ticksToLimit 9 = .ok (.getfield 37, 3) := by decide +kernel
theorem d_G_ticksToLimit_12 : decode b_G_ticksToLimit 12 = .ok (.iload_n 1, 1) := by decide +kernel
theorem d_G_ticksToLimit_13 : decode b_G_ticksToLimit 13 = .ok (.isub, 1) := by decide +kernel
theorem d_G_ticksToLimit_14 : decode b_G_ticksToLimit 14 = .ok (.iconst 0, 1) := by decide +kernel
theorem d_G_ticksToLimit_15 : decode b_G_ticksToLimit 15 = .ok (.invokestatic 70, 3) := by decide +kernel
theorem d_G_ticksToLimit_18 : decode b_G_ticksToLimit 18 = .ok (.goto 4, 3) := by decide +kernel
theorem d_G_ticksToLimit_21 : decode b_G_ticksToLimit 21 = .ok (.iconst 0, 1) := by decide +kernel
theorem d_G_ticksToLimit_22 : decode b_G_ticksToLimit 22 = .ok (.ireturn, 1) := by decide +kernel
theorem d_D_share_0 : decode b_D_share 0 = .ok (.aload_n 0, 1) := by decide +kernel
theorem d_D_share_1 : decode b_D_share 1 = .ok (.iload_n 1, 1) := by decide +kernel
theorem d_D_share_2 : decode b_D_share 2 = .ok (.invokevirtual 36, 3) := by decide +kernel
theorem d_D_share_5 : decode b_D_share 5 = .ok (.astore_n 3, 1) := by decide +kernel
theorem d_D_share_6 : decode b_D_share 6 = .ok (.aload_n 0, 1) := by decide +kernel
theorem d_D_share_7 : decode b_D_share 7 = .ok (.iload_n 2, 1) := by decide +kernel
theorem d_D_share_8 : decode b_D_share 8 = .ok (.invokevirtual 40, 3) := by decide +kernel
theorem d_D_share_11 : decode b_D_share 11 = .ok (.iconst 0, 1) := by decide +kernel
theorem d_D_share_12 : decode b_D_share 12 = .ok (.istore 4, 2) := by decide +kernel
theorem d_D_share_14 : decode b_D_share 14 = .ok (.iconst 0, 1) := by decide +kernel
theorem d_D_share_15 : decode b_D_share 15 = .ok (.istore 5, 2) := by decide +kernel
theorem d_D_share_17 : decode b_D_share 17 = .ok (.iload 5, 2) := by decide +kernel
theorem d_D_share_19 : decode b_D_share 19 = .ok (.aload_n 0, 1) := by decide +kernel
theorem d_D_share_20 : decode b_D_share 20 = .ok (.getfield 18, 3) := by decide +kernel
theorem d_D_share_23 : decode b_D_share 23 = .ok (.if_icmp .ge 28, 3) := by decide +kernel
theorem d_D_share_26 : decode b_D_share 26 = .ok (.aload_n 3, 1) := by decide +kernel
theorem d_D_share_27 : decode b_D_share 27 = .ok (.iload 5, 2) := by decide +kernel
theorem d_D_share_29 : decode b_D_share 29 = .ok (.iload_n 2, 1) := by decide +kernel
theorem d_D_share_30 : decode b_D_share 30 = .ok (.invokevirtual 109, 3) := by decide +kernel
theorem d_D_share_33 : decode b_D_share 33 = .ok (.ifCond .eq 12, 3) := by decide +kernel
theorem d_D_share_36 : decode b_D_share 36 = .ok (.iload 4, 2) := by decide +kernel
theorem d_D_share_38 : decode b_D_share 38 = .ok (.iconst 1, 1) := by decide +kernel
theorem d_D_share_39 : decode b_D_share 39 = .ok (.iload 5, 2) := by decide +kernel
theorem d_D_share_41 : decode b_D_share 41 = .ok (.ishl, 1) := by decide +kernel
theorem d_D_share_42 : decode b_D_share 42 = .ok (.ior, 1) := by decide +kernel
theorem d_D_share_43 : decode b_D_share 43 = .ok (.istore 4, 2) := by decide +kernel
theorem d_D_share_45 : decode b_D_share 45 = .ok (.iinc 5 1, 3) := by decide +kernel
theorem d_D_share_48 : decode b_D_share 48 = .ok (.goto (-31), 3) := by decide +kernel
theorem d_D_share_51 : decode b_D_share 51 = .ok (.iload 4, 2) := by decide +kernel
theorem d_D_share_53 : decode b_D_share 53 = .ok (.ireturn, 1) := by decide +kernel
theorem d_D_room_0 : decode b_D_room 0 = .ok (.iload_n 1, 1) := by decide +kernel
theorem d_D_room_1 : decode b_D_room 1 = .ok (.ifCond .lt 9, 3) := by decide +kernel
theorem d_D_room_4 : decode b_D_room 4 = .ok (.iload_n 1, 1) := by decide +kernel
theorem d_D_room_5 : decode b_D_room 5 = .ok (.ldc 113, 2) := by decide +kernel
theorem d_D_room_7 : decode b_D_room 7 = .ok (.if_icmp .le 13, 3) := by decide +kernel
theorem d_D_room_10 : decode b_D_room 10 = .ok (.new 78, 3) := by decide +kernel
theorem d_D_room_13 : decode b_D_room 13 = .ok (.dup, 1) := by decide +kernel
theorem d_D_room_14 : decode b_D_room 14 = .ok (.ldc 114, 2) := by decide +kernel
theorem d_D_room_16 : decode b_D_room 16 = .ok (.invokespecial 82, 3) := by decide +kernel
theorem d_D_room_19 : decode b_D_room 19 = .ok (.athrow, 1) := by decide +kernel
theorem d_D_room_20 : decode b_D_room 20 = .ok (.aload_n 0, 1) := by decide +kernel
theorem d_D_room_21 : decode b_D_room 21 = .ok (.getfield 25, 3) := by decide +kernel
theorem d_D_room_24 : decode b_D_room 24 = .ok (.getfield 116, 3) := by decide +kernel
theorem d_D_room_27 : decode b_D_room 27 = .ok (.istore_n 2, 1) := by decide +kernel
theorem d_D_room_28 : decode b_D_room 28 = .ok (.aload_n 0, 1) := by decide +kernel
theorem d_D_room_29 : decode b_D_room 29 = .ok (.getfield 25, 3) := by decide +kernel
theorem d_D_room_32 : decode b_D_room 32 = .ok (.iload_n 1, 1) := by decide +kernel
theorem d_D_room_33 : decode b_D_room 33 = .ok (.putfield 116, 3) := by decide +kernel
theorem d_D_room_36 : decode b_D_room 36 = .ok (.iload_n 2, 1) := by decide +kernel
theorem d_D_room_37 : decode b_D_room 37 = .ok (.ireturn, 1) := by decide +kernel
theorem d_D_ticks_0 : decode b_D_ticks 0 = .ok (.iload_n 1, 1) := by decide +kernel
theorem d_D_ticks_1 : decode b_D_ticks 1 = .ok (.iconst 1, 1) := by decide +kernel
theorem d_D_ticks_2 : decode b_D_ticks 2 = .ok (.if_icmp .lt 10, 3) := by decide +kernel
theorem d_D_ticks_5 : decode b_D_ticks 5 = .ok (.iload_n 1, 1) := by decide +kernel
theorem d_D_ticks_6 : decode b_D_ticks 6 = .ok (.sipush 200, 3) := by decide +kernel
theorem d_D_ticks_9 : decode b_D_ticks 9 = .ok (.if_icmp .le 13, 3) := by decide +kernel
theorem d_D_ticks_12 : decode b_D_ticks 12 = .ok (.new 78, 3) := by decide +kernel
theorem d_D_ticks_15 : decode b_D_ticks 15 = .ok (.dup, 1) := by decide +kernel
theorem d_D_ticks_16 : decode b_D_ticks 16 = .ok (.ldc 127, 2) := by decide +kernel
theorem d_D_ticks_18 : decode b_D_ticks 18 = .ok (.invokespecial 82, 3) := by decide +kernel
theorem d_D_ticks_21 : decode b_D_ticks 21 = .ok (.athrow, 1) := by decide +kernel
theorem d_D_ticks_22 : decode b_D_ticks 22 = .ok (.aload_n 0, 1) := by decide +kernel
theorem d_D_ticks_23 : decode b_D_ticks 23 = .ok (.getfield 44, 3) := by decide +kernel
theorem d_D_ticks_26 : decode b_D_ticks 26 = .ok (.iload_n 1, 1) := by decide +kernel
theorem d_D_ticks_27 : decode b_D_ticks 27 = .ok (.iadd, 1) := by decide +kernel
theorem d_D_ticks_28 : decode b_D_ticks 28 = .ok (.ldc 129, 2) := by decide +kernel
theorem d_D_ticks_30 : decode b_D_ticks 30 = .ok (.if_icmp .le 13, 3) := by decide +kernel
theorem d_D_ticks_33 : decode b_D_ticks 33 = .ok (.new 78, 3) := by decide +kernel
theorem d_D_ticks_36 : decode b_D_ticks 36 = .ok (.dup, 1) := by decide +kernel
theorem d_D_ticks_37 : decode b_D_ticks 37 = .ok (.ldc 130, 2) := by decide +kernel
theorem d_D_ticks_39 : decode b_D_ticks 39 = .ok (.invokespecial 82, 3) := by decide +kernel
theorem d_D_ticks_42 : decode b_D_ticks 42 = .ok (.athrow, 1) := by decide +kernel
theorem d_D_ticks_43 : decode b_D_ticks 43 = .ok (.iconst 0, 1) := by decide +kernel
theorem d_D_ticks_44 : decode b_D_ticks 44 = .ok (.istore_n 2, 1) := by decide +kernel
theorem d_D_ticks_45 : decode b_D_ticks 45 = .ok (.iload_n 2, 1) := by decide +kernel
theorem d_D_ticks_46 : decode b_D_ticks 46 = .ok (.iload_n 1, 1) := by decide +kernel
theorem d_D_ticks_47 : decode b_D_ticks 47 = .ok (.if_icmp .ge 13, 3) := by decide +kernel
theorem d_D_ticks_50 : decode b_D_ticks 50 = .ok (.aload_n 0, 1) := by decide +kernel
theorem d_D_ticks_51 : decode b_D_ticks 51 = .ok (.invokevirtual 132, 3) := by decide +kernel
theorem d_D_ticks_54 : decode b_D_ticks 54 = .ok (.iinc 2 1, 3) := by decide +kernel
theorem d_D_ticks_57 : decode b_D_ticks 57 = .ok (.goto (-12), 3) := by decide +kernel
theorem d_D_ticks_60 : decode b_D_ticks 60 = .ok (.aload_n 0, 1) := by decide +kernel
theorem d_D_ticks_61 : decode b_D_ticks 61 = .ok (.getfield 44, 3) := by decide +kernel
theorem d_D_ticks_64 : decode b_D_ticks 64 = .ok (.ireturn, 1) := by decide +kernel
theorem d_D_tick_0 : decode b_D_tick 0 = .ok (.aload_n 0, 1) := by decide +kernel
theorem d_D_tick_1 : decode b_D_tick 1 = .ok (.dup, 1) := by decide +kernel
theorem d_D_tick_2 : decode b_D_tick 2 = .ok (.getfield 44, 3) := by decide +kernel
theorem d_D_tick_5 : decode b_D_tick 5 = .ok (.iconst 1, 1) := by decide +kernel
theorem d_D_tick_6 : decode b_D_tick 6 = .ok (.iadd, 1) := by decide +kernel
theorem d_D_tick_7 : decode b_D_tick 7 = .ok (.putfield 44, 3) := by decide +kernel
theorem d_D_tick_10 : decode b_D_tick 10 = .ok (.iconst 0, 1) := by decide +kernel
theorem d_D_tick_11 : decode b_D_tick 11 = .ok (.istore_n 1, 1) := by decide +kernel
theorem d_D_tick_12 : decode b_D_tick 12 = .ok (.iload_n 1, 1) := by decide +kernel
theorem d_D_tick_13 : decode b_D_tick 13 = .ok (.bipush 8, 2) := by decide +kernel
theorem d_D_tick_15 : decode b_D_tick 15 = .ok (.if_icmp .ge 39, 3) := by decide +kernel
theorem d_D_tick_18 : decode b_D_tick 18 = .ok (.aload_n 0, 1) := by decide +kernel
theorem d_D_tick_19 : decode b_D_tick 19 = .ok (.getfield 31, 3) := by decide +kernel
theorem d_D_tick_22 : decode b_D_tick 22 = .ok (.iload_n 1, 1) := by decide +kernel
theorem d_D_tick_23 : decode b_D_tick 23 = .ok (.aaload, 1) := by decide +kernel
theorem d_D_tick_24 : decode b_D_tick 24 = .ok (.aload_n 0, 1) := by decide +kernel
theorem d_D_tick_25 : decode b_D_tick 25 = .ok (.getfield 44, 3) := by decide +kernel
theorem d_D_tick_28 : decode b_D_tick 28 = .ok (.invokevirtual 138, 3) := by decide +kernel
theorem d_D_tick_31 : decode b_D_tick 31 = .ok (.aload_n 0, 1) := by decide +kernel
theorem d_D_tick_32 : decode b_D_tick 32 = .ok (.getfield 31, 3) := by decide +kernel
theorem d_D_tick_35 : decode b_D_tick 35 = .ok (.iload_n 1, 1) := by decide +kernel
theorem d_D_tick_36 : decode b_D_tick 36 = .ok (.aaload, 1) := by decide +kernel
theorem d_D_tick_37 : decode b_D_tick 37 = .ok (.aload_n 0, 1) := by decide +kernel
theorem d_D_tick_38 : decode b_D_tick 38 = .ok (.getfield 44, 3) := by decide +kernel
theorem d_D_tick_41 : decode b_D_tick 41 = .ok (.aload_n 0, 1) := by decide +kernel
theorem d_D_tick_42 : decode b_D_tick 42 = .ok (.getfield 25, 3) := by decide +kernel
theorem d_D_tick_45 : decode b_D_tick 45 = .ok (.invokevirtual 51, 3) := by decide +kernel
theorem d_D_tick_48 : decode b_D_tick 48 = .ok (.iinc 1 1, 3) := by decide +kernel
theorem d_D_tick_51 : decode b_D_tick 51 = .ok (.goto (-39), 3) := by decide +kernel
theorem d_D_tick_54 : decode b_D_tick 54 = .ok (.return_, 1) := by decide +kernel
theorem d_G_dropSilent_0 : decode b_G_dropSilent 0 = .ok (.aload_n 0, 1) := by decide +kernel
theorem d_G_dropSilent_1 : decode b_G_dropSilent 1 = .ok (.getfield 9, 3) := by decide +kernel
theorem d_G_dropSilent_4 : decode b_G_dropSilent 4 = .ok (.iconst 2, 1) := by decide +kernel
theorem d_G_dropSilent_5 : decode b_G_dropSilent 5 = .ok (.if_icmp .eq 4, 3) := by decide +kernel
theorem d_G_dropSilent_8 : decode b_G_dropSilent 8 = .ok (.return_, 1) := by decide +kernel
theorem d_G_dropSilent_9 : decode b_G_dropSilent 9 = .ok (.iconst 0, 1) := by decide +kernel
theorem d_G_dropSilent_10 : decode b_G_dropSilent 10 = .ok (.istore_n 2, 1) := by decide +kernel
theorem d_G_dropSilent_11 : decode b_G_dropSilent 11 = .ok (.iconst 0, 1) := by decide +kernel
theorem d_G_dropSilent_12 : decode b_G_dropSilent 12 = .ok (.istore_n 3, 1) := by decide +kernel
theorem d_G_dropSilent_13 : decode b_G_dropSilent 13 = .ok (.iload_n 3, 1) := by decide +kernel
theorem d_G_dropSilent_14 : decode b_G_dropSilent 14 = .ok (.bipush 8, 2) := by decide +kernel
theorem d_G_dropSilent_16 : decode b_G_dropSilent 16 = .ok (.if_icmp .ge 36, 3) := by decide +kernel
theorem d_G_dropSilent_19 : decode b_G_dropSilent 19 = .ok (.aload_n 0, 1) := by decide +kernel
theorem d_G_dropSilent_20 : decode b_G_dropSilent 20 = .ok (.iload_n 3, 1) := by decide +kernel
theorem d_G_dropSilent_21 : decode b_G_dropSilent 21 = .ok (.invokevirtual 47, 3) := by decide +kernel
theorem d_G_dropSilent_24 : decode b_G_dropSilent 24 = .ok (.ifCond .eq 22, 3) := by decide +kernel
theorem d_G_dropSilent_27 : decode b_G_dropSilent 27 = .ok (.iload_n 1, 1) := by decide +kernel
theorem d_G_dropSilent_28 : decode b_G_dropSilent 28 = .ok (.aload_n 0, 1) := by decide +kernel
theorem d_G_dropSilent_29 : decode b_G_dropSilent 29 = .ok (.getfield 15, 3) := by decide +kernel
theorem d_G_dropSilent_32 : decode b_G_dropSilent 32 = .ok (.iload_n 3, 1) := by decide +kernel
theorem d_G_dropSilent_33 : decode b_G_dropSilent 33 = .ok (.iaload, 1) := by decide +kernel
theorem d_G_dropSilent_34 : decode b_G_dropSilent 34 = .ok (.isub, 1) := by decide +kernel
theorem d_G_dropSilent_35 : decode b_G_dropSilent 35 = .ok (.bipush 30, 2) := by decide +kernel
theorem d_G_dropSilent_37 : decode b_G_dropSilent 37 = .ok (.if_icmp .lt 9, 3) := by decide +kernel
theorem d_G_dropSilent_40 : decode b_G_dropSilent 40 = .ok (.iload_n 2, 1) := by decide +kernel
theorem d_G_dropSilent_41 : decode b_G_dropSilent 41 = .ok (.iconst 1, 1) := by decide +kernel
theorem d_G_dropSilent_42 : decode b_G_dropSilent 42 = .ok (.iload_n 3, 1) := by decide +kernel
theorem d_G_dropSilent_43 : decode b_G_dropSilent 43 = .ok (.ishl, 1) := by decide +kernel
theorem d_G_dropSilent_44 : decode b_G_dropSilent 44 = .ok (.ior, 1) := by decide +kernel
theorem d_G_dropSilent_45 : decode b_G_dropSilent 45 = .ok (.istore_n 2, 1) := by decide +kernel
theorem d_G_dropSilent_46 : decode b_G_dropSilent 46 = .ok (.iinc 3 1, 3) := by decide +kernel
theorem d_G_dropSilent_49 : decode b_G_dropSilent 49 = .ok (.goto (-36), 3) := by decide +kernel
theorem d_G_dropSilent_52 : decode b_G_dropSilent 52 = .ok (.iload_n 2, 1) := by decide +kernel
theorem d_G_dropSilent_53 : decode b_G_dropSilent 53 = .ok (.ifCond .eq 9, 3) := by decide +kernel
theorem d_G_dropSilent_56 : decode b_G_dropSilent 56 = .ok (.aload_n 0, 1) := by decide +kernel
theorem d_G_dropSilent_57 : decode b_G_dropSilent 57 = .ok (.iload_n 2, 1) := by decide +kernel
theorem d_G_dropSilent_58 : decode b_G_dropSilent 58 = .ok (.iload_n 1, 1) := by decide +kernel
theorem d_G_dropSilent_59 : decode b_G_dropSilent 59 = .ok (.invokevirtual 51, 3) := by decide +kernel
theorem d_G_dropSilent_62 : decode b_G_dropSilent 62 = .ok (.return_, 1) := by decide +kernel
