theorem d_M_init_0 : decode b_M_init 0 = .ok (.aload_n 0, 1) := by decide +kernel
theorem d_M_init_1 : decode b_M_init 1 = .ok (.invokespecial 1, 3) := by decide +kernel
theorem d_M_init_4 : decode b_M_init 4 = .ok (.aload_n 0, 1) := by decide +kernel
theorem d_M_init_5 : decode b_M_init 5 = .ok (.sipush 1000, 3) := by decide +kernel
theorem d_M_init_8 : decode b_M_init 8 = .ok (.putfield 7, 3) := by decide +kernel
theorem d_M_init_11 : decode b_M_init 11 = .ok (.aload_n 0, 1) := by decide +kernel
theorem d_M_init_12 : decode b_M_init 12 = .ok (.bipush 8, 2) := by decide +kernel
theorem d_M_init_14 : decode b_M_init 14 = .ok (.newarray .int, 2) := by decide +kernel
theorem d_M_init_16 : decode b_M_init 16 = .ok (.putfield 13, 3) := by decide +kernel
theorem d_M_init_19 : decode b_M_init 19 = .ok (.aload_n 0, 1) := by decide +kernel
theorem d_M_init_20 : decode b_M_init 20 = .ok (.bipush 8, 2) := by decide +kernel
theorem d_M_init_22 : decode b_M_init 22 = .ok (.newarray .int, 2) := by decide +kernel
theorem d_M_init_24 : decode b_M_init 24 = .ok (.putfield 17, 3) := by decide +kernel
theorem d_M_init_27 : decode b_M_init 27 = .ok (.aload_n 0, 1) := by decide +kernel
theorem d_M_init_28 : decode b_M_init 28 = .ok (.bipush 8, 2) := by decide +kernel
theorem d_M_init_30 : decode b_M_init 30 = .ok (.newarray .int, 2) := by decide +kernel
theorem d_M_init_32 : decode b_M_init 32 = .ok (.putfield 20, 3) := by decide +kernel
theorem d_M_init_35 : decode b_M_init 35 = .ok (.aload_n 0, 1) := by decide +kernel
theorem d_M_init_36 : decode b_M_init 36 = .ok (.bipush 64, 2) := by decide +kernel
theorem d_M_init_38 : decode b_M_init 38 = .ok (.newarray .boolean, 2) := by decide +kernel
theorem d_M_init_40 : decode b_M_init 40 = .ok (.putfield 23, 3) := by decide +kernel
theorem d_M_init_43 : decode b_M_init 43 = .ok (.aload_n 0, 1) := by decide +kernel
theorem d_M_init_44 : decode b_M_init 44 = .ok (.bipush 64, 2) := by decide +kernel
theorem d_M_init_46 : decode b_M_init 46 = .ok (.newarray .boolean, 2) := by decide +kernel
theorem d_M_init_48 : decode b_M_init 48 = .ok (.putfield 27, 3) := by decide +kernel
theorem d_M_init_51 : decode b_M_init 51 = .ok (.aload_n 0, 1) := by decide +kernel
theorem d_M_init_52 : decode b_M_init 52 = .ok (.bipush 64, 2) := by decide +kernel
theorem d_M_init_54 : decode b_M_init 54 = .ok (.newarray .int, 2) := by decide +kernel
theorem d_M_init_56 : decode b_M_init 56 = .ok (.putfield 30, 3) := by decide +kernel
theorem d_M_init_59 : decode b_M_init 59 = .ok (.aload_n 0, 1) := by decide +kernel
theorem d_M_init_60 : decode b_M_init 60 = .ok (.bipush 64, 2) := by decide +kernel
theorem d_M_init_62 : decode b_M_init 62 = .ok (.newarray .long, 2) := by decide +kernel
theorem d_M_init_64 : decode b_M_init 64 = .ok (.putfield 33, 3) := by decide +kernel
theorem d_M_init_67 : decode b_M_init 67 = .ok (.aload_n 0, 1) := by decide +kernel
theorem d_M_init_68 : decode b_M_init 68 = .ok (.iload_n 1, 1) := by decide +kernel
theorem d_M_init_69 : decode b_M_init 69 = .ok (.iconst 1, 1) := by decide +kernel
theorem d_M_init_70 : decode b_M_init 70 = .ok (.if_icmp .ge 7, 3) := by decide +kernel
theorem d_M_init_73 : decode b_M_init 73 = .ok (.iconst 1, 1) := by decide +kernel
theorem d_M_init_74 : decode b_M_init 74 = .ok (.goto 15, 3) := by decide +kernel
theorem d_M_init_77 : decode b_M_init 77 = .ok (.iload_n 1, 1) := by decide +kernel
theorem d_M_init_78 : decode b_M_init 78 = .ok (.bipush 8, 2) := by decide +kernel
theorem d_M_init_80 : decode b_M_init 80 = .ok (.if_icmp .le 8, 3) := by decide +kernel
theorem d_M_init_83 : decode b_M_init 83 = .ok (.bipush 8, 2) := by decide +kernel
theorem d_M_init_85 : decode b_M_init 85 = .ok (.goto 4, 3) := by decide +kernel
theorem d_M_init_88 : decode b_M_init 88 = .ok (.iload_n 1, 1) := by decide +kernel
theorem d_M_init_89 : decode b_M_init 89 = .ok (.putfield 37, 3) := by decide +kernel
theorem d_M_init_92 : decode b_M_init 92 = .ok (.iconst 0, 1) := by decide +kernel
theorem d_M_init_93 : decode b_M_init 93 = .ok (.istore_n 2, 1) := by decide +kernel
theorem d_M_init_94 : decode b_M_init 94 = .ok (.iload_n 2, 1) := by decide +kernel
theorem d_M_init_95 : decode b_M_init 95 = .ok (.bipush 8, 2) := by decide +kernel
theorem d_M_init_97 : decode b_M_init 97 = .ok (.if_icmp .ge 37, 3) := by decide +kernel
theorem d_M_init_100 : decode b_M_init 100 = .ok (.iconst 0, 1) := by decide +kernel
theorem d_M_init_101 : decode b_M_init 101 = .ok (.istore_n 3, 1) := by decide +kernel
theorem d_M_init_102 : decode b_M_init 102 = .ok (.iload_n 3, 1) := by decide +kernel
theorem d_M_init_103 : decode b_M_init 103 = .ok (.bipush 8, 2) := by decide +kernel
theorem d_M_init_105 : decode b_M_init 105 = .ok (.if_icmp .ge 23, 3) := by decide +kernel
theorem d_M_init_108 : decode b_M_init 108 = .ok (.aload_n 0, 1) := by decide +kernel
theorem d_M_init_109 : decode b_M_init 109 = .ok (.getfield 33, 3) := by decide +kernel
theorem d_M_init_112 : decode b_M_init 112 = .ok (.bipush 8, 2) := by decide +kernel
theorem d_M_init_114 : decode b_M_init 114 = .ok (.iload_n 2, 1) := by decide +kernel
theorem d_M_init_115 : decode b_M_init 115 = .ok (.imul, 1) := by decide +kernel
theorem d_M_init_116 : decode b_M_init 116 = .ok (.iload_n 3, 1) := by decide +kernel
theorem d_M_init_117 : decode b_M_init 117 = .ok (.iadd, 1) := by decide +kernel
theorem d_M_init_118 : decode b_M_init 118 = .ok (.ldc2_w 40, 3) := by decide +kernel
theorem d_M_init_121 : decode b_M_init 121 = .ok (.lastore, 1) := by decide +kernel
theorem d_M_init_122 : decode b_M_init 122 = .ok (.iinc 3 1, 3) := by decide +kernel
theorem d_M_init_125 : decode b_M_init 125 = .ok (.goto (-23), 3) := by decide +kernel
theorem d_M_init_128 : decode b_M_init 128 = .ok (.iinc 2 1, 3) := by decide +kernel
theorem d_M_init_131 : decode b_M_init 131 = .ok (.goto (-37), 3) := by decide +kernel
theorem d_M_init_134 : decode b_M_init 134 = .ok (.return_, 1) := by decide +kernel
theorem d_M_thrown_0 : decode b_M_thrown 0 = .ok (.aload_n 0, 1) := by decide +kernel
theorem d_M_thrown_1 : decode b_M_thrown 1 = .ok (.getfield 42, 3) := by decide +kernel
theorem d_M_thrown_4 : decode b_M_thrown 4 = .ok (.ireturn, 1) := by decide +kernel
theorem d_M_join_0 : decode b_M_join 0 = .ok (.aload_n 0, 1) := by decide +kernel
theorem d_M_join_1 : decode b_M_join 1 = .ok (.iload_n 1, 1) := by decide +kernel
theorem d_M_join_2 : decode b_M_join 2 = .ok (.invokestatic 69, 3) := by decide +kernel
theorem d_M_join_5 : decode b_M_join 5 = .ok (.ifCond .eq 14, 3) := by decide +kernel
theorem d_M_join_8 : decode b_M_join 8 = .ok (.iload_n 2, 1) := by decide +kernel
theorem d_M_join_9 : decode b_M_join 9 = .ok (.invokestatic 69, 3) := by decide +kernel
theorem d_M_join_12 : decode b_M_join 12 = .ok (.ifCond .eq 7, 3) := by decide +kernel
theorem d_M_join_15 : decode b_M_join 15 = .ok (.iconst 1, 1) := by decide +kernel
theorem d_M_join_16 : decode b_M_join 16 = .ok (.goto 4, 3) := by decide +kernel
theorem d_M_join_19 : decode b_M_join 19 = .ok (.iconst 0, 1) := by decide +kernel
theorem d_M_join_20 : decode b_M_join 20 = .ok (.invokevirtual 73, 3) := by decide +kernel
theorem d_M_join_23 : decode b_M_join 23 = .ok (.ifCond .ne 5, 3) := by decide +kernel
theorem d_M_join_26 : decode b_M_join 26 = .ok (.iconst 0, 1) := by decide +kernel
theorem d_M_join_27 : decode b_M_join 27 = .ok (.ireturn, 1) := by decide +kernel
theorem d_M_join_28 : decode b_M_join 28 = .ok (.aload_n 0, 1) := by decide +kernel
theorem d_M_join_29 : decode b_M_join 29 = .ok (.getfield 23, 3) := by decide +kernel
theorem d_M_join_32 : decode b_M_join 32 = .ok (.bipush 8, 2) := by decide +kernel
theorem d_M_join_34 : decode b_M_join 34 = .ok (.iload_n 1, 1) := by decide +kernel
theorem d_M_join_35 : decode b_M_join 35 = .ok (.imul, 1) := by decide +kernel
theorem d_M_join_36 : decode b_M_join 36 = .ok (.iload_n 2, 1) := by decide +kernel
theorem d_M_join_37 : decode b_M_join 37 = .ok (.iadd, 1) := by decide +kernel
theorem d_M_join_38 : decode b_M_join 38 = .ok (.iconst 1, 1) := by decide +kernel
theorem d_M_join_39 : decode b_M_join 39 = .ok (.bastore, 1) := by decide +kernel
theorem d_M_join_40 : decode b_M_join 40 = .ok (.aload_n 0, 1) := by decide +kernel
theorem d_M_join_41 : decode b_M_join 41 = .ok (.getfield 13, 3) := by decide +kernel
theorem d_M_join_44 : decode b_M_join 44 = .ok (.iload_n 1, 1) := by decide +kernel
theorem d_M_join_45 : decode b_M_join 45 = .ok (.iaload, 1) := by decide +kernel
theorem d_M_join_46 : decode b_M_join 46 = .ok (.iconst 1, 1) := by decide +kernel
theorem d_M_join_47 : decode b_M_join 47 = .ok (.if_icmp .eq 8, 3) := by decide +kernel
theorem d_M_join_50 : decode b_M_join 50 = .ok (.aload_n 0, 1) := by decide +kernel
theorem d_M_join_51 : decode b_M_join 51 = .ok (.iload_n 1, 1) := by decide +kernel
theorem d_M_join_52 : decode b_M_join 52 = .ok (.invokevirtual 66, 3) := by decide +kernel
theorem d_M_join_55 : decode b_M_join 55 = .ok (.aload_n 0, 1) := by decide +kernel
theorem d_M_join_56 : decode b_M_join 56 = .ok (.getfield 27, 3) := by decide +kernel
theorem d_M_join_59 : decode b_M_join 59 = .ok (.bipush 8, 2) := by decide +kernel
theorem d_M_join_61 : decode b_M_join 61 = .ok (.iload_n 1, 1) := by decide +kernel
theorem d_M_join_62 : decode b_M_join 62 = .ok (.imul, 1) := by decide +kernel
theorem d_M_join_63 : decode b_M_join 63 = .ok (.iload_n 2, 1) := by decide +kernel
theorem d_M_join_64 : decode b_M_join 64 = .ok (.iadd, 1) := by decide +kernel
theorem d_M_join_65 : decode b_M_join 65 = .ok (.iconst 1, 1) := by decide +kernel
theorem d_M_join_66 : decode b_M_join 66 = .ok (.bastore, 1) := by decide +kernel
theorem d_M_join_67 : decode b_M_join 67 = .ok (.aload_n 0, 1) := by decide +kernel
theorem d_M_join_68 : decode b_M_join 68 = .ok (.getfield 30, 3) := by decide +kernel
theorem d_M_join_71 : decode b_M_join 71 = .ok (.bipush 8, 2) := by decide +kernel
theorem d_M_join_73 : decode b_M_join 73 = .ok (.iload_n 1, 1) := by decide +kernel
theorem d_M_join_74 : decode b_M_join 74 = .ok (.imul, 1) := by decide +kernel
theorem d_M_join_75 : decode b_M_join 75 = .ok (.iload_n 2, 1) := by decide +kernel
theorem d_M_join_76 : decode b_M_join 76 = .ok (.iadd, 1) := by decide +kernel
theorem d_M_join_77 : decode b_M_join 77 = .ok (.aload_n 0, 1) := by decide +kernel
theorem d_M_join_78 : decode b_M_join 78 = .ok (.getfield 48, 3) := by decide +kernel
theorem d_M_join_81 : decode b_M_join 81 = .ok (.iastore, 1) := by decide +kernel
theorem d_M_join_82 : decode b_M_join 82 = .ok (.aload_n 0, 1) := by decide +kernel
theorem d_M_join_83 : decode b_M_join 83 = .ok (.iload_n 1, 1) := by decide +kernel
theorem d_M_join_84 : decode b_M_join 84 = .ok (.invokevirtual 77, 3) := by decide +kernel
theorem d_M_join_87 : decode b_M_join 87 = .ok (.aload_n 0, 1) := by decide +kernel
theorem d_M_join_88 : decode b_M_join 88 = .ok (.getfield 13, 3) := by decide +kernel
theorem d_M_join_91 : decode b_M_join 91 = .ok (.iload_n 1, 1) := by decide +kernel
theorem d_M_join_92 : decode b_M_join 92 = .ok (.iaload, 1) := by decide +kernel
theorem d_M_join_93 : decode b_M_join 93 = .ok (.iconst 2, 1) := by decide +kernel
theorem d_M_join_94 : decode b_M_join 94 = .ok (.if_icmp .ne 12, 3) := by decide +kernel
theorem d_M_join_97 : decode b_M_join 97 = .ok (.aload_n 0, 1) := by decide +kernel
theorem d_M_join_98 : decode b_M_join 98 = .ok (.getfield 17, 3) := by decide +kernel
theorem d_M_join_101 : decode b_M_join 101 = .ok (.iload_n 1, 1) := by decide +kernel
theorem d_M_join_102 : decode b_M_join 102 = .ok (.iaload, 1) := by decide +kernel
theorem d_M_join_103 : decode b_M_join 103 = .ok (.goto 4, 3) := by decide +kernel
theorem d_M_join_106 : decode b_M_join 106 = .ok (.iconst (-1), 1) := by decide +kernel
theorem d_M_join_107 : decode b_M_join 107 = .ok (.ireturn, 1) := by decide +kernel
theorem d_M_isOne_0 : decode b_M_isOne 0 = .ok (.iload_n 0, 1) := by decide +kernel
theorem d_M_isOne_1 : decode b_M_isOne 1 = .ok (.ifCond .lt 13, 3) := by decide +kernel
theorem d_M_isOne_4 : decode b_M_isOne 4 = .ok (.iload_n 0, 1) := by decide +kernel
theorem d_M_isOne_5 : decode b_M_isOne 5 = .ok (.bipush 8, 2) := by decide +kernel
theorem d_M_isOne_7 : decode b_M_isOne 7 = .ok (.if_icmp .ge 7, 3) := by decide +kernel
theorem d_M_isOne_10 : decode b_M_isOne 10 = .ok (.iconst 1, 1) := by decide +kernel
theorem d_M_isOne_11 : decode b_M_isOne 11 = .ok (.goto 4, 3) := by decide +kernel
theorem d_M_isOne_14 : decode b_M_isOne 14 = .ok (.iconst 0, 1) := by decide +kernel
theorem d_M_isOne_15 : decode b_M_isOne 15 = .ok (.ireturn, 1) := by decide +kernel
theorem d_M_goes_0 : decode b_M_goes 0 = .ok (.aload_n 0, 1) := by decide +kernel
theorem d_M_goes_1 : decode b_M_goes 1 = .ok (.iload_n 1, 1) := by decide +kernel
theorem d_M_goes_2 : decode b_M_goes 2 = .ok (.ifCond .eq 7, 3) := by decide +kernel
theorem d_M_goes_5 : decode b_M_goes 5 = .ok (.iconst 0, 1) := by decide +kernel
theorem d_M_goes_6 : decode b_M_goes 6 = .ok (.goto 4, 3) := by decide +kernel
theorem d_M_goes_9 : decode b_M_goes 9 = .ok (.iconst 1, 1) := by decide +kernel
theorem d_M_goes_10 : decode b_M_goes 10 = .ok (.putfield 42, 3) := by decide +kernel
theorem d_M_goes_13 : decode b_M_goes 13 = .ok (.iload_n 1, 1) := by decide +kernel
theorem d_M_goes_14 : decode b_M_goes 14 = .ok (.ireturn, 1) := by decide +kernel
theorem d_M_mixes_0 : decode b_M_mixes 0 = .ok (.aload_n 0, 1) := by decide +kernel
theorem d_M_mixes_1 : decode b_M_mixes 1 = .ok (.getfield 13, 3) := by decide +kernel
theorem d_M_mixes_4 : decode b_M_mixes 4 = .ok (.iload_n 1, 1) := by decide +kernel
theorem d_M_mixes_5 : decode b_M_mixes 5 = .ok (.iconst 1, 1) := by decide +kernel
theorem d_M_mixes_6 : decode b_M_mixes 6 = .ok (.iastore, 1) := by decide +kernel
theorem d_M_mixes_7 : decode b_M_mixes 7 = .ok (.aload_n 0, 1) := by decide +kernel
theorem d_M_mixes_8 : decode b_M_mixes 8 = .ok (.getfield 20, 3) := by decide +kernel
theorem d_M_mixes_11 : decode b_M_mixes 11 = .ok (.iload_n 1, 1) := by decide +kernel
theorem d_M_mixes_12 : decode b_M_mixes 12 = .ok (.aload_n 0, 1) := by decide +kernel
theorem d_M_mixes_13 : decode b_M_mixes 13 = .ok (.getfield 48, 3) := by decide +kernel
theorem d_M_mixes_16 : decode b_M_mixes 16 = .ok (.bipush 20, 2) := by decide +kernel
theorem d_M_mixes_18 : decode b_M_mixes 18 = .ok (.iadd, 1) := by decide +kernel
theorem d_M_mixes_19 : decode b_M_mixes 19 = .ok (.iastore, 1) := by decide +kernel
theorem d_M_mixes_20 : decode b_M_mixes 20 = .ok (.iconst 0, 1) := by decide +kernel
theorem d_M_mixes_21 : decode b_M_mixes 21 = .ok (.istore_n 2, 1) := by decide +kernel
theorem d_M_mixes_22 : decode b_M_mixes 22 = .ok (.iload_n 2, 1) := by decide +kernel
theorem d_M_mixes_23 : decode b_M_mixes 23 = .ok (.bipush 8, 2) := by decide +kernel
theorem d_M_mixes_25 : decode b_M_mixes 25 = .ok (.if_icmp .ge 21, 3) := by decide +kernel
theorem d_M_mixes_28 : decode b_M_mixes 28 = .ok (.aload_n 0, 1) := by decide +kernel
theorem d_M_mixes_29 : decode b_M_mixes 29 = .ok (.getfield 27, 3) := by decide +kernel
theorem d_M_mixes_32 : decode b_M_mixes 32 = .ok (.bipush 8, 2) := by decide +kernel
theorem d_M_mixes_34 : decode b_M_mixes 34 = .ok (.iload_n 1, 1) := by decide +kernel
theorem d_M_mixes_35 : decode b_M_mixes 35 = .ok (.imul, 1) := by decide +kernel
theorem d_M_mixes_36 : decode b_M_mixes 36 = .ok (.iload_n 2, 1) := by decide +kernel
theorem d_M_mixes_37 : decode b_M_mixes 37 = .ok (.iadd, 1) := by decide +kernel
theorem d_M_mixes_38 : decode b_M_mixes 38 = .ok (.iconst 0, 1) := by decide +kernel
theorem d_M_mixes_39 : decode b_M_mixes 39 = .ok (.bastore, 1) := by decide +kernel
theorem d_M_mixes_40 : decode b_M_mixes 40 = .ok (.iinc 2 1, 3) := by decide +kernel
theorem d_M_mixes_43 : decode b_M_mixes 43 = .ok (.goto (-21), 3) := by decide +kernel
theorem d_M_mixes_46 : decode b_M_mixes 46 = .ok (.return_, 1) := by decide +kernel
theorem d_M_mayBeDone_0 : decode b_M_mayBeDone 0 = .ok (.aload_n 0, 1) := by decide +kernel
theorem d_M_mayBeDone_1 : decode b_M_mayBeDone 1 = .ok (.getfield 13, 3) := by decide +kernel
theorem d_M_mayBeDone_4 : decode b_M_mayBeDone 4 = .ok (.iload_n 1, 1) := by decide +kernel
theorem d_M_mayBeDone_5 : decode b_M_mayBeDone 5 = .ok (.iaload, 1) := by decide +kernel
theorem d_M_mayBeDone_6 : decode b_M_mayBeDone 6 = .ok (.iconst 1, 1) := by decide +kernel
theorem d_M_mayBeDone_7 : decode b_M_mayBeDone 7 = .ok (.if_icmp .eq 4, 3) := by decide +kernel
theorem d_M_mayBeDone_10 : decode b_M_mayBeDone 10 = .ok (.return_, 1) := by decide +kernel
theorem d_M_mayBeDone_11 : decode b_M_mayBeDone 11 = .ok (.aload_n 0, 1) := by decide +kernel
theorem d_M_mayBeDone_12 : decode b_M_mayBeDone 12 = .ok (.iload_n 1, 1) := by decide +kernel
theorem d_M_mayBeDone_13 : decode b_M_mayBeDone 13 = .ok (.invokevirtual 51, 3) := by decide +kernel
theorem d_M_mayBeDone_16 : decode b_M_mayBeDone 16 = .ok (.istore_n 2, 1) := by decide +kernel
theorem d_M_mayBeDone_17 : decode b_M_mayBeDone 17 = .ok (.aload_n 0, 1) := by decide +kernel
theorem d_M_mayBeDone_18 : decode b_M_mayBeDone 18 = .ok (.iload_n 1, 1) := by decide +kernel
theorem d_M_mayBeDone_19 : decode b_M_mayBeDone 19 = .ok (.invokevirtual 55, 3) := by decide +kernel
theorem d_M_mayBeDone_22 : decode b_M_mayBeDone 22 = .ok (.istore_n 3, 1) := by decide +kernel
theorem d_M_mayBeDone_23 : decode b_M_mayBeDone 23 = .ok (.iload_n 3, 1) := by decide +kernel
theorem d_M_mayBeDone_24 : decode b_M_mayBeDone 24 = .ok (.iload_n 2, 1) := by decide +kernel
theorem d_M_mayBeDone_25 : decode b_M_mayBeDone 25 = .ok (.if_icmp .ge 17, 3) := by decide +kernel
theorem d_M_mayBeDone_28 : decode b_M_mayBeDone 28 = .ok (.aload_n 0, 1) := by decide +kernel
theorem d_M_mayBeDone_29 : decode b_M_mayBeDone 29 = .ok (.getfield 48, 3) := by decide +kernel
theorem d_M_mayBeDone_32 : decode b_M_mayBeDone 32 = .ok (.aload_n 0, 1) := by decide +kernel
theorem d_M_mayBeDone_33 : decode b_M_mayBeDone 33 = .ok (.getfield 20, 3) := by decide +kernel
theorem d_M_mayBeDone_36 : decode b_M_mayBeDone 36 = .ok (.iload_n 1, 1) := by decide +kernel
theorem d_M_mayBeDone_37 : decode b_M_mayBeDone 37 = .ok (.iaload, 1) := by decide +kernel
theorem d_M_mayBeDone_38 : decode b_M_mayBeDone 38 = .ok (.if_icmp .ge 4, 3) := by decide +kernel
theorem d_M_mayBeDone_41 : decode b_M_mayBeDone 41 = .ok (.return_, 1) := by decide +kernel
theorem d_M_mayBeDone_42 : decode b_M_mayBeDone 42 = .ok (.iload_n 3, 1) := by decide +kernel
theorem d_M_mayBeDone_43 : decode b_M_mayBeDone 43 = .ok (.ifCond .ne 9, 3) := by decide +kernel
theorem d_M_mayBeDone_46 : decode b_M_mayBeDone 46 = .ok (.aload_n 0, 1) := by decide +kernel
theorem d_M_mayBeDone_47 : decode b_M_mayBeDone 47 = .ok (.iload_n 1, 1) := by decide +kernel
theorem d_M_mayBeDone_48 : decode b_M_mayBeDone 48 = .ok (.invokevirtual 58, 3) := by decide +kernel
theorem d_M_mayBeDone_51 : decode b_M_mayBeDone 51 = .ok (.return_, 1) := by decide +kernel
theorem d_M_mayBeDone_52 : decode b_M_mayBeDone 52 = .ok (.aload_n 0, 1) := by decide +kernel
theorem d_M_mayBeDone_53 : decode b_M_mayBeDone 53 = .ok (.invokevirtual 62, 3) := by decide +kernel
theorem d_M_mayBeDone_56 : decode b_M_mayBeDone 56 = .ok (.ifCond .ne 4, 3) := by decide +kernel
theorem d_M_mayBeDone_59 : decode b_M_mayBeDone 59 = .ok (.return_, 1) := by decide +kernel
theorem d_M_mayBeDone_60 : decode b_M_mayBeDone 60 = .ok (.iconst 0, 1) := by decide +kernel
theorem d_M_mayBeDone_61 : decode b_M_mayBeDone 61 = .ok (.istore 4, 2) := by decide +kernel
theorem d_M_mayBeDone_63 : decode b_M_mayBeDone 63 = .ok (.iload 4, 2) := by decide +kernel
theorem d_M_mayBeDone_65 : decode b_M_mayBeDone 65 = .ok (.bipush 8, 2) := by decide +kernel
theorem d_M_mayBeDone_67 : decode b_M_mayBeDone 67 = .ok (.if_icmp .ge 72, 3) := by decide +kernel
theorem d_M_mayBeDone_70 : decode b_M_mayBeDone 70 = .ok (.aload_n 0, 1) := by decide +kernel
theorem d_M_mayBeDone_71 : decode b_M_mayBeDone 71 = .ok (.getfield 23, 3) := by decide +kernel
theorem d_M_mayBeDone_74 : decode b_M_mayBeDone 74 = .ok (.bipush 8, 2) := by decide +kernel
theorem d_M_mayBeDone_76 : decode b_M_mayBeDone 76 = .ok (.iload_n 1, 1) := by decide +kernel
theorem d_M_mayBeDone_77 : decode b_M_mayBeDone 77 = .ok (.imul, 1) := by decide +kernel
theorem d_M_mayBeDone_78 : decode b_M_mayBeDone 78 = .ok (.iload 4, 2) := by decide +kernel
theorem d_M_mayBeDone_80 : decode b_M_mayBeDone 80 = .ok (.iadd, 1) := by decide +kernel
theorem d_M_mayBeDone_81 : decode b_M_mayBeDone 81 = .ok (.aload_n 0, 1) := by decide +kernel
theorem d_M_mayBeDone_82 : decode b_M_mayBeDone 82 = .ok (.getfield 23, 3) := by decide +kernel
theorem d_M_mayBeDone_85 : decode b_M_mayBeDone 85 = .ok (.bipush 8, 2) := by decide +kernel
theorem d_M_mayBeDone_87 : decode b_M_mayBeDone 87 = .ok (.iload_n 1, 1) := by decide +kernel
theorem d_M_mayBeDone_88 : decode b_M_mayBeDone 88 = .ok (.imul, 1) := by decide +kernel
theorem d_M_mayBeDone_89 : decode b_M_mayBeDone 89 = .ok (.iload 4, 2) := by decide +kernel
theorem d_M_mayBeDone_91 : decode b_M_mayBeDone 91 = .ok (.iadd, 1) := by decide +kernel
theorem d_M_mayBeDone_92 : decode b_M_mayBeDone 92 = .ok (.baload, 1) := by decide +kernel
theorem d_M_mayBeDone_93 : decode b_M_mayBeDone 93 = .ok (.ifCond .eq 22, 3) := by decide +kernel
theorem d_M_mayBeDone_96 : decode b_M_mayBeDone 96 = .ok (.aload_n 0, 1) := by decide +kernel
theorem d_M_mayBeDone_97 : decode b_M_mayBeDone 97 = .ok (.getfield 27, 3) := by decide +kernel
theorem d_M_mayBeDone_100 : decode b_M_mayBeDone 100 = .ok (.bipush 8, 2) := by decide +kernel
theorem d_M_mayBeDone_102 : decode b_M_mayBeDone 102 = .ok (.iload_n 1, 1) := by decide +kernel
theorem d_M_mayBeDone_103 : decode b_M_mayBeDone 103 = .ok (.imul, 1) := by decide +kernel
theorem d_M_mayBeDone_104 : decode b_M_mayBeDone 104 = .ok (.iload 4, 2) := by decide +kernel
theorem d_M_mayBeDone_106 : decode b_M_mayBeDone 106 = .ok (.iadd, 1) := by decide +kernel
theorem d_M_mayBeDone_107 : decode b_M_mayBeDone 107 = .ok (.baload, 1) := by decide +kernel
theorem d_M_mayBeDone_108 : decode b_M_mayBeDone 108 = .ok (.ifCond .eq 7, 3) := by decide +kernel
theorem d_M_mayBeDone_111 : decode b_M_mayBeDone 111 = .ok (.iconst 1, 1) := by decide +kernel
theorem d_M_mayBeDone_112 : decode b_M_mayBeDone 112 = .ok (.goto 4, 3) := by decide +kernel
theorem d_M_mayBeDone_115 : decode b_M_mayBeDone 115 = .ok (.iconst 0, 1) := by decide +kernel
theorem d_M_mayBeDone_116 : decode b_M_mayBeDone 116 = .ok (.bastore, 1) := by decide +kernel
theorem d_M_mayBeDone_117 : decode b_M_mayBeDone 117 = .ok (.aload_n 0, 1) := by decide +kernel
theorem d_M_mayBeDone_118 : decode b_M_mayBeDone 118 = .ok (.getfield 30, 3) := by decide +kernel
theorem d_M_mayBeDone_121 : decode b_M_mayBeDone 121 = .ok (.bipush 8, 2) := by decide +kernel
theorem d_M_mayBeDone_123 : decode b_M_mayBeDone 123 = .ok (.iload_n 1, 1) := by decide +kernel
theorem d_M_mayBeDone_124 : decode b_M_mayBeDone 124 = .ok (.imul, 1) := by decide +kernel
theorem d_M_mayBeDone_125 : decode b_M_mayBeDone 125 = .ok (.iload 4, 2) := by decide +kernel
theorem d_M_mayBeDone_127 : decode b_M_mayBeDone 127 = .ok (.iadd, 1) := by decide +kernel
theorem d_M_mayBeDone_128 : decode b_M_mayBeDone 128 = .ok (.aload_n 0, 1) := by decide +kernel
theorem d_M_mayBeDone_129 : decode b_M_mayBeDone 129 = .ok (.getfield 48, 3) := by decide +kernel
theorem d_M_mayBeDone_132 : decode b_M_mayBeDone 132 = .ok (.iastore, 1) := by decide +kernel
theorem d_M_mayBeDone_133 : decode b_M_mayBeDone 133 = .ok (.iinc 4 1, 3) := by decide +kernel
theorem d_M_mayBeDone_136 : decode b_M_mayBeDone 136 = .ok (.goto (-73), 3) := by decide +kernel
theorem d_M_mayBeDone_139 : decode b_M_mayBeDone 139 = .ok (.aload_n 0, 1) := by decide +kernel
theorem d_M_mayBeDone_140 : decode b_M_mayBeDone 140 = .ok (.getfield 17, 3) := by decide +kernel
theorem d_M_mayBeDone_143 : decode b_M_mayBeDone 143 = .ok (.iload_n 1, 1) := by decide +kernel
theorem d_M_mayBeDone_144 : decode b_M_mayBeDone 144 = .ok (.dup2, 1) := by decide +kernel
theorem d_M_mayBeDone_145 : decode b_M_mayBeDone 145 = .ok (.iaload, 1) := by decide +kernel
theorem d_M_mayBeDone_146 : decode b_M_mayBeDone 146 = .ok (.iconst 1, 1) := by decide +kernel
theorem d_M_mayBeDone_147 : decode b_M_mayBeDone 147 = .ok (.iadd, 1) := by decide +kernel
theorem d_M_mayBeDone_148 : decode b_M_mayBeDone 148 = .ok (.iastore, 1) := by decide +kernel
theorem d_M_mayBeDone_149 : decode b_M_mayBeDone 149 = .ok (.aload_n 0, 1) := by decide +kernel
theorem d_M_mayBeDone_150 : decode b_M_mayBeDone 150 = .ok (.getfield 13, 3) := by decide +kernel
theorem d_M_mayBeDone_153 : decode b_M_mayBeDone 153 = .ok (.iload_n 1, 1) := by decide +kernel
theorem d_M_mayBeDone_154 : decode b_M_mayBeDone 154 = .ok (.iconst 2, 1) := by decide +kernel
theorem d_M_mayBeDone_155 : decode b_M_mayBeDone 155 = .ok (.iastore, 1) := by decide +kernel
theorem d_M_mayBeDone_156 : decode b_M_mayBeDone 156 = .ok (.return_, 1) := by decide +kernel
theorem d_M_count_0 : decode b_M_count 0 = .ok (.iconst 0, 1) := by decide +kernel
theorem d_M_count_1 : decode b_M_count 1 = .ok (.istore_n 2, 1) := by decide +kernel
theorem d_M_count_2 : decode b_M_count 2 = .ok (.iconst 0, 1) := by decide +kernel
theorem d_M_count_3 : decode b_M_count 3 = .ok (.istore_n 3, 1) := by decide +kernel
theorem d_M_count_4 : decode b_M_count 4 = .ok (.iload_n 3, 1) := by decide +kernel
theorem d_M_count_5 : decode b_M_count 5 = .ok (.bipush 8, 2) := by decide +kernel
theorem d_M_count_7 : decode b_M_count 7 = .ok (.if_icmp .ge 31, 3) := by decide +kernel
theorem d_M_count_10 : decode b_M_count 10 = .ok (.iload_n 2, 1) := by decide +kernel
theorem d_M_count_11 : decode b_M_count 11 = .ok (.aload_n 0, 1) := by decide +kernel
theorem d_M_count_12 : decode b_M_count 12 = .ok (.getfield 23, 3) := by decide +kernel
theorem d_M_count_15 : decode b_M_count 15 = .ok (.bipush 8, 2) := by decide +kernel
theorem d_M_count_17 : decode b_M_count 17 = .ok (.iload_n 1, 1) := by decide +kernel
theorem d_M_count_18 : decode b_M_count 18 = .ok (.imul, 1) := by decide +kernel
theorem d_M_count_19 : decode b_M_count 19 = .ok (.iload_n 3, 1) := by decide +kernel
theorem d_M_count_20 : decode b_M_count 20 = .ok (.iadd, 1) := by decide +kernel
theorem d_M_count_21 : decode b_M_count 21 = .ok (.baload, 1) := by decide +kernel
theorem d_M_count_22 : decode b_M_count 22 = .ok (.ifCond .eq 7, 3) := by decide +kernel
theorem d_M_count_25 : decode b_M_count 25 = .ok (.iconst 1, 1) := by decide +kernel
theorem d_M_count_26 : decode b_M_count 26 = .ok (.goto 4, 3) := by decide +kernel
theorem d_M_count_29 : decode b_M_count 29 = .ok (.iconst 0, 1) := by decide +kernel
theorem d_M_count_30 : decode b_M_count 30 = .ok (.iadd, 1) := by decide +kernel
theorem d_M_count_31 : decode b_M_count 31 = .ok (.istore_n 2, 1) := by decide +kernel
theorem d_M_count_32 : decode b_M_count 32 = .ok (.iinc 3 1, 3) := by decide +kernel
theorem d_M_count_35 : decode b_M_count 35 = .ok (.goto (-31), 3) := by decide +kernel
theorem d_M_count_38 : decode b_M_count 38 = .ok (.iload_n 2, 1) := by decide +kernel
theorem d_M_count_39 : decode b_M_count 39 = .ok (.ireturn, 1) := by decide +kernel
theorem d_M_joinedOf_0 : decode b_M_joinedOf 0 = .ok (.iconst 0, 1) := by decide +kernel
theorem d_M_joinedOf_1 : decode b_M_joinedOf 1 = .ok (.istore_n 2, 1) := by decide +kernel
theorem d_M_joinedOf_2 : decode b_M_joinedOf 2 = .ok (.iconst 0, 1) := by decide +kernel
theorem d_M_joinedOf_3 : decode b_M_joinedOf 3 = .ok (.istore_n 3, 1) := by decide +kernel
theorem d_M_joinedOf_4 : decode b_M_joinedOf 4 = .ok (.iload_n 3, 1) := by decide +kernel
theorem d_M_joinedOf_5 : decode b_M_joinedOf 5 = .ok (.bipush 8, 2) := by decide +kernel
theorem d_M_joinedOf_7 : decode b_M_joinedOf 7 = .ok (.if_icmp .ge 45, 3) := by decide +kernel
theorem d_M_joinedOf_10 : decode b_M_joinedOf 10 = .ok (.iload_n 2, 1) := by decide +kernel
theorem d_M_joinedOf_11 : decode b_M_joinedOf 11 = .ok (.aload_n 0, 1) := by decide +kernel
theorem d_M_joinedOf_12 : decode b_M_joinedOf 12 = .ok (.getfield 23, 3) := by decide +kernel
theorem d_M_joinedOf_15 : decode b_M_joinedOf 15 = .ok (.bipush 8, 2) := by decide +kernel
theorem d_M_joinedOf_17 : decode b_M_joinedOf 17 = .ok (.iload_n 1, 1) := by decide +kernel
theorem d_M_joinedOf_18 : decode b_M_joinedOf 18 = .ok (.imul, 1) := by decide +kernel
theorem d_M_joinedOf_19 : decode b_M_joinedOf 19 = .ok (.iload_n 3, 1) := by decide +kernel
theorem d_M_joinedOf_20 : decode b_M_joinedOf 20 = .ok (.iadd, 1) := by decide +kernel
theorem d_M_joinedOf_21 : decode b_M_joinedOf 21 = .ok (.baload, 1) := by decide +kernel
theorem d_M_joinedOf_22 : decode b_M_joinedOf 22 = .ok (.ifCond .eq 21, 3) := by decide +kernel
theorem d_M_joinedOf_25 : decode b_M_joinedOf 25 = .ok (.aload_n 0, 1) := by decide +kernel
theorem d_M_joinedOf_26 : decode b_M_joinedOf 26 = .ok (.getfield 27, 3) := by decide +kernel
theorem d_M_joinedOf_29 : decode b_M_joinedOf 29 = .ok (.bipush 8, 2) := by decide +kernel
theorem d_M_joinedOf_31 : decode b_M_joinedOf 31 = .ok (.iload_n 1, 1) := by decide +kernel
theorem d_M_joinedOf_32 : decode b_M_joinedOf 32 = .ok (.imul, 1) := by decide +kernel
theorem d_M_joinedOf_33 : decode b_M_joinedOf 33 = .ok (.iload_n 3, 1) := by decide +kernel
theorem d_M_joinedOf_34 : decode b_M_joinedOf 34 = .ok (.iadd, 1) := by decide +kernel
theorem d_M_joinedOf_35 : decode b_M_joinedOf 35 = .ok (.baload, 1) := by decide +kernel
theorem d_M_joinedOf_36 : decode b_M_joinedOf 36 = .ok (.ifCond .eq 7, 3) := by decide +kernel
theorem d_M_joinedOf_39 : decode b_M_joinedOf 39 = .ok (.iconst 1, 1) := by decide +kernel
theorem d_M_joinedOf_40 : decode b_M_joinedOf 40 = .ok (.goto 4, 3) := by decide +kernel
theorem d_M_joinedOf_43 : decode b_M_joinedOf 43 = .ok (.iconst 0, 1) := by decide +kernel
theorem d_M_joinedOf_44 : decode b_M_joinedOf 44 = .ok (.iadd, 1) := by decide +kernel
theorem d_M_joinedOf_45 : decode b_M_joinedOf 45 = .ok (.istore_n 2, 1) := by decide +kernel
theorem d_M_joinedOf_46 : decode b_M_joinedOf 46 = .ok (.iinc 3 1, 3) := by decide +kernel
theorem d_M_joinedOf_49 : decode b_M_joinedOf 49 = .ok (.goto (-45), 3) := by decide +kernel
theorem d_M_joinedOf_52 : decode b_M_joinedOf 52 = .ok (.iload_n 2, 1) := by decide +kernel
theorem d_M_joinedOf_53 : decode b_M_joinedOf 53 = .ok (.ireturn, 1) := by decide +kernel
theorem d_M_empties_0 : decode b_M_empties 0 = .ok (.aload_n 0, 1) := by decide +kernel
theorem d_M_empties_1 : decode b_M_empties 1 = .ok (.getfield 13, 3) := by decide +kernel
theorem d_M_empties_4 : decode b_M_empties 4 = .ok (.iload_n 1, 1) := by decide +kernel
theorem d_M_empties_5 : decode b_M_empties 5 = .ok (.iconst 0, 1) := by decide +kernel
theorem d_M_empties_6 : decode b_M_empties 6 = .ok (.iastore, 1) := by decide +kernel
theorem d_M_empties_7 : decode b_M_empties 7 = .ok (.iconst 0, 1) := by decide +kernel
theorem d_M_empties_8 : decode b_M_empties 8 = .ok (.istore_n 2, 1) := by decide +kernel
theorem d_M_empties_9 : decode b_M_empties 9 = .ok (.iload_n 2, 1) := by decide +kernel
theorem d_M_empties_10 : decode b_M_empties 10 = .ok (.bipush 8, 2) := by decide +kernel
theorem d_M_empties_12 : decode b_M_empties 12 = .ok (.if_icmp .ge 33, 3) := by decide +kernel
theorem d_M_empties_15 : decode b_M_empties 15 = .ok (.aload_n 0, 1) := by decide +kernel
theorem d_M_empties_16 : decode b_M_empties 16 = .ok (.getfield 23, 3) := by decide +kernel
theorem d_M_empties_19 : decode b_M_empties 19 = .ok (.bipush 8, 2) := by decide +kernel
theorem d_M_empties_21 : decode b_M_empties 21 = .ok (.iload_n 1, 1) := by decide +kernel
theorem d_M_empties_22 : decode b_M_empties 22 = .ok (.imul, 1) := by decide +kernel
theorem d_M_empties_23 : decode b_M_empties 23 = .ok (.iload_n 2, 1) := by decide +kernel
theorem d_M_empties_24 : decode b_M_empties 24 = .ok (.iadd, 1) := by decide +kernel
theorem d_M_empties_25 : decode b_M_empties 25 = .ok (.iconst 0, 1) := by decide +kernel
theorem d_M_empties_26 : decode b_M_empties 26 = .ok (.bastore, 1) := by decide +kernel
theorem d_M_empties_27 : decode b_M_empties 27 = .ok (.aload_n 0, 1) := by decide +kernel
theorem d_M_empties_28 : decode b_M_empties 28 = .ok (.getfield 27, 3) := by decide +kernel
theorem d_M_empties_31 : decode b_M_empties 31 = .ok (.bipush 8, 2) := by decide +kernel
theorem d_M_empties_33 : decode b_M_empties 33 = .ok (.iload_n 1, 1) := by decide +kernel
theorem d_M_empties_34 : decode b_M_empties 34 = .ok (.imul, 1) := by decide +kernel
theorem d_M_empties_35 : decode b_M_empties 35 = .ok (.iload_n 2, 1) := by decide +kernel
theorem d_M_empties_36 : decode b_M_empties 36 = .ok (.iadd, 1) := by decide +kernel
theorem d_M_empties_37 : decode b_M_empties 37 = .ok (.iconst 0, 1) := by decide +kernel
theorem d_M_empties_38 : decode b_M_empties 38 = .ok (.bastore, 1) := by decide +kernel
theorem d_M_empties_39 : decode b_M_empties 39 = .ok (.iinc 2 1, 3) := by decide +kernel
theorem d_M_empties_42 : decode b_M_empties 42 = .ok (.goto (-33), 3) := by decide +kernel
theorem d_M_empties_45 : decode b_M_empties 45 = .ok (.return_, 1) := by decide +kernel
theorem d_M_takesNote_0 : decode b_M_takesNote 0 = .ok (.aload_n 0, 1) := by decide +kernel
theorem d_M_takesNote_1 : decode b_M_takesNote 1 = .ok (.getfield 7, 3) := by decide +kernel
theorem d_M_takesNote_4 : decode b_M_takesNote 4 = .ok (.ifCond .ne 5, 3) := by decide +kernel
theorem d_M_takesNote_7 : decode b_M_takesNote 7 = .ok (.iconst 0, 1) := by decide +kernel
theorem d_M_takesNote_8 : decode b_M_takesNote 8 = .ok (.ireturn, 1) := by decide +kernel
theorem d_M_takesNote_9 : decode b_M_takesNote 9 = .ok (.aload_n 0, 1) := by decide +kernel
theorem d_M_takesNote_10 : decode b_M_takesNote 10 = .ok (.dup, 1) := by decide +kernel
theorem d_M_takesNote_11 : decode b_M_takesNote 11 = .ok (.getfield 7, 3) := by decide +kernel
theorem d_M_takesNote_14 : decode b_M_takesNote 14 = .ok (.iconst 1, 1) := by decide +kernel
theorem d_M_takesNote_15 : decode b_M_takesNote 15 = .ok (.isub, 1) := by decide +kernel
theorem d_M_takesNote_16 : decode b_M_takesNote 16 = .ok (.putfield 7, 3) := by decide +kernel
theorem d_M_takesNote_19 : decode b_M_takesNote 19 = .ok (.aload_n 0, 1) := by decide +kernel
theorem d_M_takesNote_20 : decode b_M_takesNote 20 = .ok (.dup, 1) := by decide +kernel
theorem d_M_takesNote_21 : decode b_M_takesNote 21 = .ok (.getfield 45, 3) := by decide +kernel
theorem d_M_takesNote_24 : decode b_M_takesNote 24 = .ok (.iconst 1, 1) := by decide +kernel
theorem d_M_takesNote_25 : decode b_M_takesNote 25 = .ok (.iadd, 1) := by decide +kernel
theorem d_M_takesNote_26 : decode b_M_takesNote 26 = .ok (.putfield 45, 3) := by decide +kernel
theorem d_M_takesNote_29 : decode b_M_takesNote 29 = .ok (.iconst 1, 1) := by decide +kernel
theorem d_M_takesNote_30 : decode b_M_takesNote 30 = .ok (.ireturn, 1) := by decide +kernel
theorem d_M_leave_0 : decode b_M_leave 0 = .ok (.aload_n 0, 1) := by decide +kernel
theorem d_M_leave_1 : decode b_M_leave 1 = .ok (.iload_n 1, 1) := by decide +kernel
theorem d_M_leave_2 : decode b_M_leave 2 = .ok (.invokestatic 69, 3) := by decide +kernel
theorem d_M_leave_5 : decode b_M_leave 5 = .ok (.ifCond .eq 14, 3) := by decide +kernel
theorem d_M_leave_8 : decode b_M_leave 8 = .ok (.iload_n 2, 1) := by decide +kernel
theorem d_M_leave_9 : decode b_M_leave 9 = .ok (.invokestatic 69, 3) := by decide +kernel
theorem d_M_leave_12 : decode b_M_leave 12 = .ok (.ifCond .eq 7, 3) := by decide +kernel
theorem d_M_leave_15 : decode b_M_leave 15 = .ok (.iconst 1, 1) := by decide +kernel
theorem d_M_leave_16 : decode b_M_leave 16 = .ok (.goto 4, 3) := by decide +kernel
theorem d_M_leave_19 : decode b_M_leave 19 = .ok (.iconst 0, 1) := by decide +kernel
theorem d_M_leave_20 : decode b_M_leave 20 = .ok (.invokevirtual 73, 3) := by decide +kernel
theorem d_M_leave_23 : decode b_M_leave 23 = .ok (.ifCond .ne 5, 3) := by decide +kernel
theorem d_M_leave_26 : decode b_M_leave 26 = .ok (.iconst 0, 1) := by decide +kernel
theorem d_M_leave_27 : decode b_M_leave 27 = .ok (.ireturn, 1) := by decide +kernel
theorem d_M_leave_28 : decode b_M_leave 28 = .ok (.aload_n 0, 1) := by decide +kernel
theorem d_M_leave_29 : decode b_M_leave 29 = .ok (.getfield 23, 3) := by decide +kernel
theorem d_M_leave_32 : decode b_M_leave 32 = .ok (.bipush 8, 2) := by decide +kernel
theorem d_M_leave_34 : decode b_M_leave 34 = .ok (.iload_n 1, 1) := by decide +kernel
theorem d_M_leave_35 : decode b_M_leave 35 = .ok (.imul, 1) := by decide +kernel
theorem d_M_leave_36 : decode b_M_leave 36 = .ok (.iload_n 2, 1) := by decide +kernel
theorem d_M_leave_37 : decode b_M_leave 37 = .ok (.iadd, 1) := by decide +kernel
theorem d_M_leave_38 : decode b_M_leave 38 = .ok (.baload, 1) := by decide +kernel
theorem d_M_leave_39 : decode b_M_leave 39 = .ok (.ifCond .ne 6, 3) := by decide +kernel
theorem d_M_leave_42 : decode b_M_leave 42 = .ok (.bipush (-8), 2) := by decide +kernel
theorem d_M_leave_44 : decode b_M_leave 44 = .ok (.ireturn, 1) := by decide +kernel
theorem d_M_leave_45 : decode b_M_leave 45 = .ok (.aload_n 0, 1) := by decide +kernel
theorem d_M_leave_46 : decode b_M_leave 46 = .ok (.getfield 23, 3) := by decide +kernel
theorem d_M_leave_49 : decode b_M_leave 49 = .ok (.bipush 8, 2) := by decide +kernel
theorem d_M_leave_51 : decode b_M_leave 51 = .ok (.iload_n 1, 1) := by decide +kernel
theorem d_M_leave_52 : decode b_M_leave 52 = .ok (.imul, 1) := by decide +kernel
theorem d_M_leave_53 : decode b_M_leave 53 = .ok (.iload_n 2, 1) := by decide +kernel
theorem d_M_leave_54 : decode b_M_leave 54 = .ok (.iadd, 1) := by decide +kernel
theorem d_M_leave_55 : decode b_M_leave 55 = .ok (.iconst 0, 1) := by decide +kernel
theorem d_M_leave_56 : decode b_M_leave 56 = .ok (.bastore, 1) := by decide +kernel
theorem d_M_leave_57 : decode b_M_leave 57 = .ok (.aload_n 0, 1) := by decide +kernel
theorem d_M_leave_58 : decode b_M_leave 58 = .ok (.getfield 27, 3) := by decide +kernel
theorem d_M_leave_61 : decode b_M_leave 61 = .ok (.bipush 8, 2) := by decide +kernel
theorem d_M_leave_63 : decode b_M_leave 63 = .ok (.iload_n 1, 1) := by decide +kernel
theorem d_M_leave_64 : decode b_M_leave 64 = .ok (.imul, 1) := by decide +kernel
theorem d_M_leave_65 : decode b_M_leave 65 = .ok (.iload_n 2, 1) := by decide +kernel
theorem d_M_leave_66 : decode b_M_leave 66 = .ok (.iadd, 1) := by decide +kernel
theorem d_M_leave_67 : decode b_M_leave 67 = .ok (.iconst 0, 1) := by decide +kernel
theorem d_M_leave_68 : decode b_M_leave 68 = .ok (.bastore, 1) := by decide +kernel
theorem d_M_leave_69 : decode b_M_leave 69 = .ok (.aload_n 0, 1) := by decide +kernel
theorem d_M_leave_70 : decode b_M_leave 70 = .ok (.iload_n 1, 1) := by decide +kernel
theorem d_M_leave_71 : decode b_M_leave 71 = .ok (.invokevirtual 80, 3) := by decide +kernel
theorem d_M_leave_74 : decode b_M_leave 74 = .ok (.aload_n 0, 1) := by decide +kernel
theorem d_M_leave_75 : decode b_M_leave 75 = .ok (.iload_n 1, 1) := by decide +kernel
theorem d_M_leave_76 : decode b_M_leave 76 = .ok (.invokevirtual 77, 3) := by decide +kernel
theorem d_M_leave_79 : decode b_M_leave 79 = .ok (.iconst 1, 1) := by decide +kernel
theorem d_M_leave_80 : decode b_M_leave 80 = .ok (.ireturn, 1) := by decide +kernel
theorem d_M_without_0 : decode b_M_without 0 = .ok (.aload_n 0, 1) := by decide +kernel
theorem d_M_without_1 : decode b_M_without 1 = .ok (.iload_n 1, 1) := by decide +kernel
theorem d_M_without_2 : decode b_M_without 2 = .ok (.invokevirtual 51, 3) := by decide +kernel
theorem d_M_without_5 : decode b_M_without 5 = .ok (.ifCond .ne 11, 3) := by decide +kernel
theorem d_M_without_8 : decode b_M_without 8 = .ok (.aload_n 0, 1) := by decide +kernel
theorem d_M_without_9 : decode b_M_without 9 = .ok (.iload_n 1, 1) := by decide +kernel
theorem d_M_without_10 : decode b_M_without 10 = .ok (.invokevirtual 58, 3) := by decide +kernel
theorem d_M_without_13 : decode b_M_without 13 = .ok (.goto 18, 3) := by decide +kernel
theorem d_M_without_16 : decode b_M_without 16 = .ok (.aload_n 0, 1) := by decide +kernel
theorem d_M_without_17 : decode b_M_without 17 = .ok (.getfield 13, 3) := by decide +kernel
theorem d_M_without_20 : decode b_M_without 20 = .ok (.iload_n 1, 1) := by decide +kernel
theorem d_M_without_21 : decode b_M_without 21 = .ok (.iaload, 1) := by decide +kernel
theorem d_M_without_22 : decode b_M_without 22 = .ok (.iconst 2, 1) := by decide +kernel
theorem d_M_without_23 : decode b_M_without 23 = .ok (.if_icmp .ne 8, 3) := by decide +kernel
theorem d_M_without_26 : decode b_M_without 26 = .ok (.aload_n 0, 1) := by decide +kernel
theorem d_M_without_27 : decode b_M_without 27 = .ok (.iload_n 1, 1) := by decide +kernel
theorem d_M_without_28 : decode b_M_without 28 = .ok (.invokevirtual 66, 3) := by decide +kernel
theorem d_M_without_31 : decode b_M_without 31 = .ok (.return_, 1) := by decide +kernel
theorem d_M_beat_0 : decode b_M_beat 0 = .ok (.aload_n 0, 1) := by decide +kernel
theorem d_M_beat_1 : decode b_M_beat 1 = .ok (.iload_n 1, 1) := by decide +kernel
theorem d_M_beat_2 : decode b_M_beat 2 = .ok (.invokestatic 69, 3) := by decide +kernel
theorem d_M_beat_5 : decode b_M_beat 5 = .ok (.ifCond .eq 14, 3) := by decide +kernel
theorem d_M_beat_8 : decode b_M_beat 8 = .ok (.iload_n 2, 1) := by decide +kernel
theorem d_M_beat_9 : decode b_M_beat 9 = .ok (.invokestatic 69, 3) := by decide +kernel
theorem d_M_beat_12 : decode b_M_beat 12 = .ok (.ifCond .eq 7, 3) := by decide +kernel
theorem d_M_beat_15 : decode b_M_beat 15 = .ok (.iconst 1, 1) := by decide +kernel
theorem d_M_beat_16 : decode b_M_beat 16 = .ok (.goto 4, 3) := by decide +kernel
theorem d_M_beat_19 : decode b_M_beat 19 = .ok (.iconst 0, 1) := by decide +kernel
theorem d_M_beat_20 : decode b_M_beat 20 = .ok (.invokevirtual 73, 3) := by decide +kernel
theorem d_M_beat_23 : decode b_M_beat 23 = .ok (.ifCond .ne 5, 3) := by decide +kernel
theorem d_M_beat_26 : decode b_M_beat 26 = .ok (.iconst 0, 1) := by decide +kernel
theorem d_M_beat_27 : decode b_M_beat 27 = .ok (.ireturn, 1) := by decide +kernel
theorem d_M_beat_28 : decode b_M_beat 28 = .ok (.aload_n 0, 1) := by decide +kernel
theorem d_M_beat_29 : decode b_M_beat 29 = .ok (.getfield 23, 3) := by decide +kernel
theorem d_M_beat_32 : decode b_M_beat 32 = .ok (.bipush 8, 2) := by decide +kernel
theorem d_M_beat_34 : decode b_M_beat 34 = .ok (.iload_n 1, 1) := by decide +kernel
theorem d_M_beat_35 : decode b_M_beat 35 = .ok (.imul, 1) := by decide +kernel
theorem d_M_beat_36 : decode b_M_beat 36 = .ok (.iload_n 2, 1) := by decide +kernel
theorem d_M_beat_37 : decode b_M_beat 37 = .ok (.iadd, 1) := by decide +kernel
theorem d_M_beat_38 : decode b_M_beat 38 = .ok (.baload, 1) := by decide +kernel
theorem d_M_beat_39 : decode b_M_beat 39 = .ok (.ifCond .eq 13, 3) := by decide +kernel
theorem d_M_beat_42 : decode b_M_beat 42 = .ok (.iload_n 3, 1) := by decide +kernel
theorem d_M_beat_43 : decode b_M_beat 43 = .ok (.aload_n 0, 1) := by decide +kernel
theorem d_M_beat_44 : decode b_M_beat 44 = .ok (.getfield 17, 3) := by decide +kernel
theorem d_M_beat_47 : decode b_M_beat 47 = .ok (.iload_n 1, 1) := by decide +kernel
theorem d_M_beat_48 : decode b_M_beat 48 = .ok (.iaload, 1) := by decide +kernel
theorem d_M_beat_49 : decode b_M_beat 49 = .ok (.if_icmp .eq 25, 3) := by decide +kernel
theorem d_M_beat_52 : decode b_M_beat 52 = .ok (.aload_n 0, 1) := by decide +kernel
theorem d_M_beat_53 : decode b_M_beat 53 = .ok (.getfield 23, 3) := by decide +kernel
theorem d_M_beat_56 : decode b_M_beat 56 = .ok (.bipush 8, 2) := by decide +kernel
theorem d_M_beat_58 : decode b_M_beat 58 = .ok (.iload_n 1, 1) := by decide +kernel
theorem d_M_beat_59 : decode b_M_beat 59 = .ok (.imul, 1) := by decide +kernel
theorem d_M_beat_60 : decode b_M_beat 60 = .ok (.iload_n 2, 1) := by decide +kernel
theorem d_M_beat_61 : decode b_M_beat 61 = .ok (.iadd, 1) := by decide +kernel
theorem d_M_beat_62 : decode b_M_beat 62 = .ok (.baload, 1) := by decide +kernel
theorem d_M_beat_63 : decode b_M_beat 63 = .ok (.ifCond .eq 8, 3) := by decide +kernel
theorem d_M_beat_66 : decode b_M_beat 66 = .ok (.bipush (-9), 2) := by decide +kernel
theorem d_M_beat_68 : decode b_M_beat 68 = .ok (.goto 5, 3) := by decide +kernel
theorem d_M_beat_71 : decode b_M_beat 71 = .ok (.bipush (-8), 2) := by decide +kernel
theorem d_M_beat_73 : decode b_M_beat 73 = .ok (.ireturn, 1) := by decide +kernel
theorem d_M_beat_74 : decode b_M_beat 74 = .ok (.aload_n 0, 1) := by decide +kernel
theorem d_M_beat_75 : decode b_M_beat 75 = .ok (.getfield 30, 3) := by decide +kernel
theorem d_M_beat_78 : decode b_M_beat 78 = .ok (.bipush 8, 2) := by decide +kernel
theorem d_M_beat_80 : decode b_M_beat 80 = .ok (.iload_n 1, 1) := by decide +kernel
theorem d_M_beat_81 : decode b_M_beat 81 = .ok (.imul, 1) := by decide +kernel
theorem d_M_beat_82 : decode b_M_beat 82 = .ok (.iload_n 2, 1) := by decide +kernel
theorem d_M_beat_83 : decode b_M_beat 83 = .ok (.iadd, 1) := by decide +kernel
theorem d_M_beat_84 : decode b_M_beat 84 = .ok (.aload_n 0, 1) := by decide +kernel
theorem d_M_beat_85 : decode b_M_beat 85 = .ok (.getfield 48, 3) := by decide +kernel
theorem d_M_beat_88 : decode b_M_beat 88 = .ok (.iastore, 1) := by decide +kernel
theorem d_M_beat_89 : decode b_M_beat 89 = .ok (.aload_n 0, 1) := by decide +kernel
theorem d_M_beat_90 : decode b_M_beat 90 = .ok (.getfield 13, 3) := by decide +kernel
theorem d_M_beat_93 : decode b_M_beat 93 = .ok (.iload_n 1, 1) := by decide +kernel
theorem d_M_beat_94 : decode b_M_beat 94 = .ok (.iaload, 1) := by decide +kernel
theorem d_M_beat_95 : decode b_M_beat 95 = .ok (.iconst 1, 1) := by decide +kernel
theorem d_M_beat_96 : decode b_M_beat 96 = .ok (.if_icmp .ne 21, 3) := by decide +kernel
theorem d_M_beat_99 : decode b_M_beat 99 = .ok (.aload_n 0, 1) := by decide +kernel
theorem d_M_beat_100 : decode b_M_beat 100 = .ok (.getfield 27, 3) := by decide +kernel
theorem d_M_beat_103 : decode b_M_beat 103 = .ok (.bipush 8, 2) := by decide +kernel
theorem d_M_beat_105 : decode b_M_beat 105 = .ok (.iload_n 1, 1) := by decide +kernel
theorem d_M_beat_106 : decode b_M_beat 106 = .ok (.imul, 1) := by decide +kernel
theorem d_M_beat_107 : decode b_M_beat 107 = .ok (.iload_n 2, 1) := by decide +kernel
theorem d_M_beat_108 : decode b_M_beat 108 = .ok (.iadd, 1) := by decide +kernel
theorem d_M_beat_109 : decode b_M_beat 109 = .ok (.baload, 1) := by decide +kernel
theorem d_M_beat_110 : decode b_M_beat 110 = .ok (.ifCond .ne 7, 3) := by decide +kernel
theorem d_M_beat_113 : decode b_M_beat 113 = .ok (.iconst 1, 1) := by decide +kernel
theorem d_M_beat_114 : decode b_M_beat 114 = .ok (.goto 4, 3) := by decide +kernel
theorem d_M_beat_117 : decode b_M_beat 117 = .ok (.iconst 0, 1) := by decide +kernel
theorem d_M_beat_118 : decode b_M_beat 118 = .ok (.ireturn, 1) := by decide +kernel
theorem d_M_commit_0 : decode b_M_commit 0 = .ok (.aload_n 0, 1) := by decide +kernel
theorem d_M_commit_1 : decode b_M_commit 1 = .ok (.iload_n 1, 1) := by decide +kernel
theorem d_M_commit_2 : decode b_M_commit 2 = .ok (.invokestatic 69, 3) := by decide +kernel
theorem d_M_commit_5 : decode b_M_commit 5 = .ok (.ifCond .eq 35, 3) := by decide +kernel
theorem d_M_commit_8 : decode b_M_commit 8 = .ok (.iload_n 2, 1) := by decide +kernel
theorem d_M_commit_9 : decode b_M_commit 9 = .ok (.invokestatic 69, 3) := by decide +kernel
theorem d_M_commit_12 : decode b_M_commit 12 = .ok (.ifCond .eq 28, 3) := by decide +kernel
theorem d_M_commit_15 : decode b_M_commit 15 = .ok (.iload 4, 2) := by decide +kernel
theorem d_M_commit_17 : decode b_M_commit 17 = .ok (.ifCond .lt 23, 3) := by decide +kernel
theorem d_M_commit_20 : decode b_M_commit 20 = .ok (.iload 4, 2) := by decide +kernel
theorem d_M_commit_22 : decode b_M_commit 22 = .ok (.aload_n 0, 1) := by decide +kernel
theorem d_M_commit_23 : decode b_M_commit 23 = .ok (.getfield 37, 3) := by decide +kernel
theorem d_M_commit_26 : decode b_M_commit 26 = .ok (.if_icmp .ge 14, 3) := by decide +kernel
theorem d_M_commit_29 : decode b_M_commit 29 = .ok (.lload 5, 2) := by decide +kernel
theorem d_M_commit_31 : decode b_M_commit 31 = .ok (.lconst 0, 1) := by decide +kernel
theorem d_M_commit_32 : decode b_M_commit 32 = .ok (.lcmp, 1) := by decide +kernel
theorem d_M_commit_33 : decode b_M_commit 33 = .ok (.ifCond .lt 7, 3) := by decide +kernel
theorem d_M_commit_36 : decode b_M_commit 36 = .ok (.iconst 1, 1) := by decide +kernel
theorem d_M_commit_37 : decode b_M_commit 37 = .ok (.goto 4, 3) := by decide +kernel
theorem d_M_commit_40 : decode b_M_commit 40 = .ok (.iconst 0, 1) := by decide +kernel
theorem d_M_commit_41 : decode b_M_commit 41 = .ok (.invokevirtual 73, 3) := by decide +kernel
theorem d_M_commit_44 : decode b_M_commit 44 = .ok (.ifCond .ne 5, 3) := by decide +kernel
theorem d_M_commit_47 : decode b_M_commit 47 = .ok (.iconst 0, 1) := by decide +kernel
theorem d_M_commit_48 : decode b_M_commit 48 = .ok (.ireturn, 1) := by decide +kernel
theorem d_M_commit_49 : decode b_M_commit 49 = .ok (.aload_n 0, 1) := by decide +kernel
theorem d_M_commit_50 : decode b_M_commit 50 = .ok (.getfield 23, 3) := by decide +kernel
theorem d_M_commit_53 : decode b_M_commit 53 = .ok (.bipush 8, 2) := by decide +kernel
theorem d_M_commit_55 : decode b_M_commit 55 = .ok (.iload_n 1, 1) := by decide +kernel
theorem d_M_commit_56 : decode b_M_commit 56 = .ok (.imul, 1) := by decide +kernel
theorem d_M_commit_57 : decode b_M_commit 57 = .ok (.iload_n 2, 1) := by decide +kernel
theorem d_M_commit_58 : decode b_M_commit 58 = .ok (.iadd, 1) := by decide +kernel
theorem d_M_commit_59 : decode b_M_commit 59 = .ok (.baload, 1) := by decide +kernel
theorem d_M_commit_60 : decode b_M_commit 60 = .ok (.ifCond .ne 6, 3) := by decide +kernel
theorem d_M_commit_63 : decode b_M_commit 63 = .ok (.bipush (-8), 2) := by decide +kernel
theorem d_M_commit_65 : decode b_M_commit 65 = .ok (.ireturn, 1) := by decide +kernel
theorem d_M_commit_66 : decode b_M_commit 66 = .ok (.iload_n 3, 1) := by decide +kernel
theorem d_M_commit_67 : decode b_M_commit 67 = .ok (.aload_n 0, 1) := by decide +kernel
theorem d_M_commit_68 : decode b_M_commit 68 = .ok (.getfield 17, 3) := by decide +kernel
theorem d_M_commit_71 : decode b_M_commit 71 = .ok (.iload_n 1, 1) := by decide +kernel
theorem d_M_commit_72 : decode b_M_commit 72 = .ok (.iaload, 1) := by decide +kernel
theorem d_M_commit_73 : decode b_M_commit 73 = .ok (.if_icmp .eq 6, 3) := by decide +kernel
theorem d_M_commit_76 : decode b_M_commit 76 = .ok (.bipush (-9), 2) := by decide +kernel
theorem d_M_commit_78 : decode b_M_commit 78 = .ok (.ireturn, 1) := by decide +kernel
theorem d_M_commit_79 : decode b_M_commit 79 = .ok (.aload_n 0, 1) := by decide +kernel
theorem d_M_commit_80 : decode b_M_commit 80 = .ok (.getfield 13, 3) := by decide +kernel
theorem d_M_commit_83 : decode b_M_commit 83 = .ok (.iload_n 1, 1) := by decide +kernel
theorem d_M_commit_84 : decode b_M_commit 84 = .ok (.iaload, 1) := by decide +kernel
theorem d_M_commit_85 : decode b_M_commit 85 = .ok (.iconst 2, 1) := by decide +kernel
theorem d_M_commit_86 : decode b_M_commit 86 = .ok (.if_icmp .eq 6, 3) := by decide +kernel
theorem d_M_commit_89 : decode b_M_commit 89 = .ok (.bipush (-10), 2) := by decide +kernel
theorem d_M_commit_91 : decode b_M_commit 91 = .ok (.ireturn, 1) := by decide +kernel
theorem d_M_commit_92 : decode b_M_commit 92 = .ok (.aload_n 0, 1) := by decide +kernel
theorem d_M_commit_93 : decode b_M_commit 93 = .ok (.iload_n 1, 1) := by decide +kernel
theorem d_M_commit_94 : decode b_M_commit 94 = .ok (.iload 4, 2) := by decide +kernel
theorem d_M_commit_96 : decode b_M_commit 96 = .ok (.invokevirtual 83, 3) := by decide +kernel
theorem d_M_commit_99 : decode b_M_commit 99 = .ok (.iload_n 2, 1) := by decide +kernel
theorem d_M_commit_100 : decode b_M_commit 100 = .ok (.if_icmp .eq 6, 3) := by decide +kernel
theorem d_M_commit_103 : decode b_M_commit 103 = .ok (.bipush (-11), 2) := by decide +kernel
theorem d_M_commit_105 : decode b_M_commit 105 = .ok (.ireturn, 1) := by decide +kernel
theorem d_M_commit_106 : decode b_M_commit 106 = .ok (.aload_n 0, 1) := by decide +kernel
theorem d_M_commit_107 : decode b_M_commit 107 = .ok (.invokevirtual 62, 3) := by decide +kernel
theorem d_M_commit_110 : decode b_M_commit 110 = .ok (.ifCond .ne 6, 3) := by decide +kernel
theorem d_M_commit_113 : decode b_M_commit 113 = .ok (.bipush (-2), 2) := by decide +kernel
theorem d_M_commit_115 : decode b_M_commit 115 = .ok (.ireturn, 1) := by decide +kernel
theorem d_M_commit_116 : decode b_M_commit 116 = .ok (.aload_n 0, 1) := by decide +kernel
theorem d_M_commit_117 : decode b_M_commit 117 = .ok (.getfield 33, 3) := by decide +kernel
theorem d_M_commit_120 : decode b_M_commit 120 = .ok (.bipush 8, 2) := by decide +kernel
theorem d_M_commit_122 : decode b_M_commit 122 = .ok (.iload_n 1, 1) := by decide +kernel
theorem d_M_commit_123 : decode b_M_commit 123 = .ok (.imul, 1) := by decide +kernel
theorem d_M_commit_124 : decode b_M_commit 124 = .ok (.iload 4, 2) := by decide +kernel
theorem d_M_commit_126 : decode b_M_commit 126 = .ok (.iadd, 1) := by decide +kernel
theorem d_M_commit_127 : decode b_M_commit 127 = .ok (.lload 5, 2) := by decide +kernel
theorem d_M_commit_129 : decode b_M_commit 129 = .ok (.lastore, 1) := by decide +kernel
theorem d_M_commit_130 : decode b_M_commit 130 = .ok (.aload_n 0, 1) := by decide +kernel
theorem d_M_commit_131 : decode b_M_commit 131 = .ok (.getfield 30, 3) := by decide +kernel
theorem d_M_commit_134 : decode b_M_commit 134 = .ok (.bipush 8, 2) := by decide +kernel
theorem d_M_commit_136 : decode b_M_commit 136 = .ok (.iload_n 1, 1) := by decide +kernel
theorem d_M_commit_137 : decode b_M_commit 137 = .ok (.imul, 1) := by decide +kernel
theorem d_M_commit_138 : decode b_M_commit 138 = .ok (.iload_n 2, 1) := by decide +kernel
theorem d_M_commit_139 : decode b_M_commit 139 = .ok (.iadd, 1) := by decide +kernel
theorem d_M_commit_140 : decode b_M_commit 140 = .ok (.aload_n 0, 1) := by decide +kernel
theorem d_M_commit_141 : decode b_M_commit 141 = .ok (.getfield 48, 3) := by decide +kernel
theorem d_M_commit_144 : decode b_M_commit 144 = .ok (.iastore, 1) := by decide +kernel
theorem d_M_commit_145 : decode b_M_commit 145 = .ok (.iconst 0, 1) := by decide +kernel
theorem d_M_commit_146 : decode b_M_commit 146 = .ok (.ireturn, 1) := by decide +kernel
theorem d_M_owner_0 : decode b_M_owner 0 = .ok (.iconst (-1), 1) := by decide +kernel
theorem d_M_owner_1 : decode b_M_owner 1 = .ok (.istore_n 3, 1) := by decide +kernel
theorem d_M_owner_2 : decode b_M_owner 2 = .ok (.iconst 0, 1) := by decide +kernel
theorem d_M_owner_3 : decode b_M_owner 3 = .ok (.istore 4, 2) := by decide +kernel
theorem d_M_owner_5 : decode b_M_owner 5 = .ok (.iload 4, 2) := by decide +kernel
theorem d_M_owner_7 : decode b_M_owner 7 = .ok (.iload_n 2, 1) := by decide +kernel
theorem d_M_owner_8 : decode b_M_owner 8 = .ok (.if_icmp .gt 35, 3) := by decide +kernel
theorem d_M_owner_11 : decode b_M_owner 11 = .ok (.iinc 3 1, 3) := by decide +kernel
theorem d_M_owner_14 : decode b_M_owner 14 = .ok (.aload_n 0, 1) := by decide +kernel
theorem d_M_owner_15 : decode b_M_owner 15 = .ok (.getfield 23, 3) := by decide +kernel
theorem d_M_owner_18 : decode b_M_owner 18 = .ok (.bipush 8, 2) := by decide +kernel
theorem d_M_owner_20 : decode b_M_owner 20 = .ok (.iload_n 1, 1) := by decide +kernel
theorem d_M_owner_21 : decode b_M_owner 21 = .ok (.imul, 1) := by decide +kernel
theorem d_M_owner_22 : decode b_M_owner 22 = .ok (.iload_n 3, 1) := by decide +kernel
theorem d_M_owner_23 : decode b_M_owner 23 = .ok (.bipush 8, 2) := by decide +kernel
theorem d_M_owner_25 : decode b_M_owner 25 = .ok (.irem, 1) := by decide +kernel
theorem d_M_owner_26 : decode b_M_owner 26 = .ok (.iadd, 1) := by decide +kernel
theorem d_M_owner_27 : decode b_M_owner 27 = .ok (.baload, 1) := by decide +kernel
theorem d_M_owner_28 : decode b_M_owner 28 = .ok (.ifCond .ne 9, 3) := by decide +kernel
theorem d_M_owner_31 : decode b_M_owner 31 = .ok (.iinc 3 1, 3) := by decide +kernel
theorem d_M_owner_34 : decode b_M_owner 34 = .ok (.goto (-20), 3) := by decide +kernel
theorem d_M_owner_37 : decode b_M_owner 37 = .ok (.iinc 4 1, 3) := by decide +kernel
theorem d_M_owner_40 : decode b_M_owner 40 = .ok (.goto (-35), 3) := by decide +kernel
theorem d_M_owner_43 : decode b_M_owner 43 = .ok (.iload_n 3, 1) := by decide +kernel
theorem d_M_owner_44 : decode b_M_owner 44 = .ok (.bipush 8, 2) := by decide +kernel
theorem d_M_owner_46 : decode b_M_owner 46 = .ok (.irem, 1) := by decide +kernel
theorem d_M_owner_47 : decode b_M_owner 47 = .ok (.ireturn, 1) := by decide +kernel
theorem d_M_committed_0 : decode b_M_committed 0 = .ok (.aload_n 0, 1) := by decide +kernel
theorem d_M_committed_1 : decode b_M_committed 1 = .ok (.iload_n 1, 1) := by decide +kernel
theorem d_M_committed_2 : decode b_M_committed 2 = .ok (.invokestatic 69, 3) := by decide +kernel
theorem d_M_committed_5 : decode b_M_committed 5 = .ok (.ifCond .eq 19, 3) := by decide +kernel
theorem d_M_committed_8 : decode b_M_committed 8 = .ok (.iload_n 2, 1) := by decide +kernel
theorem d_M_committed_9 : decode b_M_committed 9 = .ok (.ifCond .lt 15, 3) := by decide +kernel
theorem d_M_committed_12 : decode b_M_committed 12 = .ok (.iload_n 2, 1) := by decide +kernel
theorem d_M_committed_13 : decode b_M_committed 13 = .ok (.aload_n 0, 1) := by decide +kernel
theorem d_M_committed_14 : decode b_M_committed 14 = .ok (.getfield 37, 3) := by decide +kernel
theorem d_M_committed_17 : decode b_M_committed 17 = .ok (.if_icmp .ge 7, 3) := by decide +kernel
theorem d_M_committed_20 : decode b_M_committed 20 = .ok (.iconst 0, 1) := by decide +kernel
theorem d_M_committed_21 : decode b_M_committed 21 = .ok (.goto 4, 3) := by decide +kernel
theorem d_M_committed_24 : decode b_M_committed 24 = .ok (.iconst 1, 1) := by decide +kernel
theorem d_M_committed_25 : decode b_M_committed 25 = .ok (.putfield 42, 3) := by decide +kernel
theorem d_M_committed_28 : decode b_M_committed 28 = .ok (.aload_n 0, 1) := by decide +kernel
theorem d_M_committed_29 : decode b_M_committed 29 = .ok (.getfield 42, 3) := by decide +kernel
theorem d_M_committed_32 : decode b_M_committed 32 = .ok (.ifCond .le 7, 3) := by decide +kernel
theorem d_M_committed_35 : decode b_M_committed 35 = .ok (.lconst 0, 1) := by decide +kernel
theorem d_M_committed_36 : decode b_M_committed 36 = .ok (.goto 14, 3) := by decide +kernel
theorem d_M_committed_39 : decode b_M_committed 39 = .ok (.aload_n 0, 1) := by decide +kernel
theorem d_M_committed_40 : decode b_M_committed 40 = .ok (.getfield 33, 3) := by decide +kernel
theorem d_M_committed_43 : decode b_M_committed 43 = .ok (.bipush 8, 2) := by decide +kernel
theorem d_M_committed_45 : decode b_M_committed 45 = .ok (.iload_n 1, 1) := by decide +kernel
theorem d_M_committed_46 : decode b_M_committed 46 = .ok (.imul, 1) := by decide +kernel
theorem d_M_committed_47 : decode b_M_committed 47 = .ok (.iload_n 2, 1) := by decide +kernel
theorem d_M_committed_48 : decode b_M_committed 48 = .ok (.iadd, 1) := by decide +kernel
theorem d_M_committed_49 : decode b_M_committed 49 = .ok (.laload, 1) := by decide +kernel
theorem d_M_committed_50 : decode b_M_committed 50 = .ok (.lreturn, 1) := by decide +kernel
theorem d_M_group_0 : decode b_M_group 0 = .ok (.aload_n 0, 1) := by decide +kernel
theorem d_M_group_1 : decode b_M_group 1 = .ok (.iload_n 1, 1) := by decide +kernel
theorem d_M_group_2 : decode b_M_group 2 = .ok (.invokestatic 69, 3) := by decide +kernel
theorem d_M_group_5 : decode b_M_group 5 = .ok (.ifCond .eq 16, 3) := by decide +kernel
theorem d_M_group_8 : decode b_M_group 8 = .ok (.iload_n 2, 1) := by decide +kernel
theorem d_M_group_9 : decode b_M_group 9 = .ok (.ifCond .lt 12, 3) := by decide +kernel
theorem d_M_group_12 : decode b_M_group 12 = .ok (.iload_n 2, 1) := by decide +kernel
theorem d_M_group_13 : decode b_M_group 13 = .ok (.iconst 4, 1) := by decide +kernel
theorem d_M_group_14 : decode b_M_group 14 = .ok (.if_icmp .gt 7, 3) := by decide +kernel
theorem d_M_group_17 : decode b_M_group 17 = .ok (.iconst 1, 1) := by decide +kernel
theorem d_M_group_18 : decode b_M_group 18 = .ok (.goto 4, 3) := by decide +kernel
theorem d_M_group_21 : decode b_M_group 21 = .ok (.iconst 0, 1) := by decide +kernel
theorem d_M_group_22 : decode b_M_group 22 = .ok (.invokevirtual 73, 3) := by decide +kernel
theorem d_M_group_25 : decode b_M_group 25 = .ok (.ifCond .ne 5, 3) := by decide +kernel
theorem d_M_group_28 : decode b_M_group 28 = .ok (.iconst 0, 1) := by decide +kernel
theorem d_M_group_29 : decode b_M_group 29 = .ok (.ireturn, 1) := by decide +kernel
theorem d_M_group_30 : decode b_M_group 30 = .ok (.iload_n 2, 1) := by decide +kernel
theorem d_M_group_31 : decode b_M_group 31 = .ok (.iconst 2, 1) := by decide +kernel
theorem d_M_group_32 : decode b_M_group 32 = .ok (.if_icmp .ge 23, 3) := by decide +kernel
theorem d_M_group_35 : decode b_M_group 35 = .ok (.iload_n 2, 1) := by decide +kernel
theorem d_M_group_36 : decode b_M_group 36 = .ok (.ifCond .ne 12, 3) := by decide +kernel
theorem d_M_group_39 : decode b_M_group 39 = .ok (.aload_n 0, 1) := by decide +kernel
theorem d_M_group_40 : decode b_M_group 40 = .ok (.getfield 17, 3) := by decide +kernel
theorem d_M_group_43 : decode b_M_group 43 = .ok (.iload_n 1, 1) := by decide +kernel
theorem d_M_group_44 : decode b_M_group 44 = .ok (.iaload, 1) := by decide +kernel
theorem d_M_group_45 : decode b_M_group 45 = .ok (.goto 9, 3) := by decide +kernel
theorem d_M_group_48 : decode b_M_group 48 = .ok (.aload_n 0, 1) := by decide +kernel
theorem d_M_group_49 : decode b_M_group 49 = .ok (.getfield 13, 3) := by decide +kernel
theorem d_M_group_52 : decode b_M_group 52 = .ok (.iload_n 1, 1) := by decide +kernel
theorem d_M_group_53 : decode b_M_group 53 = .ok (.iaload, 1) := by decide +kernel
theorem d_M_group_54 : decode b_M_group 54 = .ok (.ireturn, 1) := by decide +kernel
theorem d_M_group_55 : decode b_M_group 55 = .ok (.iload_n 2, 1) := by decide +kernel
theorem d_M_group_56 : decode b_M_group 56 = .ok (.iconst 4, 1) := by decide +kernel
theorem d_M_group_57 : decode b_M_group 57 = .ok (.if_icmp .ne 42, 3) := by decide +kernel
theorem d_M_group_60 : decode b_M_group 60 = .ok (.aload_n 0, 1) := by decide +kernel
theorem d_M_group_61 : decode b_M_group 61 = .ok (.getfield 13, 3) := by decide +kernel
theorem d_M_group_64 : decode b_M_group 64 = .ok (.iload_n 1, 1) := by decide +kernel
theorem d_M_group_65 : decode b_M_group 65 = .ok (.iaload, 1) := by decide +kernel
theorem d_M_group_66 : decode b_M_group 66 = .ok (.iconst 1, 1) := by decide +kernel
theorem d_M_group_67 : decode b_M_group 67 = .ok (.if_icmp .ne 30, 3) := by decide +kernel
theorem d_M_group_70 : decode b_M_group 70 = .ok (.aload_n 0, 1) := by decide +kernel
theorem d_M_group_71 : decode b_M_group 71 = .ok (.getfield 20, 3) := by decide +kernel
theorem d_M_group_74 : decode b_M_group 74 = .ok (.iload_n 1, 1) := by decide +kernel
theorem d_M_group_75 : decode b_M_group 75 = .ok (.iaload, 1) := by decide +kernel
theorem d_M_group_76 : decode b_M_group 76 = .ok (.aload_n 0, 1) := by decide +kernel
theorem d_M_group_77 : decode b_M_group 77 = .ok (.getfield 48, 3) := by decide +kernel
theorem d_M_group_80 : decode b_M_group 80 = .ok (.if_icmp .le 17, 3) := by decide +kernel
theorem d_M_group_83 : decode b_M_group 83 = .ok (.aload_n 0, 1) := by decide +kernel
theorem d_M_group_84 : decode b_M_group 84 = .ok (.getfield 20, 3) := by decide +kernel
theorem d_M_group_87 : decode b_M_group 87 = .ok (.iload_n 1, 1) := by decide +kernel
theorem d_M_group_88 : decode b_M_group 88 = .ok (.iaload, 1) := by decide +kernel
theorem d_M_group_89 : decode b_M_group 89 = .ok (.aload_n 0, 1) := by decide +kernel
theorem d_M_group_90 : decode b_M_group 90 = .ok (.getfield 48, 3) := by decide +kernel
theorem d_M_group_93 : decode b_M_group 93 = .ok (.isub, 1) := by decide +kernel
theorem d_M_group_94 : decode b_M_group 94 = .ok (.goto 4, 3) := by decide +kernel
theorem d_M_group_97 : decode b_M_group 97 = .ok (.iconst 0, 1) := by decide +kernel
theorem d_M_group_98 : decode b_M_group 98 = .ok (.ireturn, 1) := by decide +kernel
theorem d_M_group_99 : decode b_M_group 99 = .ok (.iconst 0, 1) := by decide +kernel
theorem d_M_group_100 : decode b_M_group 100 = .ok (.istore_n 3, 1) := by decide +kernel
theorem d_M_group_101 : decode b_M_group 101 = .ok (.bipush 7, 2) := by decide +kernel
theorem d_M_group_103 : decode b_M_group 103 = .ok (.istore 4, 2) := by decide +kernel
theorem d_M_group_105 : decode b_M_group 105 = .ok (.iload 4, 2) := by decide +kernel
theorem d_M_group_107 : decode b_M_group 107 = .ok (.ifCond .lt 76, 3) := by decide +kernel
theorem d_M_group_110 : decode b_M_group 110 = .ok (.aload_n 0, 1) := by decide +kernel
theorem d_M_group_111 : decode b_M_group 111 = .ok (.getfield 23, 3) := by decide +kernel
theorem d_M_group_114 : decode b_M_group 114 = .ok (.bipush 8, 2) := by decide +kernel
theorem d_M_group_116 : decode b_M_group 116 = .ok (.iload_n 1, 1) := by decide +kernel
theorem d_M_group_117 : decode b_M_group 117 = .ok (.imul, 1) := by decide +kernel
theorem d_M_group_118 : decode b_M_group 118 = .ok (.iload 4, 2) := by decide +kernel
theorem d_M_group_120 : decode b_M_group 120 = .ok (.iadd, 1) := by decide +kernel
theorem d_M_group_121 : decode b_M_group 121 = .ok (.baload, 1) := by decide +kernel
theorem d_M_group_122 : decode b_M_group 122 = .ok (.ifCond .eq 37, 3) := by decide +kernel
theorem d_M_group_125 : decode b_M_group 125 = .ok (.iload_n 2, 1) := by decide +kernel
theorem d_M_group_126 : decode b_M_group 126 = .ok (.iconst 2, 1) := by decide +kernel
theorem d_M_group_127 : decode b_M_group 127 = .ok (.if_icmp .eq 28, 3) := by decide +kernel
theorem d_M_group_130 : decode b_M_group 130 = .ok (.aload_n 0, 1) := by decide +kernel
theorem d_M_group_131 : decode b_M_group 131 = .ok (.getfield 13, 3) := by decide +kernel
theorem d_M_group_134 : decode b_M_group 134 = .ok (.iload_n 1, 1) := by decide +kernel
theorem d_M_group_135 : decode b_M_group 135 = .ok (.iaload, 1) := by decide +kernel
theorem d_M_group_136 : decode b_M_group 136 = .ok (.iconst 2, 1) := by decide +kernel
theorem d_M_group_137 : decode b_M_group 137 = .ok (.if_icmp .eq 18, 3) := by decide +kernel
theorem d_M_group_140 : decode b_M_group 140 = .ok (.aload_n 0, 1) := by decide +kernel
theorem d_M_group_141 : decode b_M_group 141 = .ok (.getfield 27, 3) := by decide +kernel
theorem d_M_group_144 : decode b_M_group 144 = .ok (.bipush 8, 2) := by decide +kernel
theorem d_M_group_146 : decode b_M_group 146 = .ok (.iload_n 1, 1) := by decide +kernel
theorem d_M_group_147 : decode b_M_group 147 = .ok (.imul, 1) := by decide +kernel
theorem d_M_group_148 : decode b_M_group 148 = .ok (.iload 4, 2) := by decide +kernel
theorem d_M_group_150 : decode b_M_group 150 = .ok (.iadd, 1) := by decide +kernel
theorem d_M_group_151 : decode b_M_group 151 = .ok (.baload, 1) := by decide +kernel
theorem d_M_group_152 : decode b_M_group 152 = .ok (.ifCond .eq 7, 3) := by decide +kernel
theorem d_M_group_155 : decode b_M_group 155 = .ok (.iconst 1, 1) := by decide +kernel
theorem d_M_group_156 : decode b_M_group 156 = .ok (.goto 4, 3) := by decide +kernel
theorem d_M_group_159 : decode b_M_group 159 = .ok (.iconst 0, 1) := by decide +kernel
theorem d_M_group_160 : decode b_M_group 160 = .ok (.istore 5, 2) := by decide +kernel
theorem d_M_group_162 : decode b_M_group 162 = .ok (.iconst 2, 1) := by decide +kernel
theorem d_M_group_163 : decode b_M_group 163 = .ok (.iload_n 3, 1) := by decide +kernel
theorem d_M_group_164 : decode b_M_group 164 = .ok (.imul, 1) := by decide +kernel
theorem d_M_group_165 : decode b_M_group 165 = .ok (.iload 5, 2) := by decide +kernel
theorem d_M_group_167 : decode b_M_group 167 = .ok (.ifCond .eq 7, 3) := by decide +kernel
theorem d_M_group_170 : decode b_M_group 170 = .ok (.iconst 1, 1) := by decide +kernel
theorem d_M_group_171 : decode b_M_group 171 = .ok (.goto 4, 3) := by decide +kernel
theorem d_M_group_174 : decode b_M_group 174 = .ok (.iconst 0, 1) := by decide +kernel
theorem d_M_group_175 : decode b_M_group 175 = .ok (.iadd, 1) := by decide +kernel
theorem d_M_group_176 : decode b_M_group 176 = .ok (.istore_n 3, 1) := by decide +kernel
theorem d_M_group_177 : decode b_M_group 177 = .ok (.iinc 4 (-1), 3) := by decide +kernel
theorem d_M_group_180 : decode b_M_group 180 = .ok (.goto (-75), 3) := by decide +kernel
theorem d_M_group_183 : decode b_M_group 183 = .ok (.iload_n 3, 1) := by decide +kernel
theorem d_M_group_184 : decode b_M_group 184 = .ok (.ireturn, 1) := by decide +kernel
theorem d_M_share_0 : decode b_M_share 0 = .ok (.aload_n 0, 1) := by decide +kernel
theorem d_M_share_1 : decode b_M_share 1 = .ok (.iload_n 1, 1) := by decide +kernel
theorem d_M_share_2 : decode b_M_share 2 = .ok (.invokestatic 69, 3) := by decide +kernel
theorem d_M_share_5 : decode b_M_share 5 = .ok (.ifCond .eq 14, 3) := by decide +kernel
theorem d_M_share_8 : decode b_M_share 8 = .ok (.iload_n 2, 1) := by decide +kernel
theorem d_M_share_9 : decode b_M_share 9 = .ok (.invokestatic 69, 3) := by decide +kernel
theorem d_M_share_12 : decode b_M_share 12 = .ok (.ifCond .eq 7, 3) := by decide +kernel
theorem d_M_share_15 : decode b_M_share 15 = .ok (.iconst 1, 1) := by decide +kernel
theorem d_M_share_16 : decode b_M_share 16 = .ok (.goto 4, 3) := by decide +kernel
theorem d_M_share_19 : decode b_M_share 19 = .ok (.iconst 0, 1) := by decide +kernel
theorem d_M_share_20 : decode b_M_share 20 = .ok (.invokevirtual 73, 3) := by decide +kernel
theorem d_M_share_23 : decode b_M_share 23 = .ok (.ifCond .eq 27, 3) := by decide +kernel
theorem d_M_share_26 : decode b_M_share 26 = .ok (.aload_n 0, 1) := by decide +kernel
theorem d_M_share_27 : decode b_M_share 27 = .ok (.getfield 13, 3) := by decide +kernel
theorem d_M_share_30 : decode b_M_share 30 = .ok (.iload_n 1, 1) := by decide +kernel
theorem d_M_share_31 : decode b_M_share 31 = .ok (.iaload, 1) := by decide +kernel
theorem d_M_share_32 : decode b_M_share 32 = .ok (.iconst 2, 1) := by decide +kernel
theorem d_M_share_33 : decode b_M_share 33 = .ok (.if_icmp .ne 17, 3) := by decide +kernel
theorem d_M_share_36 : decode b_M_share 36 = .ok (.aload_n 0, 1) := by decide +kernel
theorem d_M_share_37 : decode b_M_share 37 = .ok (.getfield 23, 3) := by decide +kernel
theorem d_M_share_40 : decode b_M_share 40 = .ok (.bipush 8, 2) := by decide +kernel
theorem d_M_share_42 : decode b_M_share 42 = .ok (.iload_n 1, 1) := by decide +kernel
theorem d_M_share_43 : decode b_M_share 43 = .ok (.imul, 1) := by decide +kernel
theorem d_M_share_44 : decode b_M_share 44 = .ok (.iload_n 2, 1) := by decide +kernel
theorem d_M_share_45 : decode b_M_share 45 = .ok (.iadd, 1) := by decide +kernel
theorem d_M_share_46 : decode b_M_share 46 = .ok (.baload, 1) := by decide +kernel
theorem d_M_share_47 : decode b_M_share 47 = .ok (.ifCond .ne 5, 3) := by decide +kernel
theorem d_M_share_50 : decode b_M_share 50 = .ok (.iconst 0, 1) := by decide +kernel
theorem d_M_share_51 : decode b_M_share 51 = .ok (.ireturn, 1) := by decide +kernel
theorem d_M_share_52 : decode b_M_share 52 = .ok (.iconst 0, 1) := by decide +kernel
theorem d_M_share_53 : decode b_M_share 53 = .ok (.istore_n 3, 1) := by decide +kernel
theorem d_M_share_54 : decode b_M_share 54 = .ok (.aload_n 0, 1) := by decide +kernel
theorem d_M_share_55 : decode b_M_share 55 = .ok (.getfield 37, 3) := by decide +kernel
theorem d_M_share_58 : decode b_M_share 58 = .ok (.iconst 1, 1) := by decide +kernel
theorem d_M_share_59 : decode b_M_share 59 = .ok (.isub, 1) := by decide +kernel
theorem d_M_share_60 : decode b_M_share 60 = .ok (.istore 4, 2) := by decide +kernel
theorem d_M_share_62 : decode b_M_share 62 = .ok (.iload 4, 2) := by decide +kernel
theorem d_M_share_64 : decode b_M_share 64 = .ok (.ifCond .lt 30, 3) := by decide +kernel
theorem d_M_share_67 : decode b_M_share 67 = .ok (.iconst 2, 1) := by decide +kernel
theorem d_M_share_68 : decode b_M_share 68 = .ok (.iload_n 3, 1) := by decide +kernel
theorem d_M_share_69 : decode b_M_share 69 = .ok (.imul, 1) := by decide +kernel
theorem d_M_share_70 : decode b_M_share 70 = .ok (.aload_n 0, 1) := by decide +kernel
theorem d_M_share_71 : decode b_M_share 71 = .ok (.iload_n 1, 1) := by decide +kernel
theorem d_M_share_72 : decode b_M_share 72 = .ok (.iload 4, 2) := by decide +kernel
theorem d_M_share_74 : decode b_M_share 74 = .ok (.invokevirtual 83, 3) := by decide +kernel
theorem d_M_share_77 : decode b_M_share 77 = .ok (.iload_n 2, 1) := by decide +kernel
theorem d_M_share_78 : decode b_M_share 78 = .ok (.if_icmp .ne 7, 3) := by decide +kernel
theorem d_M_share_81 : decode b_M_share 81 = .ok (.iconst 1, 1) := by decide +kernel
theorem d_M_share_82 : decode b_M_share 82 = .ok (.goto 4, 3) := by decide +kernel
theorem d_M_share_85 : decode b_M_share 85 = .ok (.iconst 0, 1) := by decide +kernel
theorem d_M_share_86 : decode b_M_share 86 = .ok (.iadd, 1) := by decide +kernel
theorem d_M_share_87 : decode b_M_share 87 = .ok (.istore_n 3, 1) := by decide +kernel
theorem d_M_share_88 : decode b_M_share 88 = .ok (.iinc 4 (-1), 3) := by decide +kernel
theorem d_M_share_91 : decode b_M_share 91 = .ok (.goto (-29), 3) := by decide +kernel
theorem d_M_share_94 : decode b_M_share 94 = .ok (.iload_n 3, 1) := by decide +kernel
theorem d_M_share_95 : decode b_M_share 95 = .ok (.ireturn, 1) := by decide +kernel
theorem d_M_room_0 : decode b_M_room 0 = .ok (.aload_n 0, 1) := by decide +kernel
theorem d_M_room_1 : decode b_M_room 1 = .ok (.iload_n 1, 1) := by decide +kernel
theorem d_M_room_2 : decode b_M_room 2 = .ok (.ifCond .lt 13, 3) := by decide +kernel
theorem d_M_room_5 : decode b_M_room 5 = .ok (.iload_n 1, 1) := by decide +kernel
theorem d_M_room_6 : decode b_M_room 6 = .ok (.ldc 87, 2) := by decide +kernel
theorem d_M_room_8 : decode b_M_room 8 = .ok (.if_icmp .gt 7, 3) := by decide +kernel
theorem d_M_room_11 : decode b_M_room 11 = .ok (.iconst 1, 1) := by decide +kernel
theorem d_M_room_12 : decode b_M_room 12 = .ok (.goto 4, 3) := by decide +kernel
theorem d_M_room_15 : decode b_M_room 15 = .ok (.iconst 0, 1) := by decide +kernel
theorem d_M_room_16 : decode b_M_room 16 = .ok (.invokevirtual 73, 3) := by decide +kernel
theorem d_M_room_19 : decode b_M_room 19 = .ok (.ifCond .ne 5, 3) := by decide +kernel
theorem d_M_room_22 : decode b_M_room 22 = .ok (.iconst 0, 1) := by decide +kernel
theorem d_M_room_23 : decode b_M_room 23 = .ok (.ireturn, 1) := by decide +kernel
theorem d_M_room_24 : decode b_M_room 24 = .ok (.aload_n 0, 1) := by decide +kernel
theorem d_M_room_25 : decode b_M_room 25 = .ok (.getfield 7, 3) := by decide +kernel
theorem d_M_room_28 : decode b_M_room 28 = .ok (.istore_n 2, 1) := by decide +kernel
theorem d_M_room_29 : decode b_M_room 29 = .ok (.aload_n 0, 1) := by decide +kernel
theorem d_M_room_30 : decode b_M_room 30 = .ok (.iload_n 1, 1) := by decide +kernel
theorem d_M_room_31 : decode b_M_room 31 = .ok (.putfield 7, 3) := by decide +kernel
theorem d_M_room_34 : decode b_M_room 34 = .ok (.iload_n 2, 1) := by decide +kernel
theorem d_M_room_35 : decode b_M_room 35 = .ok (.ireturn, 1) := by decide +kernel
theorem d_M_restart_0 : decode b_M_restart 0 = .ok (.aload_n 0, 1) := by decide +kernel
theorem d_M_restart_1 : decode b_M_restart 1 = .ok (.iconst 0, 1) := by decide +kernel
theorem d_M_restart_2 : decode b_M_restart 2 = .ok (.putfield 42, 3) := by decide +kernel
theorem d_M_restart_5 : decode b_M_restart 5 = .ok (.iconst 0, 1) := by decide +kernel
theorem d_M_restart_6 : decode b_M_restart 6 = .ok (.istore_n 1, 1) := by decide +kernel
theorem d_M_restart_7 : decode b_M_restart 7 = .ok (.iconst 0, 1) := by decide +kernel
theorem d_M_restart_8 : decode b_M_restart 8 = .ok (.istore_n 2, 1) := by decide +kernel
theorem d_M_restart_9 : decode b_M_restart 9 = .ok (.iload_n 2, 1) := by decide +kernel
theorem d_M_restart_10 : decode b_M_restart 10 = .ok (.bipush 8, 2) := by decide +kernel
theorem d_M_restart_12 : decode b_M_restart 12 = .ok (.if_icmp .ge 22, 3) := by decide +kernel
theorem d_M_restart_15 : decode b_M_restart 15 = .ok (.iload_n 1, 1) := by decide +kernel
theorem d_M_restart_16 : decode b_M_restart 16 = .ok (.aload_n 0, 1) := by decide +kernel
theorem d_M_restart_17 : decode b_M_restart 17 = .ok (.iload_n 2, 1) := by decide +kernel
theorem d_M_restart_18 : decode b_M_restart 18 = .ok (.invokevirtual 51, 3) := by decide +kernel
theorem d_M_restart_21 : decode b_M_restart 21 = .ok (.iadd, 1) := by decide +kernel
theorem d_M_restart_22 : decode b_M_restart 22 = .ok (.istore_n 1, 1) := by decide +kernel
theorem d_M_restart_23 : decode b_M_restart 23 = .ok (.aload_n 0, 1) := by decide +kernel
theorem d_M_restart_24 : decode b_M_restart 24 = .ok (.iload_n 2, 1) := by decide +kernel
theorem d_M_restart_25 : decode b_M_restart 25 = .ok (.invokevirtual 58, 3) := by decide +kernel
theorem d_M_restart_28 : decode b_M_restart 28 = .ok (.iinc 2 1, 3) := by decide +kernel
theorem d_M_restart_31 : decode b_M_restart 31 = .ok (.goto (-22), 3) := by decide +kernel
theorem d_M_restart_34 : decode b_M_restart 34 = .ok (.iload_n 1, 1) := by decide +kernel
theorem d_M_restart_35 : decode b_M_restart 35 = .ok (.ireturn, 1) := by decide +kernel
theorem d_M_ticks_0 : decode b_M_ticks 0 = .ok (.aload_n 0, 1) := by decide +kernel
theorem d_M_ticks_1 : decode b_M_ticks 1 = .ok (.iload_n 1, 1) := by decide +kernel
theorem d_M_ticks_2 : decode b_M_ticks 2 = .ok (.iconst 1, 1) := by decide +kernel
theorem d_M_ticks_3 : decode b_M_ticks 3 = .ok (.if_icmp .lt 25, 3) := by decide +kernel
theorem d_M_ticks_6 : decode b_M_ticks 6 = .ok (.iload_n 1, 1) := by decide +kernel
theorem d_M_ticks_7 : decode b_M_ticks 7 = .ok (.sipush 200, 3) := by decide +kernel
theorem d_M_ticks_10 : decode b_M_ticks 10 = .ok (.if_icmp .gt 18, 3) := by decide +kernel
theorem d_M_ticks_13 : decode b_M_ticks 13 = .ok (.aload_n 0, 1) := by decide +kernel
theorem d_M_ticks_14 : decode b_M_ticks 14 = .ok (.getfield 48, 3) := by decide +kernel
theorem d_M_ticks_17 : decode b_M_ticks 17 = .ok (.iload_n 1, 1) := by decide +kernel
theorem d_M_ticks_18 : decode b_M_ticks 18 = .ok (.iadd, 1) := by decide +kernel
theorem d_M_ticks_19 : decode b_M_ticks 19 = .ok (.ldc 88, 2) := by decide +kernel
theorem d_M_ticks_21 : decode b_M_ticks 21 = .ok (.if_icmp .gt 7, 3) := by decide +kernel
theorem d_M_ticks_24 : decode b_M_ticks 24 = .ok (.iconst 1, 1) := by decide +kernel
theorem d_M_ticks_25 : decode b_M_ticks 25 = .ok (.goto 4, 3) := by decide +kernel
theorem d_M_ticks_28 : decode b_M_ticks 28 = .ok (.iconst 0, 1) := by decide +kernel
theorem d_M_ticks_29 : decode b_M_ticks 29 = .ok (.invokevirtual 73, 3) := by decide +kernel
theorem d_M_ticks_32 : decode b_M_ticks 32 = .ok (.ifCond .ne 5, 3) := by decide +kernel
theorem d_M_ticks_35 : decode b_M_ticks 35 = .ok (.iconst 0, 1) := by decide +kernel
theorem d_M_ticks_36 : decode b_M_ticks 36 = .ok (.ireturn, 1) := by decide +kernel
theorem d_M_ticks_37 : decode b_M_ticks 37 = .ok (.iconst 0, 1) := by decide +kernel
theorem d_M_ticks_38 : decode b_M_ticks 38 = .ok (.istore_n 2, 1) := by decide +kernel
theorem d_M_ticks_39 : decode b_M_ticks 39 = .ok (.iload_n 2, 1) := by decide +kernel
theorem d_M_ticks_40 : decode b_M_ticks 40 = .ok (.iload_n 1, 1) := by decide +kernel
theorem d_M_ticks_41 : decode b_M_ticks 41 = .ok (.if_icmp .ge 38, 3) := by decide +kernel
theorem d_M_ticks_44 : decode b_M_ticks 44 = .ok (.aload_n 0, 1) := by decide +kernel
theorem d_M_ticks_45 : decode b_M_ticks 45 = .ok (.dup, 1) := by decide +kernel
theorem d_M_ticks_46 : decode b_M_ticks 46 = .ok (.getfield 48, 3) := by decide +kernel
theorem d_M_ticks_49 : decode b_M_ticks 49 = .ok (.iconst 1, 1) := by decide +kernel
theorem d_M_ticks_50 : decode b_M_ticks 50 = .ok (.iadd, 1) := by decide +kernel
theorem d_M_ticks_51 : decode b_M_ticks 51 = .ok (.putfield 48, 3) := by decide +kernel
theorem d_M_ticks_54 : decode b_M_ticks 54 = .ok (.iconst 0, 1) := by decide +kernel
theorem d_M_ticks_55 : decode b_M_ticks 55 = .ok (.istore_n 3, 1) := by decide +kernel
theorem d_M_ticks_56 : decode b_M_ticks 56 = .ok (.iload_n 3, 1) := by decide +kernel
theorem d_M_ticks_57 : decode b_M_ticks 57 = .ok (.bipush 8, 2) := by decide +kernel
theorem d_M_ticks_59 : decode b_M_ticks 59 = .ok (.if_icmp .ge 14, 3) := by decide +kernel
theorem d_M_ticks_62 : decode b_M_ticks 62 = .ok (.aload_n 0, 1) := by decide +kernel
theorem d_M_ticks_63 : decode b_M_ticks 63 = .ok (.iload_n 3, 1) := by decide +kernel
theorem d_M_ticks_64 : decode b_M_ticks 64 = .ok (.invokevirtual 89, 3) := by decide +kernel
theorem d_M_ticks_67 : decode b_M_ticks 67 = .ok (.iinc 3 1, 3) := by decide +kernel
theorem d_M_ticks_70 : decode b_M_ticks 70 = .ok (.goto (-14), 3) := by decide +kernel
theorem d_M_ticks_73 : decode b_M_ticks 73 = .ok (.iinc 2 1, 3) := by decide +kernel
theorem d_M_ticks_76 : decode b_M_ticks 76 = .ok (.goto (-37), 3) := by decide +kernel
theorem d_M_ticks_79 : decode b_M_ticks 79 = .ok (.aload_n 0, 1) := by decide +kernel
theorem d_M_ticks_80 : decode b_M_ticks 80 = .ok (.getfield 48, 3) := by decide +kernel
theorem d_M_ticks_83 : decode b_M_ticks 83 = .ok (.ireturn, 1) := by decide +kernel
theorem d_M_tick_0 : decode b_M_tick 0 = .ok (.iconst 0, 1) := by decide +kernel
theorem d_M_tick_1 : decode b_M_tick 1 = .ok (.istore_n 2, 1) := by decide +kernel
theorem d_M_tick_2 : decode b_M_tick 2 = .ok (.iconst 0, 1) := by decide +kernel
theorem d_M_tick_3 : decode b_M_tick 3 = .ok (.istore_n 3, 1) := by decide +kernel
theorem d_M_tick_4 : decode b_M_tick 4 = .ok (.iload_n 3, 1) := by decide +kernel
theorem d_M_tick_5 : decode b_M_tick 5 = .ok (.bipush 8, 2) := by decide +kernel
theorem d_M_tick_7 : decode b_M_tick 7 = .ok (.if_icmp .ge 68, 3) := by decide +kernel
theorem d_M_tick_10 : decode b_M_tick 10 = .ok (.aload_n 0, 1) := by decide +kernel
theorem d_M_tick_11 : decode b_M_tick 11 = .ok (.getfield 13, 3) := by decide +kernel
theorem d_M_tick_14 : decode b_M_tick 14 = .ok (.iload_n 1, 1) := by decide +kernel
theorem d_M_tick_15 : decode b_M_tick 15 = .ok (.iaload, 1) := by decide +kernel
theorem d_M_tick_16 : decode b_M_tick 16 = .ok (.iconst 2, 1) := by decide +kernel
theorem d_M_tick_17 : decode b_M_tick 17 = .ok (.if_icmp .ne 58, 3) := by decide +kernel
theorem d_M_tick_20 : decode b_M_tick 20 = .ok (.aload_n 0, 1) := by decide +kernel
theorem d_M_tick_21 : decode b_M_tick 21 = .ok (.getfield 23, 3) := by decide +kernel
theorem d_M_tick_24 : decode b_M_tick 24 = .ok (.bipush 8, 2) := by decide +kernel
theorem d_M_tick_26 : decode b_M_tick 26 = .ok (.iload_n 1, 1) := by decide +kernel
theorem d_M_tick_27 : decode b_M_tick 27 = .ok (.imul, 1) := by decide +kernel
theorem d_M_tick_28 : decode b_M_tick 28 = .ok (.iload_n 3, 1) := by decide +kernel
theorem d_M_tick_29 : decode b_M_tick 29 = .ok (.iadd, 1) := by decide +kernel
theorem d_M_tick_30 : decode b_M_tick 30 = .ok (.baload, 1) := by decide +kernel
theorem d_M_tick_31 : decode b_M_tick 31 = .ok (.ifCond .eq 38, 3) := by decide +kernel
theorem d_M_tick_34 : decode b_M_tick 34 = .ok (.aload_n 0, 1) := by decide +kernel
theorem d_M_tick_35 : decode b_M_tick 35 = .ok (.getfield 48, 3) := by decide +kernel
theorem d_M_tick_38 : decode b_M_tick 38 = .ok (.aload_n 0, 1) := by decide +kernel
theorem d_M_tick_39 : decode b_M_tick 39 = .ok (.getfield 30, 3) := by decide +kernel
theorem d_M_tick_42 : decode b_M_tick 42 = .ok (.bipush 8, 2) := by decide +kernel
theorem d_M_tick_44 : decode b_M_tick 44 = .ok (.iload_n 1, 1) := by decide +kernel
theorem d_M_tick_45 : decode b_M_tick 45 = .ok (.imul, 1) := by decide +kernel
theorem d_M_tick_46 : decode b_M_tick 46 = .ok (.iload_n 3, 1) := by decide +kernel
theorem d_M_tick_47 : decode b_M_tick 47 = .ok (.iadd, 1) := by decide +kernel
theorem d_M_tick_48 : decode b_M_tick 48 = .ok (.iaload, 1) := by decide +kernel
theorem d_M_tick_49 : decode b_M_tick 49 = .ok (.isub, 1) := by decide +kernel
theorem d_M_tick_50 : decode b_M_tick 50 = .ok (.bipush 30, 2) := by decide +kernel
theorem d_M_tick_52 : decode b_M_tick 52 = .ok (.if_icmp .lt 17, 3) := by decide +kernel
theorem d_M_tick_55 : decode b_M_tick 55 = .ok (.aload_n 0, 1) := by decide +kernel
theorem d_M_tick_56 : decode b_M_tick 56 = .ok (.getfield 23, 3) := by decide +kernel
theorem d_M_tick_59 : decode b_M_tick 59 = .ok (.bipush 8, 2) := by decide +kernel
theorem d_M_tick_61 : decode b_M_tick 61 = .ok (.iload_n 1, 1) := by decide +kernel
theorem d_M_tick_62 : decode b_M_tick 62 = .ok (.imul, 1) := by decide +kernel
theorem d_M_tick_63 : decode b_M_tick 63 = .ok (.iload_n 3, 1) := by decide +kernel
theorem d_M_tick_64 : decode b_M_tick 64 = .ok (.iadd, 1) := by decide +kernel
theorem d_M_tick_65 : decode b_M_tick 65 = .ok (.iconst 0, 1) := by decide +kernel
theorem d_M_tick_66 : decode b_M_tick 66 = .ok (.bastore, 1) := by decide +kernel
theorem d_M_tick_67 : decode b_M_tick 67 = .ok (.iconst 1, 1) := by decide +kernel
theorem d_M_tick_68 : decode b_M_tick 68 = .ok (.istore_n 2, 1) := by decide +kernel
theorem d_M_tick_69 : decode b_M_tick 69 = .ok (.iinc 3 1, 3) := by decide +kernel
theorem d_M_tick_72 : decode b_M_tick 72 = .ok (.goto (-68), 3) := by decide +kernel
theorem d_M_tick_75 : decode b_M_tick 75 = .ok (.iload_n 2, 1) := by decide +kernel
theorem d_M_tick_76 : decode b_M_tick 76 = .ok (.ifCond .eq 8, 3) := by decide +kernel
theorem d_M_tick_79 : decode b_M_tick 79 = .ok (.aload_n 0, 1) := by decide +kernel
theorem d_M_tick_80 : decode b_M_tick 80 = .ok (.iload_n 1, 1) := by decide +kernel
theorem d_M_tick_81 : decode b_M_tick 81 = .ok (.invokevirtual 80, 3) := by decide +kernel
theorem d_M_tick_84 : decode b_M_tick 84 = .ok (.aload_n 0, 1) := by decide +kernel
theorem d_M_tick_85 : decode b_M_tick 85 = .ok (.iload_n 1, 1) := by decide +kernel
theorem d_M_tick_86 : decode b_M_tick 86 = .ok (.invokevirtual 77, 3) := by decide +kernel
theorem d_M_tick_89 : decode b_M_tick 89 = .ok (.return_, 1) := by decide +kernel
theorem d_M_notes_0 : decode b_M_notes 0 = .ok (.aload_n 0, 1) := by decide +kernel
theorem d_M_notes_1 : decode b_M_notes 1 = .ok (.iconst 0, 1) := by decide +kernel
theorem d_M_notes_2 : decode b_M_notes 2 = .ok (.putfield 42, 3) := by decide +kernel
theorem d_M_notes_5 : decode b_M_notes 5 = .ok (.aload_n 0, 1) := by decide +kernel
theorem d_M_notes_6 : decode b_M_notes 6 = .ok (.getfield 45, 3) := by decide +kernel
theorem d_M_notes_9 : decode b_M_notes 9 = .ok (.ireturn, 1) := by decide +kernel
