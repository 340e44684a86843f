theorem de_M_init_0 : decode by_M_init 0 = .ok (.aload_n 0, 1) := by decide +kernel
theorem de_M_init_1 : decode by_M_init 1 = .ok (.invokespecial 1, 3) := by decide +kernel
theorem de_M_init_4 : decode by_M_init 4 = .ok (.aload_n 0, 1) := by decide +kernel
theorem de_M_init_5 : decode by_M_init 5 = .ok (.bipush 40, 2) := by decide +kernel
theorem de_M_init_7 : decode by_M_init 7 = .ok (.newarray .long, 2) := by decide +kernel
theorem de_M_init_9 : decode by_M_init 9 = .ok (.putfield 7, 3) := by decide +kernel
theorem de_M_init_12 : decode by_M_init 12 = .ok (.aload_n 0, 1) := by decide +kernel
theorem de_M_init_13 : decode by_M_init 13 = .ok (.bipush 40, 2) := by decide +kernel
theorem de_M_init_15 : decode by_M_init 15 = .ok (.newarray .long, 2) := by decide +kernel
theorem de_M_init_17 : decode by_M_init 17 = .ok (.putfield 13, 3) := by decide +kernel
theorem de_M_init_20 : decode by_M_init 20 = .ok (.aload_n 0, 1) := by decide +kernel
theorem de_M_init_21 : decode by_M_init 21 = .ok (.bipush 9, 2) := by decide +kernel
theorem de_M_init_23 : decode by_M_init 23 = .ok (.newarray .boolean, 2) := by decide +kernel
theorem de_M_init_25 : decode by_M_init 25 = .ok (.putfield 16, 3) := by decide +kernel
theorem de_M_init_28 : decode by_M_init 28 = .ok (.aload_n 0, 1) := by decide +kernel
theorem de_M_init_29 : decode by_M_init 29 = .ok (.bipush 9, 2) := by decide +kernel
theorem de_M_init_31 : decode by_M_init 31 = .ok (.newarray .long, 2) := by decide +kernel
theorem de_M_init_33 : decode by_M_init 33 = .ok (.putfield 20, 3) := by decide +kernel
theorem de_M_init_36 : decode by_M_init 36 = .ok (.aload_n 0, 1) := by decide +kernel
theorem de_M_init_37 : decode by_M_init 37 = .ok (.bipush 9, 2) := by decide +kernel
theorem de_M_init_39 : decode by_M_init 39 = .ok (.newarray .boolean, 2) := by decide +kernel
theorem de_M_init_41 : decode by_M_init 41 = .ok (.putfield 23, 3) := by decide +kernel
theorem de_M_init_44 : decode by_M_init 44 = .ok (.aload_n 0, 1) := by decide +kernel
theorem de_M_init_45 : decode by_M_init 45 = .ok (.bipush 10, 2) := by decide +kernel
theorem de_M_init_47 : decode by_M_init 47 = .ok (.newarray .int, 2) := by decide +kernel
theorem de_M_init_49 : decode by_M_init 49 = .ok (.putfield 26, 3) := by decide +kernel
theorem de_M_init_52 : decode by_M_init 52 = .ok (.aload_n 0, 1) := by decide +kernel
theorem de_M_init_53 : decode by_M_init 53 = .ok (.bipush 10, 2) := by decide +kernel
theorem de_M_init_55 : decode by_M_init 55 = .ok (.newarray .int, 2) := by decide +kernel
theorem de_M_init_57 : decode by_M_init 57 = .ok (.putfield 30, 3) := by decide +kernel
theorem de_M_init_60 : decode by_M_init 60 = .ok (.aload_n 0, 1) := by decide +kernel
theorem de_M_init_61 : decode by_M_init 61 = .ok (.sipush 359, 3) := by decide +kernel
theorem de_M_init_64 : decode by_M_init 64 = .ok (.putfield 33, 3) := by decide +kernel
theorem de_M_init_67 : decode by_M_init 67 = .ok (.aload_n 0, 1) := by decide +kernel
theorem de_M_init_68 : decode by_M_init 68 = .ok (.bipush 12, 2) := by decide +kernel
theorem de_M_init_70 : decode by_M_init 70 = .ok (.newarray .int, 2) := by decide +kernel
theorem de_M_init_72 : decode by_M_init 72 = .ok (.putfield 37, 3) := by decide +kernel
theorem de_M_init_75 : decode by_M_init 75 = .ok (.aload_n 0, 1) := by decide +kernel
theorem de_M_init_76 : decode by_M_init 76 = .ok (.bipush 12, 2) := by decide +kernel
theorem de_M_init_78 : decode by_M_init 78 = .ok (.newarray .int, 2) := by decide +kernel
theorem de_M_init_80 : decode by_M_init 80 = .ok (.putfield 40, 3) := by decide +kernel
theorem de_M_init_83 : decode by_M_init 83 = .ok (.aload_n 0, 1) := by decide +kernel
theorem de_M_init_84 : decode by_M_init 84 = .ok (.bipush 7, 2) := by decide +kernel
theorem de_M_init_86 : decode by_M_init 86 = .ok (.newarray .boolean, 2) := by decide +kernel
theorem de_M_init_88 : decode by_M_init 88 = .ok (.putfield 43, 3) := by decide +kernel
theorem de_M_init_91 : decode by_M_init 91 = .ok (.aload_n 0, 1) := by decide +kernel
theorem de_M_init_92 : decode by_M_init 92 = .ok (.bipush 7, 2) := by decide +kernel
theorem de_M_init_94 : decode by_M_init 94 = .ok (.newarray .boolean, 2) := by decide +kernel
theorem de_M_init_96 : decode by_M_init 96 = .ok (.putfield 46, 3) := by decide +kernel
theorem de_M_init_99 : decode by_M_init 99 = .ok (.aload_n 0, 1) := by decide +kernel
theorem de_M_init_100 : decode by_M_init 100 = .ok (.bipush 7, 2) := by decide +kernel
theorem de_M_init_102 : decode by_M_init 102 = .ok (.newarray .long, 2) := by decide +kernel
theorem de_M_init_104 : decode by_M_init 104 = .ok (.putfield 49, 3) := by decide +kernel
theorem de_M_init_107 : decode by_M_init 107 = .ok (.aload_n 0, 1) := by decide +kernel
theorem de_M_init_108 : decode by_M_init 108 = .ok (.bipush 7, 2) := by decide +kernel
theorem de_M_init_110 : decode by_M_init 110 = .ok (.newarray .long, 2) := by decide +kernel
theorem de_M_init_112 : decode by_M_init 112 = .ok (.putfield 52, 3) := by decide +kernel
theorem de_M_init_115 : decode by_M_init 115 = .ok (.aload_n 0, 1) := by decide +kernel
theorem de_M_init_116 : decode by_M_init 116 = .ok (.ldc2_w 55, 3) := by decide +kernel
theorem de_M_init_119 : decode by_M_init 119 = .ok (.putfield 57, 3) := by decide +kernel
theorem de_M_init_122 : decode by_M_init 122 = .ok (.return_, 1) := by decide +kernel
theorem de_M_thrown_0 : decode by_M_thrown 0 = .ok (.aload_n 0, 1) := by decide +kernel
theorem de_M_thrown_1 : decode by_M_thrown 1 = .ok (.getfield 61, 3) := by decide +kernel
theorem de_M_thrown_4 : decode by_M_thrown 4 = .ok (.ireturn, 1) := by decide +kernel
theorem de_M_in_0 : decode by_M_in 0 = .ok (.lload_n 0, 1) := by decide +kernel
theorem de_M_in_1 : decode by_M_in 1 = .ok (.lload_n 2, 1) := by decide +kernel
theorem de_M_in_2 : decode by_M_in 2 = .ok (.lcmp, 1) := by decide +kernel
theorem de_M_in_3 : decode by_M_in 3 = .ok (.ifCond .lt 14, 3) := by decide +kernel
theorem de_M_in_6 : decode by_M_in 6 = .ok (.lload_n 0, 1) := by decide +kernel
theorem de_M_in_7 : decode by_M_in 7 = .ok (.lload 4, 2) := by decide +kernel
theorem de_M_in_9 : decode by_M_in 9 = .ok (.lcmp, 1) := by decide +kernel
theorem de_M_in_10 : decode by_M_in 10 = .ok (.ifCond .gt 7, 3) := by decide +kernel
theorem de_M_in_13 : decode by_M_in 13 = .ok (.iconst 1, 1) := by decide +kernel
theorem de_M_in_14 : decode by_M_in 14 = .ok (.goto 4, 3) := by decide +kernel
theorem de_M_in_17 : decode by_M_in 17 = .ok (.iconst 0, 1) := by decide +kernel
theorem de_M_in_18 : decode by_M_in 18 = .ok (.ireturn, 1) := by decide +kernel
theorem de_M_near_0 : decode by_M_near 0 = .ok (.lload_n 0, 1) := by decide +kernel
theorem de_M_near_1 : decode by_M_near 1 = .ok (.lload_n 2, 1) := by decide +kernel
theorem de_M_near_2 : decode by_M_near 2 = .ok (.ldiv, 1) := by decide +kernel
theorem de_M_near_3 : decode by_M_near 3 = .ok (.ldc2_w 64, 3) := by decide +kernel
theorem de_M_near_6 : decode by_M_near 6 = .ok (.lload_n 0, 1) := by decide +kernel
theorem de_M_near_7 : decode by_M_near 7 = .ok (.lload_n 2, 1) := by decide +kernel
theorem de_M_near_8 : decode by_M_near 8 = .ok (.lrem, 1) := by decide +kernel
theorem de_M_near_9 : decode by_M_near 9 = .ok (.lmul, 1) := by decide +kernel
theorem de_M_near_10 : decode by_M_near 10 = .ok (.lload_n 2, 1) := by decide +kernel
theorem de_M_near_11 : decode by_M_near 11 = .ok (.lcmp, 1) := by decide +kernel
theorem de_M_near_12 : decode by_M_near 12 = .ok (.ifCond .lt 7, 3) := by decide +kernel
theorem de_M_near_15 : decode by_M_near 15 = .ok (.lconst 1, 1) := by decide +kernel
theorem de_M_near_16 : decode by_M_near 16 = .ok (.goto 4, 3) := by decide +kernel
theorem de_M_near_19 : decode by_M_near 19 = .ok (.lconst 0, 1) := by decide +kernel
theorem de_M_near_20 : decode by_M_near 20 = .ok (.ladd, 1) := by decide +kernel
theorem de_M_near_21 : decode by_M_near 21 = .ok (.lreturn, 1) := by decide +kernel
theorem de_M_weights_0 : decode by_M_weights 0 = .ok (.aload_n 0, 1) := by decide +kernel
theorem de_M_weights_1 : decode by_M_weights 1 = .ok (.getfield 66, 3) := by decide +kernel
theorem de_M_weights_4 : decode by_M_weights 4 = .ok (.lreturn, 1) := by decide +kernel
theorem de_M_prices_0 : decode by_M_prices 0 = .ok (.aload_n 0, 1) := by decide +kernel
theorem de_M_prices_1 : decode by_M_prices 1 = .ok (.getfield 69, 3) := by decide +kernel
theorem de_M_prices_4 : decode by_M_prices 4 = .ok (.lreturn, 1) := by decide +kernel
theorem de_M_partOf_0 : decode by_M_partOf 0 = .ok (.iload_n 2, 1) := by decide +kernel
theorem de_M_partOf_1 : decode by_M_partOf 1 = .ok (.ifCond .eq 21, 3) := by decide +kernel
theorem de_M_partOf_4 : decode by_M_partOf 4 = .ok (.aload_n 0, 1) := by decide +kernel
theorem de_M_partOf_5 : decode by_M_partOf 5 = .ok (.invokevirtual 72, 3) := by decide +kernel
theorem de_M_partOf_8 : decode by_M_partOf 8 = .ok (.lconst 0, 1) := by decide +kernel
theorem de_M_partOf_9 : decode by_M_partOf 9 = .ok (.lcmp, 1) := by decide +kernel
theorem de_M_partOf_10 : decode by_M_partOf 10 = .ok (.ifCond .le 12, 3) := by decide +kernel
theorem de_M_partOf_13 : decode by_M_partOf 13 = .ok (.aload_n 0, 1) := by decide +kernel
theorem de_M_partOf_14 : decode by_M_partOf 14 = .ok (.getfield 7, 3) := by decide +kernel
theorem de_M_partOf_17 : decode by_M_partOf 17 = .ok (.iload_n 1, 1) := by decide +kernel
theorem de_M_partOf_18 : decode by_M_partOf 18 = .ok (.laload, 1) := by decide +kernel
theorem de_M_partOf_19 : decode by_M_partOf 19 = .ok (.goto 22, 3) := by decide +kernel
theorem de_M_partOf_22 : decode by_M_partOf 22 = .ok (.aload_n 0, 1) := by decide +kernel
theorem de_M_partOf_23 : decode by_M_partOf 23 = .ok (.invokevirtual 76, 3) := by decide +kernel
theorem de_M_partOf_26 : decode by_M_partOf 26 = .ok (.lconst 0, 1) := by decide +kernel
theorem de_M_partOf_27 : decode by_M_partOf 27 = .ok (.lcmp, 1) := by decide +kernel
theorem de_M_partOf_28 : decode by_M_partOf 28 = .ok (.ifCond .le 12, 3) := by decide +kernel
theorem de_M_partOf_31 : decode by_M_partOf 31 = .ok (.aload_n 0, 1) := by decide +kernel
theorem de_M_partOf_32 : decode by_M_partOf 32 = .ok (.getfield 13, 3) := by decide +kernel
theorem de_M_partOf_35 : decode by_M_partOf 35 = .ok (.iload_n 1, 1) := by decide +kernel
theorem de_M_partOf_36 : decode by_M_partOf 36 = .ok (.laload, 1) := by decide +kernel
theorem de_M_partOf_37 : decode by_M_partOf 37 = .ok (.goto 4, 3) := by decide +kernel
theorem de_M_partOf_40 : decode by_M_partOf 40 = .ok (.lconst 1, 1) := by decide +kernel
theorem de_M_partOf_41 : decode by_M_partOf 41 = .ok (.lreturn, 1) := by decide +kernel
theorem de_M_whole_0 : decode by_M_whole 0 = .ok (.iload_n 1, 1) := by decide +kernel
theorem de_M_whole_1 : decode by_M_whole 1 = .ok (.ifCond .eq 19, 3) := by decide +kernel
theorem de_M_whole_4 : decode by_M_whole 4 = .ok (.aload_n 0, 1) := by decide +kernel
theorem de_M_whole_5 : decode by_M_whole 5 = .ok (.invokevirtual 72, 3) := by decide +kernel
theorem de_M_whole_8 : decode by_M_whole 8 = .ok (.lconst 0, 1) := by decide +kernel
theorem de_M_whole_9 : decode by_M_whole 9 = .ok (.lcmp, 1) := by decide +kernel
theorem de_M_whole_10 : decode by_M_whole 10 = .ok (.ifCond .le 10, 3) := by decide +kernel
theorem de_M_whole_13 : decode by_M_whole 13 = .ok (.aload_n 0, 1) := by decide +kernel
theorem de_M_whole_14 : decode by_M_whole 14 = .ok (.invokevirtual 72, 3) := by decide +kernel
theorem de_M_whole_17 : decode by_M_whole 17 = .ok (.goto 24, 3) := by decide +kernel
theorem de_M_whole_20 : decode by_M_whole 20 = .ok (.aload_n 0, 1) := by decide +kernel
theorem de_M_whole_21 : decode by_M_whole 21 = .ok (.invokevirtual 76, 3) := by decide +kernel
theorem de_M_whole_24 : decode by_M_whole 24 = .ok (.lconst 0, 1) := by decide +kernel
theorem de_M_whole_25 : decode by_M_whole 25 = .ok (.lcmp, 1) := by decide +kernel
theorem de_M_whole_26 : decode by_M_whole 26 = .ok (.ifCond .le 10, 3) := by decide +kernel
theorem de_M_whole_29 : decode by_M_whole 29 = .ok (.aload_n 0, 1) := by decide +kernel
theorem de_M_whole_30 : decode by_M_whole 30 = .ok (.invokevirtual 76, 3) := by decide +kernel
theorem de_M_whole_33 : decode by_M_whole 33 = .ok (.goto 8, 3) := by decide +kernel
theorem de_M_whole_36 : decode by_M_whole 36 = .ok (.aload_n 0, 1) := by decide +kernel
theorem de_M_whole_37 : decode by_M_whole 37 = .ok (.getfield 79, 3) := by decide +kernel
theorem de_M_whole_40 : decode by_M_whole 40 = .ok (.i2l, 1) := by decide +kernel
theorem de_M_whole_41 : decode by_M_whole 41 = .ok (.lreturn, 1) := by decide +kernel
theorem de_M_shareOf_0 : decode by_M_shareOf 0 = .ok (.aload_n 0, 1) := by decide +kernel
theorem de_M_shareOf_1 : decode by_M_shareOf 1 = .ok (.iload 4, 2) := by decide +kernel
theorem de_M_shareOf_3 : decode by_M_shareOf 3 = .ok (.invokevirtual 82, 3) := by decide +kernel
theorem de_M_shareOf_6 : decode by_M_shareOf 6 = .ok (.lstore 5, 2) := by decide +kernel
theorem de_M_shareOf_8 : decode by_M_shareOf 8 = .ok (.lload_n 1, 1) := by decide +kernel
theorem de_M_shareOf_9 : decode by_M_shareOf 9 = .ok (.lstore 7, 2) := by decide +kernel
theorem de_M_shareOf_11 : decode by_M_shareOf 11 = .ok (.lload_n 1, 1) := by decide +kernel
theorem de_M_shareOf_12 : decode by_M_shareOf 12 = .ok (.aload_n 0, 1) := by decide +kernel
theorem de_M_shareOf_13 : decode by_M_shareOf 13 = .ok (.iload_n 3, 1) := by decide +kernel
theorem de_M_shareOf_14 : decode by_M_shareOf 14 = .ok (.iload 4, 2) := by decide +kernel
theorem de_M_shareOf_16 : decode by_M_shareOf 16 = .ok (.invokevirtual 86, 3) := by decide +kernel
theorem de_M_shareOf_19 : decode by_M_shareOf 19 = .ok (.lmul, 1) := by decide +kernel
theorem de_M_shareOf_20 : decode by_M_shareOf 20 = .ok (.lload 5, 2) := by decide +kernel
theorem de_M_shareOf_22 : decode by_M_shareOf 22 = .ok (.lrem, 1) := by decide +kernel
theorem de_M_shareOf_23 : decode by_M_shareOf 23 = .ok (.lstore 9, 2) := by decide +kernel
theorem de_M_shareOf_25 : decode by_M_shareOf 25 = .ok (.iconst 0, 1) := by decide +kernel
theorem de_M_shareOf_26 : decode by_M_shareOf 26 = .ok (.istore 11, 2) := by decide +kernel
theorem de_M_shareOf_28 : decode by_M_shareOf 28 = .ok (.iconst 0, 1) := by decide +kernel
theorem de_M_shareOf_29 : decode by_M_shareOf 29 = .ok (.istore 12, 2) := by decide +kernel
theorem de_M_shareOf_31 : decode by_M_shareOf 31 = .ok (.iload 12, 2) := by decide +kernel
theorem de_M_shareOf_33 : decode by_M_shareOf 33 = .ok (.aload_n 0, 1) := by decide +kernel
theorem de_M_shareOf_34 : decode by_M_shareOf 34 = .ok (.getfield 79, 3) := by decide +kernel
theorem de_M_shareOf_37 : decode by_M_shareOf 37 = .ok (.if_icmp .ge 69, 3) := by decide +kernel
theorem de_M_shareOf_40 : decode by_M_shareOf 40 = .ok (.lload_n 1, 1) := by decide +kernel
theorem de_M_shareOf_41 : decode by_M_shareOf 41 = .ok (.aload_n 0, 1) := by decide +kernel
theorem de_M_shareOf_42 : decode by_M_shareOf 42 = .ok (.iload 12, 2) := by decide +kernel
theorem de_M_shareOf_44 : decode by_M_shareOf 44 = .ok (.iload 4, 2) := by decide +kernel
theorem de_M_shareOf_46 : decode by_M_shareOf 46 = .ok (.invokevirtual 86, 3) := by decide +kernel
theorem de_M_shareOf_49 : decode by_M_shareOf 49 = .ok (.lmul, 1) := by decide +kernel
theorem de_M_shareOf_50 : decode by_M_shareOf 50 = .ok (.lstore 13, 2) := by decide +kernel
theorem de_M_shareOf_52 : decode by_M_shareOf 52 = .ok (.lload 7, 2) := by decide +kernel
theorem de_M_shareOf_54 : decode by_M_shareOf 54 = .ok (.lload 13, 2) := by decide +kernel
theorem de_M_shareOf_56 : decode by_M_shareOf 56 = .ok (.lload 5, 2) := by decide +kernel
theorem de_M_shareOf_58 : decode by_M_shareOf 58 = .ok (.ldiv, 1) := by decide +kernel
theorem de_M_shareOf_59 : decode by_M_shareOf 59 = .ok (.lsub, 1) := by decide +kernel
theorem de_M_shareOf_60 : decode by_M_shareOf 60 = .ok (.lstore 7, 2) := by decide +kernel
theorem de_M_shareOf_62 : decode by_M_shareOf 62 = .ok (.iload 11, 2) := by decide +kernel
theorem de_M_shareOf_64 : decode by_M_shareOf 64 = .ok (.lload 13, 2) := by decide +kernel
theorem de_M_shareOf_66 : decode by_M_shareOf 66 = .ok (.lload 5, 2) := by decide +kernel
theorem de_M_shareOf_68 : decode by_M_shareOf 68 = .ok (.lrem, 1) := by decide +kernel
theorem de_M_shareOf_69 : decode by_M_shareOf 69 = .ok (.lload 9, 2) := by decide +kernel
theorem de_M_shareOf_71 : decode by_M_shareOf 71 = .ok (.lcmp, 1) := by decide +kernel
theorem de_M_shareOf_72 : decode by_M_shareOf 72 = .ok (.ifCond .gt 20, 3) := by decide +kernel
theorem de_M_shareOf_75 : decode by_M_shareOf 75 = .ok (.lload 13, 2) := by decide +kernel
theorem de_M_shareOf_77 : decode by_M_shareOf 77 = .ok (.lload 5, 2) := by decide +kernel
theorem de_M_shareOf_79 : decode by_M_shareOf 79 = .ok (.lrem, 1) := by decide +kernel
theorem de_M_shareOf_80 : decode by_M_shareOf 80 = .ok (.lload 9, 2) := by decide +kernel
theorem de_M_shareOf_82 : decode by_M_shareOf 82 = .ok (.lcmp, 1) := by decide +kernel
theorem de_M_shareOf_83 : decode by_M_shareOf 83 = .ok (.ifCond .ne 13, 3) := by decide +kernel
theorem de_M_shareOf_86 : decode by_M_shareOf 86 = .ok (.iload 12, 2) := by decide +kernel
theorem de_M_shareOf_88 : decode by_M_shareOf 88 = .ok (.iload_n 3, 1) := by decide +kernel
theorem de_M_shareOf_89 : decode by_M_shareOf 89 = .ok (.if_icmp .ge 7, 3) := by decide +kernel
theorem de_M_shareOf_92 : decode by_M_shareOf 92 = .ok (.iconst 1, 1) := by decide +kernel
theorem de_M_shareOf_93 : decode by_M_shareOf 93 = .ok (.goto 4, 3) := by decide +kernel
theorem de_M_shareOf_96 : decode by_M_shareOf 96 = .ok (.iconst 0, 1) := by decide +kernel
theorem de_M_shareOf_97 : decode by_M_shareOf 97 = .ok (.iadd, 1) := by decide +kernel
theorem de_M_shareOf_98 : decode by_M_shareOf 98 = .ok (.istore 11, 2) := by decide +kernel
theorem de_M_shareOf_100 : decode by_M_shareOf 100 = .ok (.iinc 12 1, 3) := by decide +kernel
theorem de_M_shareOf_103 : decode by_M_shareOf 103 = .ok (.goto (-72), 3) := by decide +kernel
theorem de_M_shareOf_106 : decode by_M_shareOf 106 = .ok (.lload_n 1, 1) := by decide +kernel
theorem de_M_shareOf_107 : decode by_M_shareOf 107 = .ok (.aload_n 0, 1) := by decide +kernel
theorem de_M_shareOf_108 : decode by_M_shareOf 108 = .ok (.iload_n 3, 1) := by decide +kernel
theorem de_M_shareOf_109 : decode by_M_shareOf 109 = .ok (.iload 4, 2) := by decide +kernel
theorem de_M_shareOf_111 : decode by_M_shareOf 111 = .ok (.invokevirtual 86, 3) := by decide +kernel
theorem de_M_shareOf_114 : decode by_M_shareOf 114 = .ok (.lmul, 1) := by decide +kernel
theorem de_M_shareOf_115 : decode by_M_shareOf 115 = .ok (.lload 5, 2) := by decide +kernel
theorem de_M_shareOf_117 : decode by_M_shareOf 117 = .ok (.ldiv, 1) := by decide +kernel
theorem de_M_shareOf_118 : decode by_M_shareOf 118 = .ok (.iload 11, 2) := by decide +kernel
theorem de_M_shareOf_120 : decode by_M_shareOf 120 = .ok (.i2l, 1) := by decide +kernel
theorem de_M_shareOf_121 : decode by_M_shareOf 121 = .ok (.lload 7, 2) := by decide +kernel
theorem de_M_shareOf_123 : decode by_M_shareOf 123 = .ok (.lcmp, 1) := by decide +kernel
theorem de_M_shareOf_124 : decode by_M_shareOf 124 = .ok (.ifCond .ge 7, 3) := by decide +kernel
theorem de_M_shareOf_127 : decode by_M_shareOf 127 = .ok (.lconst 1, 1) := by decide +kernel
theorem de_M_shareOf_128 : decode by_M_shareOf 128 = .ok (.goto 4, 3) := by decide +kernel
theorem de_M_shareOf_131 : decode by_M_shareOf 131 = .ok (.lconst 0, 1) := by decide +kernel
theorem de_M_shareOf_132 : decode by_M_shareOf 132 = .ok (.ladd, 1) := by decide +kernel
theorem de_M_shareOf_133 : decode by_M_shareOf 133 = .ok (.lreturn, 1) := by decide +kernel
theorem de_M_thousandths_0 : decode by_M_thousandths 0 = .ok (.iconst 0, 1) := by decide +kernel
theorem de_M_thousandths_1 : decode by_M_thousandths 1 = .ok (.istore_n 1, 1) := by decide +kernel
theorem de_M_thousandths_2 : decode by_M_thousandths 2 = .ok (.iconst 0, 1) := by decide +kernel
theorem de_M_thousandths_3 : decode by_M_thousandths 3 = .ok (.istore_n 2, 1) := by decide +kernel
theorem de_M_thousandths_4 : decode by_M_thousandths 4 = .ok (.iload_n 2, 1) := by decide +kernel
theorem de_M_thousandths_5 : decode by_M_thousandths 5 = .ok (.aload_n 0, 1) := by decide +kernel
theorem de_M_thousandths_6 : decode by_M_thousandths 6 = .ok (.getfield 90, 3) := by decide +kernel
theorem de_M_thousandths_9 : decode by_M_thousandths 9 = .ok (.if_icmp .ge 48, 3) := by decide +kernel
theorem de_M_thousandths_12 : decode by_M_thousandths 12 = .ok (.aload_n 0, 1) := by decide +kernel
theorem de_M_thousandths_13 : decode by_M_thousandths 13 = .ok (.getfield 33, 3) := by decide +kernel
theorem de_M_thousandths_16 : decode by_M_thousandths 16 = .ok (.aload_n 0, 1) := by decide +kernel
theorem de_M_thousandths_17 : decode by_M_thousandths 17 = .ok (.getfield 93, 3) := by decide +kernel
theorem de_M_thousandths_20 : decode by_M_thousandths 20 = .ok (.aload_n 0, 1) := by decide +kernel
theorem de_M_thousandths_21 : decode by_M_thousandths 21 = .ok (.getfield 26, 3) := by decide +kernel
theorem de_M_thousandths_24 : decode by_M_thousandths 24 = .ok (.iload_n 2, 1) := by decide +kernel
theorem de_M_thousandths_25 : decode by_M_thousandths 25 = .ok (.iaload, 1) := by decide +kernel
theorem de_M_thousandths_26 : decode by_M_thousandths 26 = .ok (.iadd, 1) := by decide +kernel
theorem de_M_thousandths_27 : decode by_M_thousandths 27 = .ok (.if_icmp .gt 22, 3) := by decide +kernel
theorem de_M_thousandths_30 : decode by_M_thousandths 30 = .ok (.aload_n 0, 1) := by decide +kernel
theorem de_M_thousandths_31 : decode by_M_thousandths 31 = .ok (.getfield 30, 3) := by decide +kernel
theorem de_M_thousandths_34 : decode by_M_thousandths 34 = .ok (.iload_n 2, 1) := by decide +kernel
theorem de_M_thousandths_35 : decode by_M_thousandths 35 = .ok (.iaload, 1) := by decide +kernel
theorem de_M_thousandths_36 : decode by_M_thousandths 36 = .ok (.iload_n 1, 1) := by decide +kernel
theorem de_M_thousandths_37 : decode by_M_thousandths 37 = .ok (.if_icmp .le 12, 3) := by decide +kernel
theorem de_M_thousandths_40 : decode by_M_thousandths 40 = .ok (.aload_n 0, 1) := by decide +kernel
theorem de_M_thousandths_41 : decode by_M_thousandths 41 = .ok (.getfield 30, 3) := by decide +kernel
theorem de_M_thousandths_44 : decode by_M_thousandths 44 = .ok (.iload_n 2, 1) := by decide +kernel
theorem de_M_thousandths_45 : decode by_M_thousandths 45 = .ok (.iaload, 1) := by decide +kernel
theorem de_M_thousandths_46 : decode by_M_thousandths 46 = .ok (.goto 4, 3) := by decide +kernel
theorem de_M_thousandths_49 : decode by_M_thousandths 49 = .ok (.iload_n 1, 1) := by decide +kernel
theorem de_M_thousandths_50 : decode by_M_thousandths 50 = .ok (.istore_n 1, 1) := by decide +kernel
theorem de_M_thousandths_51 : decode by_M_thousandths 51 = .ok (.iinc 2 1, 3) := by decide +kernel
theorem de_M_thousandths_54 : decode by_M_thousandths 54 = .ok (.goto (-50), 3) := by decide +kernel
theorem de_M_thousandths_57 : decode by_M_thousandths 57 = .ok (.iload_n 1, 1) := by decide +kernel
theorem de_M_thousandths_58 : decode by_M_thousandths 58 = .ok (.ireturn, 1) := by decide +kernel
theorem de_M_discount_0 : decode by_M_discount 0 = .ok (.aload_n 0, 1) := by decide +kernel
theorem de_M_discount_1 : decode by_M_discount 1 = .ok (.invokevirtual 76, 3) := by decide +kernel
theorem de_M_discount_4 : decode by_M_discount 4 = .ok (.aload_n 0, 1) := by decide +kernel
theorem de_M_discount_5 : decode by_M_discount 5 = .ok (.invokevirtual 96, 3) := by decide +kernel
theorem de_M_discount_8 : decode by_M_discount 8 = .ok (.i2l, 1) := by decide +kernel
theorem de_M_discount_9 : decode by_M_discount 9 = .ok (.lmul, 1) := by decide +kernel
theorem de_M_discount_10 : decode by_M_discount 10 = .ok (.ldc2_w 100, 3) := by decide +kernel
theorem de_M_discount_13 : decode by_M_discount 13 = .ok (.invokestatic 102, 3) := by decide +kernel
theorem de_M_discount_16 : decode by_M_discount 16 = .ok (.lreturn, 1) := by decide +kernel
theorem de_M_transactionOf_0 : decode by_M_transactionOf 0 = .ok (.aload_n 0, 1) := by decide +kernel
theorem de_M_transactionOf_1 : decode by_M_transactionOf 1 = .ok (.getfield 13, 3) := by decide +kernel
theorem de_M_transactionOf_4 : decode by_M_transactionOf 4 = .ok (.iload_n 1, 1) := by decide +kernel
theorem de_M_transactionOf_5 : decode by_M_transactionOf 5 = .ok (.laload, 1) := by decide +kernel
theorem de_M_transactionOf_6 : decode by_M_transactionOf 6 = .ok (.aload_n 0, 1) := by decide +kernel
theorem de_M_transactionOf_7 : decode by_M_transactionOf 7 = .ok (.aload_n 0, 1) := by decide +kernel
theorem de_M_transactionOf_8 : decode by_M_transactionOf 8 = .ok (.invokevirtual 106, 3) := by decide +kernel
theorem de_M_transactionOf_11 : decode by_M_transactionOf 11 = .ok (.iload_n 1, 1) := by decide +kernel
theorem de_M_transactionOf_12 : decode by_M_transactionOf 12 = .ok (.iconst 0, 1) := by decide +kernel
theorem de_M_transactionOf_13 : decode by_M_transactionOf 13 = .ok (.invokevirtual 109, 3) := by decide +kernel
theorem de_M_transactionOf_16 : decode by_M_transactionOf 16 = .ok (.lsub, 1) := by decide +kernel
theorem de_M_transactionOf_17 : decode by_M_transactionOf 17 = .ok (.lstore_n 2, 1) := by decide +kernel
theorem de_M_transactionOf_18 : decode by_M_transactionOf 18 = .ok (.iconst 0, 1) := by decide +kernel
theorem de_M_transactionOf_19 : decode by_M_transactionOf 19 = .ok (.istore 4, 2) := by decide +kernel
theorem de_M_transactionOf_21 : decode by_M_transactionOf 21 = .ok (.iload 4, 2) := by decide +kernel
theorem de_M_transactionOf_23 : decode by_M_transactionOf 23 = .ok (.bipush 9, 2) := by decide +kernel
theorem de_M_transactionOf_25 : decode by_M_transactionOf 25 = .ok (.if_icmp .ge 61, 3) := by decide +kernel
theorem de_M_transactionOf_28 : decode by_M_transactionOf 28 = .ok (.aload_n 0, 1) := by decide +kernel
theorem de_M_transactionOf_29 : decode by_M_transactionOf 29 = .ok (.getfield 16, 3) := by decide +kernel
theorem de_M_transactionOf_32 : decode by_M_transactionOf 32 = .ok (.iload 4, 2) := by decide +kernel
theorem de_M_transactionOf_34 : decode by_M_transactionOf 34 = .ok (.baload, 1) := by decide +kernel
theorem de_M_transactionOf_35 : decode by_M_transactionOf 35 = .ok (.ifCond .eq 25, 3) := by decide +kernel
theorem de_M_transactionOf_38 : decode by_M_transactionOf 38 = .ok (.aload_n 0, 1) := by decide +kernel
theorem de_M_transactionOf_39 : decode by_M_transactionOf 39 = .ok (.aload_n 0, 1) := by decide +kernel
theorem de_M_transactionOf_40 : decode by_M_transactionOf 40 = .ok (.getfield 20, 3) := by decide +kernel
theorem de_M_transactionOf_43 : decode by_M_transactionOf 43 = .ok (.iload 4, 2) := by decide +kernel
theorem de_M_transactionOf_45 : decode by_M_transactionOf 45 = .ok (.laload, 1) := by decide +kernel
theorem de_M_transactionOf_46 : decode by_M_transactionOf 46 = .ok (.iload_n 1, 1) := by decide +kernel
theorem de_M_transactionOf_47 : decode by_M_transactionOf 47 = .ok (.aload_n 0, 1) := by decide +kernel
theorem de_M_transactionOf_48 : decode by_M_transactionOf 48 = .ok (.getfield 23, 3) := by decide +kernel
theorem de_M_transactionOf_51 : decode by_M_transactionOf 51 = .ok (.iload 4, 2) := by decide +kernel
theorem de_M_transactionOf_53 : decode by_M_transactionOf 53 = .ok (.baload, 1) := by decide +kernel
theorem de_M_transactionOf_54 : decode by_M_transactionOf 54 = .ok (.invokevirtual 109, 3) := by decide +kernel
theorem de_M_transactionOf_57 : decode by_M_transactionOf 57 = .ok (.goto 4, 3) := by decide +kernel
theorem de_M_transactionOf_60 : decode by_M_transactionOf 60 = .ok (.lconst 0, 1) := by decide +kernel
theorem de_M_transactionOf_61 : decode by_M_transactionOf 61 = .ok (.lstore 5, 2) := by decide +kernel
theorem de_M_transactionOf_63 : decode by_M_transactionOf 63 = .ok (.lload_n 2, 1) := by decide +kernel
theorem de_M_transactionOf_64 : decode by_M_transactionOf 64 = .ok (.iload 4, 2) := by decide +kernel
theorem de_M_transactionOf_66 : decode by_M_transactionOf 66 = .ok (.iconst 5, 1) := by decide +kernel
theorem de_M_transactionOf_67 : decode by_M_transactionOf 67 = .ok (.if_icmp .ge 8, 3) := by decide +kernel
theorem de_M_transactionOf_70 : decode by_M_transactionOf 70 = .ok (.lload 5, 2) := by decide +kernel
theorem de_M_transactionOf_72 : decode by_M_transactionOf 72 = .ok (.goto 6, 3) := by decide +kernel
theorem de_M_transactionOf_75 : decode by_M_transactionOf 75 = .ok (.lload 5, 2) := by decide +kernel
theorem de_M_transactionOf_77 : decode by_M_transactionOf 77 = .ok (.lneg, 1) := by decide +kernel
theorem de_M_transactionOf_78 : decode by_M_transactionOf 78 = .ok (.ladd, 1) := by decide +kernel
theorem de_M_transactionOf_79 : decode by_M_transactionOf 79 = .ok (.lstore_n 2, 1) := by decide +kernel
theorem de_M_transactionOf_80 : decode by_M_transactionOf 80 = .ok (.iinc 4 1, 3) := by decide +kernel
theorem de_M_transactionOf_83 : decode by_M_transactionOf 83 = .ok (.goto (-62), 3) := by decide +kernel
theorem de_M_transactionOf_86 : decode by_M_transactionOf 86 = .ok (.lload_n 2, 1) := by decide +kernel
theorem de_M_transactionOf_87 : decode by_M_transactionOf 87 = .ok (.lreturn, 1) := by decide +kernel
theorem de_M_told_0 : decode by_M_told 0 = .ok (.lconst 0, 1) := by decide +kernel
theorem de_M_told_1 : decode by_M_told 1 = .ok (.lstore_n 3, 1) := by decide +kernel
theorem de_M_told_2 : decode by_M_told 2 = .ok (.iload_n 1, 1) := by decide +kernel
theorem de_M_told_3 : decode by_M_told 3 = .ok (.istore 5, 2) := by decide +kernel
theorem de_M_told_5 : decode by_M_told 5 = .ok (.iload 5, 2) := by decide +kernel
theorem de_M_told_7 : decode by_M_told 7 = .ok (.iload_n 2, 1) := by decide +kernel
theorem de_M_told_8 : decode by_M_told 8 = .ok (.if_icmp .ge 19, 3) := by decide +kernel
theorem de_M_told_11 : decode by_M_told 11 = .ok (.lload_n 3, 1) := by decide +kernel
theorem de_M_told_12 : decode by_M_told 12 = .ok (.aload_n 0, 1) := by decide +kernel
theorem de_M_told_13 : decode by_M_told 13 = .ok (.getfield 20, 3) := by decide +kernel
theorem de_M_told_16 : decode by_M_told 16 = .ok (.iload 5, 2) := by decide +kernel
theorem de_M_told_18 : decode by_M_told 18 = .ok (.laload, 1) := by decide +kernel
theorem de_M_told_19 : decode by_M_told 19 = .ok (.ladd, 1) := by decide +kernel
theorem de_M_told_20 : decode by_M_told 20 = .ok (.lstore_n 3, 1) := by decide +kernel
theorem de_M_told_21 : decode by_M_told 21 = .ok (.iinc 5 1, 3) := by decide +kernel
theorem de_M_told_24 : decode by_M_told 24 = .ok (.goto (-19), 3) := by decide +kernel
theorem de_M_told_27 : decode by_M_told 27 = .ok (.lload_n 3, 1) := by decide +kernel
theorem de_M_told_28 : decode by_M_told 28 = .ok (.lreturn, 1) := by decide +kernel
theorem de_M_isTested_0 : decode by_M_isTested 0 = .ok (.aload_n 0, 1) := by decide +kernel
theorem de_M_isTested_1 : decode by_M_isTested 1 = .ok (.getfield 113, 3) := by decide +kernel
theorem de_M_isTested_4 : decode by_M_isTested 4 = .ok (.ifCond .ne 5, 3) := by decide +kernel
theorem de_M_isTested_7 : decode by_M_isTested 7 = .ok (.iconst 1, 1) := by decide +kernel
theorem de_M_isTested_8 : decode by_M_isTested 8 = .ok (.ireturn, 1) := by decide +kernel
theorem de_M_isTested_9 : decode by_M_isTested 9 = .ok (.aload_n 0, 1) := by decide +kernel
theorem de_M_isTested_10 : decode by_M_isTested 10 = .ok (.getfield 57, 3) := by decide +kernel
theorem de_M_isTested_13 : decode by_M_isTested 13 = .ok (.ldc2_w 55, 3) := by decide +kernel
theorem de_M_isTested_16 : decode by_M_isTested 16 = .ok (.lcmp, 1) := by decide +kernel
theorem de_M_isTested_17 : decode by_M_isTested 17 = .ok (.ifCond .ne 5, 3) := by decide +kernel
theorem de_M_isTested_20 : decode by_M_isTested 20 = .ok (.iconst 0, 1) := by decide +kernel
theorem de_M_isTested_21 : decode by_M_isTested 21 = .ok (.ireturn, 1) := by decide +kernel
theorem de_M_isTested_22 : decode by_M_isTested 22 = .ok (.lconst 0, 1) := by decide +kernel
theorem de_M_isTested_23 : decode by_M_isTested 23 = .ok (.lstore_n 1, 1) := by decide +kernel
theorem de_M_isTested_24 : decode by_M_isTested 24 = .ok (.iconst 0, 1) := by decide +kernel
theorem de_M_isTested_25 : decode by_M_isTested 25 = .ok (.istore_n 3, 1) := by decide +kernel
theorem de_M_isTested_26 : decode by_M_isTested 26 = .ok (.iload_n 3, 1) := by decide +kernel
theorem de_M_isTested_27 : decode by_M_isTested 27 = .ok (.aload_n 0, 1) := by decide +kernel
theorem de_M_isTested_28 : decode by_M_isTested 28 = .ok (.getfield 79, 3) := by decide +kernel
theorem de_M_isTested_31 : decode by_M_isTested 31 = .ok (.if_icmp .ge 17, 3) := by decide +kernel
theorem de_M_isTested_34 : decode by_M_isTested 34 = .ok (.lload_n 1, 1) := by decide +kernel
theorem de_M_isTested_35 : decode by_M_isTested 35 = .ok (.aload_n 0, 1) := by decide +kernel
theorem de_M_isTested_36 : decode by_M_isTested 36 = .ok (.iload_n 3, 1) := by decide +kernel
theorem de_M_isTested_37 : decode by_M_isTested 37 = .ok (.invokevirtual 117, 3) := by decide +kernel
theorem de_M_isTested_40 : decode by_M_isTested 40 = .ok (.ladd, 1) := by decide +kernel
theorem de_M_isTested_41 : decode by_M_isTested 41 = .ok (.lstore_n 1, 1) := by decide +kernel
theorem de_M_isTested_42 : decode by_M_isTested 42 = .ok (.iinc 3 1, 3) := by decide +kernel
theorem de_M_isTested_45 : decode by_M_isTested 45 = .ok (.goto (-19), 3) := by decide +kernel
theorem de_M_isTested_48 : decode by_M_isTested 48 = .ok (.lload_n 1, 1) := by decide +kernel
theorem de_M_isTested_49 : decode by_M_isTested 49 = .ok (.aload_n 0, 1) := by decide +kernel
theorem de_M_isTested_50 : decode by_M_isTested 50 = .ok (.getfield 57, 3) := by decide +kernel
theorem de_M_isTested_53 : decode by_M_isTested 53 = .ok (.lcmp, 1) := by decide +kernel
theorem de_M_isTested_54 : decode by_M_isTested 54 = .ok (.ifCond .le 12, 3) := by decide +kernel
theorem de_M_isTested_57 : decode by_M_isTested 57 = .ok (.lload_n 1, 1) := by decide +kernel
theorem de_M_isTested_58 : decode by_M_isTested 58 = .ok (.aload_n 0, 1) := by decide +kernel
theorem de_M_isTested_59 : decode by_M_isTested 59 = .ok (.getfield 57, 3) := by decide +kernel
theorem de_M_isTested_62 : decode by_M_isTested 62 = .ok (.lsub, 1) := by decide +kernel
theorem de_M_isTested_63 : decode by_M_isTested 63 = .ok (.goto 9, 3) := by decide +kernel
theorem de_M_isTested_66 : decode by_M_isTested 66 = .ok (.aload_n 0, 1) := by decide +kernel
theorem de_M_isTested_67 : decode by_M_isTested 67 = .ok (.getfield 57, 3) := by decide +kernel
theorem de_M_isTested_70 : decode by_M_isTested 70 = .ok (.lload_n 1, 1) := by decide +kernel
theorem de_M_isTested_71 : decode by_M_isTested 71 = .ok (.lsub, 1) := by decide +kernel
theorem de_M_isTested_72 : decode by_M_isTested 72 = .ok (.lstore_n 3, 1) := by decide +kernel
theorem de_M_isTested_73 : decode by_M_isTested 73 = .ok (.lload_n 3, 1) := by decide +kernel
theorem de_M_isTested_74 : decode by_M_isTested 74 = .ok (.ldc2_w 100, 3) := by decide +kernel
theorem de_M_isTested_77 : decode by_M_isTested 77 = .ok (.lmul, 1) := by decide +kernel
theorem de_M_isTested_78 : decode by_M_isTested 78 = .ok (.aload_n 0, 1) := by decide +kernel
theorem de_M_isTested_79 : decode by_M_isTested 79 = .ok (.getfield 57, 3) := by decide +kernel
theorem de_M_isTested_82 : decode by_M_isTested 82 = .ok (.aload_n 0, 1) := by decide +kernel
theorem de_M_isTested_83 : decode by_M_isTested 83 = .ok (.getfield 121, 3) := by decide +kernel
theorem de_M_isTested_86 : decode by_M_isTested 86 = .ok (.i2l, 1) := by decide +kernel
theorem de_M_isTested_87 : decode by_M_isTested 87 = .ok (.lmul, 1) := by decide +kernel
theorem de_M_isTested_88 : decode by_M_isTested 88 = .ok (.lcmp, 1) := by decide +kernel
theorem de_M_isTested_89 : decode by_M_isTested 89 = .ok (.ifCond .gt 7, 3) := by decide +kernel
theorem de_M_isTested_92 : decode by_M_isTested 92 = .ok (.iconst 1, 1) := by decide +kernel
theorem de_M_isTested_93 : decode by_M_isTested 93 = .ok (.goto 4, 3) := by decide +kernel
theorem de_M_isTested_96 : decode by_M_isTested 96 = .ok (.iconst 0, 1) := by decide +kernel
theorem de_M_isTested_97 : decode by_M_isTested 97 = .ok (.ireturn, 1) := by decide +kernel
theorem de_M_deductive_0 : decode by_M_deductive 0 = .ok (.aload_n 0, 1) := by decide +kernel
theorem de_M_deductive_1 : decode by_M_deductive 1 = .ok (.getfield 49, 3) := by decide +kernel
theorem de_M_deductive_4 : decode by_M_deductive 4 = .ok (.iconst 4, 1) := by decide +kernel
theorem de_M_deductive_5 : decode by_M_deductive 5 = .ok (.laload, 1) := by decide +kernel
theorem de_M_deductive_6 : decode by_M_deductive 6 = .ok (.ldc2_w 100, 3) := by decide +kernel
theorem de_M_deductive_9 : decode by_M_deductive 9 = .ok (.aload_n 0, 1) := by decide +kernel
theorem de_M_deductive_10 : decode by_M_deductive 10 = .ok (.getfield 52, 3) := by decide +kernel
theorem de_M_deductive_13 : decode by_M_deductive 13 = .ok (.iconst 4, 1) := by decide +kernel
theorem de_M_deductive_14 : decode by_M_deductive 14 = .ok (.laload, 1) := by decide +kernel
theorem de_M_deductive_15 : decode by_M_deductive 15 = .ok (.lsub, 1) := by decide +kernel
theorem de_M_deductive_16 : decode by_M_deductive 16 = .ok (.lmul, 1) := by decide +kernel
theorem de_M_deductive_17 : decode by_M_deductive 17 = .ok (.ldc2_w 100, 3) := by decide +kernel
theorem de_M_deductive_20 : decode by_M_deductive 20 = .ok (.ldiv, 1) := by decide +kernel
theorem de_M_deductive_21 : decode by_M_deductive 21 = .ok (.aload_n 0, 1) := by decide +kernel
theorem de_M_deductive_22 : decode by_M_deductive 22 = .ok (.iconst 5, 1) := by decide +kernel
theorem de_M_deductive_23 : decode by_M_deductive 23 = .ok (.bipush 9, 2) := by decide +kernel
theorem de_M_deductive_25 : decode by_M_deductive 25 = .ok (.invokevirtual 124, 3) := by decide +kernel
theorem de_M_deductive_28 : decode by_M_deductive 28 = .ok (.lsub, 1) := by decide +kernel
theorem de_M_deductive_29 : decode by_M_deductive 29 = .ok (.lreturn, 1) := by decide +kernel
theorem de_M_holds_0 : decode by_M_holds 0 = .ok (.aload_n 0, 1) := by decide +kernel
theorem de_M_holds_1 : decode by_M_holds 1 = .ok (.getfield 43, 3) := by decide +kernel
theorem de_M_holds_4 : decode by_M_holds 4 = .ok (.iload_n 1, 1) := by decide +kernel
theorem de_M_holds_5 : decode by_M_holds 5 = .ok (.baload, 1) := by decide +kernel
theorem de_M_holds_6 : decode by_M_holds 6 = .ok (.ifCond .eq 17, 3) := by decide +kernel
theorem de_M_holds_9 : decode by_M_holds 9 = .ok (.iload_n 1, 1) := by decide +kernel
theorem de_M_holds_10 : decode by_M_holds 10 = .ok (.iconst 1, 1) := by decide +kernel
theorem de_M_holds_11 : decode by_M_holds 11 = .ok (.if_icmp .le 14, 3) := by decide +kernel
theorem de_M_holds_14 : decode by_M_holds 14 = .ok (.aload_n 0, 1) := by decide +kernel
theorem de_M_holds_15 : decode by_M_holds 15 = .ok (.getfield 46, 3) := by decide +kernel
theorem de_M_holds_18 : decode by_M_holds 18 = .ok (.iload_n 1, 1) := by decide +kernel
theorem de_M_holds_19 : decode by_M_holds 19 = .ok (.baload, 1) := by decide +kernel
theorem de_M_holds_20 : decode by_M_holds 20 = .ok (.ifCond .ne 5, 3) := by decide +kernel
theorem de_M_holds_23 : decode by_M_holds 23 = .ok (.iconst 0, 1) := by decide +kernel
theorem de_M_holds_24 : decode by_M_holds 24 = .ok (.ireturn, 1) := by decide +kernel
theorem de_M_holds_25 : decode by_M_holds 25 = .ok (.iload_n 1, 1) := by decide +kernel
theorem de_M_holds_26 : decode by_M_holds 26 = .ok (.iconst 4, 1) := by decide +kernel
theorem de_M_holds_27 : decode by_M_holds 27 = .ok (.if_icmp .ne 18, 3) := by decide +kernel
theorem de_M_holds_30 : decode by_M_holds 30 = .ok (.aload_n 0, 1) := by decide +kernel
theorem de_M_holds_31 : decode by_M_holds 31 = .ok (.invokevirtual 128, 3) := by decide +kernel
theorem de_M_holds_34 : decode by_M_holds 34 = .ok (.lconst 0, 1) := by decide +kernel
theorem de_M_holds_35 : decode by_M_holds 35 = .ok (.lcmp, 1) := by decide +kernel
theorem de_M_holds_36 : decode by_M_holds 36 = .ok (.ifCond .lt 7, 3) := by decide +kernel
theorem de_M_holds_39 : decode by_M_holds 39 = .ok (.iconst 1, 1) := by decide +kernel
theorem de_M_holds_40 : decode by_M_holds 40 = .ok (.goto 4, 3) := by decide +kernel
theorem de_M_holds_43 : decode by_M_holds 43 = .ok (.iconst 0, 1) := by decide +kernel
theorem de_M_holds_44 : decode by_M_holds 44 = .ok (.ireturn, 1) := by decide +kernel
theorem de_M_holds_45 : decode by_M_holds 45 = .ok (.iconst 1, 1) := by decide +kernel
theorem de_M_holds_46 : decode by_M_holds 46 = .ok (.istore_n 2, 1) := by decide +kernel
theorem de_M_holds_47 : decode by_M_holds 47 = .ok (.iconst 0, 1) := by decide +kernel
theorem de_M_holds_48 : decode by_M_holds 48 = .ok (.istore_n 3, 1) := by decide +kernel
theorem de_M_holds_49 : decode by_M_holds 49 = .ok (.iload_n 3, 1) := by decide +kernel
theorem de_M_holds_50 : decode by_M_holds 50 = .ok (.aload_n 0, 1) := by decide +kernel
theorem de_M_holds_51 : decode by_M_holds 51 = .ok (.getfield 79, 3) := by decide +kernel
theorem de_M_holds_54 : decode by_M_holds 54 = .ok (.if_icmp .ge 34, 3) := by decide +kernel
theorem de_M_holds_57 : decode by_M_holds 57 = .ok (.iload_n 1, 1) := by decide +kernel
theorem de_M_holds_58 : decode by_M_holds 58 = .ok (.iconst 1, 1) := by decide +kernel
theorem de_M_holds_59 : decode by_M_holds 59 = .ok (.if_icmp .ne 29, 3) := by decide +kernel
theorem de_M_holds_62 : decode by_M_holds 62 = .ok (.iload_n 2, 1) := by decide +kernel
theorem de_M_holds_63 : decode by_M_holds 63 = .ok (.ifCond .eq 17, 3) := by decide +kernel
theorem de_M_holds_66 : decode by_M_holds 66 = .ok (.aload_n 0, 1) := by decide +kernel
theorem de_M_holds_67 : decode by_M_holds 67 = .ok (.iload_n 3, 1) := by decide +kernel
theorem de_M_holds_68 : decode by_M_holds 68 = .ok (.invokevirtual 117, 3) := by decide +kernel
theorem de_M_holds_71 : decode by_M_holds 71 = .ok (.lconst 0, 1) := by decide +kernel
theorem de_M_holds_72 : decode by_M_holds 72 = .ok (.lcmp, 1) := by decide +kernel
theorem de_M_holds_73 : decode by_M_holds 73 = .ok (.ifCond .lt 7, 3) := by decide +kernel
theorem de_M_holds_76 : decode by_M_holds 76 = .ok (.iconst 1, 1) := by decide +kernel
theorem de_M_holds_77 : decode by_M_holds 77 = .ok (.goto 4, 3) := by decide +kernel
theorem de_M_holds_80 : decode by_M_holds 80 = .ok (.iconst 0, 1) := by decide +kernel
theorem de_M_holds_81 : decode by_M_holds 81 = .ok (.istore_n 2, 1) := by decide +kernel
theorem de_M_holds_82 : decode by_M_holds 82 = .ok (.iinc 3 1, 3) := by decide +kernel
theorem de_M_holds_85 : decode by_M_holds 85 = .ok (.goto (-36), 3) := by decide +kernel
theorem de_M_holds_88 : decode by_M_holds 88 = .ok (.iload_n 2, 1) := by decide +kernel
theorem de_M_holds_89 : decode by_M_holds 89 = .ok (.ifCond .eq 19, 3) := by decide +kernel
theorem de_M_holds_92 : decode by_M_holds 92 = .ok (.iload_n 1, 1) := by decide +kernel
theorem de_M_holds_93 : decode by_M_holds 93 = .ok (.iconst 1, 1) := by decide +kernel
theorem de_M_holds_94 : decode by_M_holds 94 = .ok (.if_icmp .gt 10, 3) := by decide +kernel
theorem de_M_holds_97 : decode by_M_holds 97 = .ok (.aload_n 0, 1) := by decide +kernel
theorem de_M_holds_98 : decode by_M_holds 98 = .ok (.invokevirtual 131, 3) := by decide +kernel
theorem de_M_holds_101 : decode by_M_holds 101 = .ok (.ifCond .eq 7, 3) := by decide +kernel
theorem de_M_holds_104 : decode by_M_holds 104 = .ok (.iconst 1, 1) := by decide +kernel
theorem de_M_holds_105 : decode by_M_holds 105 = .ok (.goto 4, 3) := by decide +kernel
theorem de_M_holds_108 : decode by_M_holds 108 = .ok (.iconst 0, 1) := by decide +kernel
theorem de_M_holds_109 : decode by_M_holds 109 = .ok (.ireturn, 1) := by decide +kernel
theorem de_M_methodNow_0 : decode by_M_methodNow 0 = .ok (.aload_n 0, 1) := by decide +kernel
theorem de_M_methodNow_1 : decode by_M_methodNow 1 = .ok (.getfield 79, 3) := by decide +kernel
theorem de_M_methodNow_4 : decode by_M_methodNow 4 = .ok (.ifCond .ne 5, 3) := by decide +kernel
theorem de_M_methodNow_7 : decode by_M_methodNow 7 = .ok (.iconst 0, 1) := by decide +kernel
theorem de_M_methodNow_8 : decode by_M_methodNow 8 = .ok (.ireturn, 1) := by decide +kernel
theorem de_M_methodNow_9 : decode by_M_methodNow 9 = .ok (.iconst 0, 1) := by decide +kernel
theorem de_M_methodNow_10 : decode by_M_methodNow 10 = .ok (.istore_n 1, 1) := by decide +kernel
theorem de_M_methodNow_11 : decode by_M_methodNow 11 = .ok (.bipush 6, 2) := by decide +kernel
theorem de_M_methodNow_13 : decode by_M_methodNow 13 = .ok (.istore_n 2, 1) := by decide +kernel
theorem de_M_methodNow_14 : decode by_M_methodNow 14 = .ok (.iload_n 2, 1) := by decide +kernel
theorem de_M_methodNow_15 : decode by_M_methodNow 15 = .ok (.ifCond .le 57, 3) := by decide +kernel
theorem de_M_methodNow_18 : decode by_M_methodNow 18 = .ok (.aload_n 0, 1) := by decide +kernel
theorem de_M_methodNow_19 : decode by_M_methodNow 19 = .ok (.getfield 135, 3) := by decide +kernel
theorem de_M_methodNow_22 : decode by_M_methodNow 22 = .ok (.ifCond .eq 12, 3) := by decide +kernel
theorem de_M_methodNow_25 : decode by_M_methodNow 25 = .ok (.iload_n 2, 1) := by decide +kernel
theorem de_M_methodNow_26 : decode by_M_methodNow 26 = .ok (.iconst 4, 1) := by decide +kernel
theorem de_M_methodNow_27 : decode by_M_methodNow 27 = .ok (.if_icmp .ne 7, 3) := by decide +kernel
theorem de_M_methodNow_30 : decode by_M_methodNow 30 = .ok (.iconst 5, 1) := by decide +kernel
theorem de_M_methodNow_31 : decode by_M_methodNow 31 = .ok (.goto 20, 3) := by decide +kernel
theorem de_M_methodNow_34 : decode by_M_methodNow 34 = .ok (.aload_n 0, 1) := by decide +kernel
theorem de_M_methodNow_35 : decode by_M_methodNow 35 = .ok (.getfield 135, 3) := by decide +kernel
theorem de_M_methodNow_38 : decode by_M_methodNow 38 = .ok (.ifCond .eq 12, 3) := by decide +kernel
theorem de_M_methodNow_41 : decode by_M_methodNow 41 = .ok (.iload_n 2, 1) := by decide +kernel
theorem de_M_methodNow_42 : decode by_M_methodNow 42 = .ok (.iconst 5, 1) := by decide +kernel
theorem de_M_methodNow_43 : decode by_M_methodNow 43 = .ok (.if_icmp .ne 7, 3) := by decide +kernel
theorem de_M_methodNow_46 : decode by_M_methodNow 46 = .ok (.iconst 4, 1) := by decide +kernel
theorem de_M_methodNow_47 : decode by_M_methodNow 47 = .ok (.goto 4, 3) := by decide +kernel
theorem de_M_methodNow_50 : decode by_M_methodNow 50 = .ok (.iload_n 2, 1) := by decide +kernel
theorem de_M_methodNow_51 : decode by_M_methodNow 51 = .ok (.istore_n 3, 1) := by decide +kernel
theorem de_M_methodNow_52 : decode by_M_methodNow 52 = .ok (.aload_n 0, 1) := by decide +kernel
theorem de_M_methodNow_53 : decode by_M_methodNow 53 = .ok (.iload_n 3, 1) := by decide +kernel
theorem de_M_methodNow_54 : decode by_M_methodNow 54 = .ok (.invokevirtual 138, 3) := by decide +kernel
theorem de_M_methodNow_57 : decode by_M_methodNow 57 = .ok (.ifCond .eq 7, 3) := by decide +kernel
theorem de_M_methodNow_60 : decode by_M_methodNow 60 = .ok (.iload_n 3, 1) := by decide +kernel
theorem de_M_methodNow_61 : decode by_M_methodNow 61 = .ok (.goto 4, 3) := by decide +kernel
theorem de_M_methodNow_64 : decode by_M_methodNow 64 = .ok (.iload_n 1, 1) := by decide +kernel
theorem de_M_methodNow_65 : decode by_M_methodNow 65 = .ok (.istore_n 1, 1) := by decide +kernel
theorem de_M_methodNow_66 : decode by_M_methodNow 66 = .ok (.iinc 2 (-1), 3) := by decide +kernel
theorem de_M_methodNow_69 : decode by_M_methodNow 69 = .ok (.goto (-55), 3) := by decide +kernel
theorem de_M_methodNow_72 : decode by_M_methodNow 72 = .ok (.iload_n 1, 1) := by decide +kernel
theorem de_M_methodNow_73 : decode by_M_methodNow 73 = .ok (.ireturn, 1) := by decide +kernel
theorem de_M_valueOf_0 : decode by_M_valueOf 0 = .ok (.iload_n 2, 1) := by decide +kernel
theorem de_M_valueOf_1 : decode by_M_valueOf 1 = .ok (.tableswitch 112 1 5 #[35, 41, 41, 64, 75], 35) := by decide +kernel
theorem de_M_valueOf_36 : decode by_M_valueOf 36 = .ok (.aload_n 0, 1) := by decide +kernel
theorem de_M_valueOf_37 : decode by_M_valueOf 37 = .ok (.iload_n 1, 1) := by decide +kernel
theorem de_M_valueOf_38 : decode by_M_valueOf 38 = .ok (.invokevirtual 117, 3) := by decide +kernel
theorem de_M_valueOf_41 : decode by_M_valueOf 41 = .ok (.lreturn, 1) := by decide +kernel
theorem de_M_valueOf_42 : decode by_M_valueOf 42 = .ok (.aload_n 0, 1) := by decide +kernel
theorem de_M_valueOf_43 : decode by_M_valueOf 43 = .ok (.getfield 7, 3) := by decide +kernel
theorem de_M_valueOf_46 : decode by_M_valueOf 46 = .ok (.iload_n 1, 1) := by decide +kernel
theorem de_M_valueOf_47 : decode by_M_valueOf 47 = .ok (.laload, 1) := by decide +kernel
theorem de_M_valueOf_48 : decode by_M_valueOf 48 = .ok (.aload_n 0, 1) := by decide +kernel
theorem de_M_valueOf_49 : decode by_M_valueOf 49 = .ok (.getfield 49, 3) := by decide +kernel
theorem de_M_valueOf_52 : decode by_M_valueOf 52 = .ok (.iload_n 2, 1) := by decide +kernel
theorem de_M_valueOf_53 : decode by_M_valueOf 53 = .ok (.laload, 1) := by decide +kernel
theorem de_M_valueOf_54 : decode by_M_valueOf 54 = .ok (.lmul, 1) := by decide +kernel
theorem de_M_valueOf_55 : decode by_M_valueOf 55 = .ok (.aload_n 0, 1) := by decide +kernel
theorem de_M_valueOf_56 : decode by_M_valueOf 56 = .ok (.getfield 52, 3) := by decide +kernel
theorem de_M_valueOf_59 : decode by_M_valueOf 59 = .ok (.iload_n 2, 1) := by decide +kernel
theorem de_M_valueOf_60 : decode by_M_valueOf 60 = .ok (.laload, 1) := by decide +kernel
theorem de_M_valueOf_61 : decode by_M_valueOf 61 = .ok (.invokestatic 102, 3) := by decide +kernel
theorem de_M_valueOf_64 : decode by_M_valueOf 64 = .ok (.lreturn, 1) := by decide +kernel
theorem de_M_valueOf_65 : decode by_M_valueOf 65 = .ok (.aload_n 0, 1) := by decide +kernel
theorem de_M_valueOf_66 : decode by_M_valueOf 66 = .ok (.aload_n 0, 1) := by decide +kernel
theorem de_M_valueOf_67 : decode by_M_valueOf 67 = .ok (.invokevirtual 128, 3) := by decide +kernel
theorem de_M_valueOf_70 : decode by_M_valueOf 70 = .ok (.iload_n 1, 1) := by decide +kernel
theorem de_M_valueOf_71 : decode by_M_valueOf 71 = .ok (.iconst 0, 1) := by decide +kernel
theorem de_M_valueOf_72 : decode by_M_valueOf 72 = .ok (.invokevirtual 109, 3) := by decide +kernel
theorem de_M_valueOf_75 : decode by_M_valueOf 75 = .ok (.lreturn, 1) := by decide +kernel
theorem de_M_valueOf_76 : decode by_M_valueOf 76 = .ok (.aload_n 0, 1) := by decide +kernel
theorem de_M_valueOf_77 : decode by_M_valueOf 77 = .ok (.aload_n 0, 1) := by decide +kernel
theorem de_M_valueOf_78 : decode by_M_valueOf 78 = .ok (.getfield 49, 3) := by decide +kernel
theorem de_M_valueOf_81 : decode by_M_valueOf 81 = .ok (.iconst 5, 1) := by decide +kernel
theorem de_M_valueOf_82 : decode by_M_valueOf 82 = .ok (.laload, 1) := by decide +kernel
theorem de_M_valueOf_83 : decode by_M_valueOf 83 = .ok (.ldc2_w 100, 3) := by decide +kernel
theorem de_M_valueOf_86 : decode by_M_valueOf 86 = .ok (.aload_n 0, 1) := by decide +kernel
theorem de_M_valueOf_87 : decode by_M_valueOf 87 = .ok (.getfield 52, 3) := by decide +kernel
theorem de_M_valueOf_90 : decode by_M_valueOf 90 = .ok (.iconst 5, 1) := by decide +kernel
theorem de_M_valueOf_91 : decode by_M_valueOf 91 = .ok (.laload, 1) := by decide +kernel
theorem de_M_valueOf_92 : decode by_M_valueOf 92 = .ok (.ladd, 1) := by decide +kernel
theorem de_M_valueOf_93 : decode by_M_valueOf 93 = .ok (.lmul, 1) := by decide +kernel
theorem de_M_valueOf_94 : decode by_M_valueOf 94 = .ok (.ldc2_w 100, 3) := by decide +kernel
theorem de_M_valueOf_97 : decode by_M_valueOf 97 = .ok (.invokestatic 102, 3) := by decide +kernel
theorem de_M_valueOf_100 : decode by_M_valueOf 100 = .ok (.aload_n 0, 1) := by decide +kernel
theorem de_M_valueOf_101 : decode by_M_valueOf 101 = .ok (.iconst 0, 1) := by decide +kernel
theorem de_M_valueOf_102 : decode by_M_valueOf 102 = .ok (.iconst 5, 1) := by decide +kernel
theorem de_M_valueOf_103 : decode by_M_valueOf 103 = .ok (.invokevirtual 124, 3) := by decide +kernel
theorem de_M_valueOf_106 : decode by_M_valueOf 106 = .ok (.ladd, 1) := by decide +kernel
theorem de_M_valueOf_107 : decode by_M_valueOf 107 = .ok (.iload_n 1, 1) := by decide +kernel
theorem de_M_valueOf_108 : decode by_M_valueOf 108 = .ok (.iconst 0, 1) := by decide +kernel
theorem de_M_valueOf_109 : decode by_M_valueOf 109 = .ok (.invokevirtual 109, 3) := by decide +kernel
theorem de_M_valueOf_112 : decode by_M_valueOf 112 = .ok (.lreturn, 1) := by decide +kernel
theorem de_M_valueOf_113 : decode by_M_valueOf 113 = .ok (.aload_n 0, 1) := by decide +kernel
theorem de_M_valueOf_114 : decode by_M_valueOf 114 = .ok (.aload_n 0, 1) := by decide +kernel
theorem de_M_valueOf_115 : decode by_M_valueOf 115 = .ok (.getfield 49, 3) := by decide +kernel
theorem de_M_valueOf_118 : decode by_M_valueOf 118 = .ok (.bipush 6, 2) := by decide +kernel
theorem de_M_valueOf_120 : decode by_M_valueOf 120 = .ok (.laload, 1) := by decide +kernel
theorem de_M_valueOf_121 : decode by_M_valueOf 121 = .ok (.iload_n 1, 1) := by decide +kernel
theorem de_M_valueOf_122 : decode by_M_valueOf 122 = .ok (.iconst 0, 1) := by decide +kernel
theorem de_M_valueOf_123 : decode by_M_valueOf 123 = .ok (.invokevirtual 109, 3) := by decide +kernel
theorem de_M_valueOf_126 : decode by_M_valueOf 126 = .ok (.lreturn, 1) := by decide +kernel
theorem de_M_isOwn_0 : decode by_M_isOwn 0 = .ok (.iload_n 1, 1) := by decide +kernel
theorem de_M_isOwn_1 : decode by_M_isOwn 1 = .ok (.iconst 4, 1) := by decide +kernel
theorem de_M_isOwn_2 : decode by_M_isOwn 2 = .ok (.if_icmp .eq 23, 3) := by decide +kernel
theorem de_M_isOwn_5 : decode by_M_isOwn 5 = .ok (.iload_n 1, 1) := by decide +kernel
theorem de_M_isOwn_6 : decode by_M_isOwn 6 = .ok (.iconst 5, 1) := by decide +kernel
theorem de_M_isOwn_7 : decode by_M_isOwn 7 = .ok (.if_icmp .eq 18, 3) := by decide +kernel
theorem de_M_isOwn_10 : decode by_M_isOwn 10 = .ok (.aload_n 0, 1) := by decide +kernel
theorem de_M_isOwn_11 : decode by_M_isOwn 11 = .ok (.getfield 37, 3) := by decide +kernel
theorem de_M_isOwn_14 : decode by_M_isOwn 14 = .ok (.aload_n 0, 1) := by decide +kernel
theorem de_M_isOwn_15 : decode by_M_isOwn 15 = .ok (.getfield 93, 3) := by decide +kernel
theorem de_M_isOwn_18 : decode by_M_isOwn 18 = .ok (.bipush 30, 2) := by decide +kernel
theorem de_M_isOwn_20 : decode by_M_isOwn 20 = .ok (.idiv, 1) := by decide +kernel
theorem de_M_isOwn_21 : decode by_M_isOwn 21 = .ok (.iaload, 1) := by decide +kernel
theorem de_M_isOwn_22 : decode by_M_isOwn 22 = .ok (.ifCond .ne 7, 3) := by decide +kernel
theorem de_M_isOwn_25 : decode by_M_isOwn 25 = .ok (.iconst 1, 1) := by decide +kernel
theorem de_M_isOwn_26 : decode by_M_isOwn 26 = .ok (.goto 4, 3) := by decide +kernel
theorem de_M_isOwn_29 : decode by_M_isOwn 29 = .ok (.iconst 0, 1) := by decide +kernel
theorem de_M_isOwn_30 : decode by_M_isOwn 30 = .ok (.ireturn, 1) := by decide +kernel
theorem de_M_upOf_0 : decode by_M_upOf 0 = .ok (.aload_n 0, 1) := by decide +kernel
theorem de_M_upOf_1 : decode by_M_upOf 1 = .ok (.iload_n 1, 1) := by decide +kernel
theorem de_M_upOf_2 : decode by_M_upOf 2 = .ok (.invokevirtual 142, 3) := by decide +kernel
theorem de_M_upOf_5 : decode by_M_upOf 5 = .ok (.ifCond .eq 7, 3) := by decide +kernel
theorem de_M_upOf_8 : decode by_M_upOf 8 = .ok (.lconst 1, 1) := by decide +kernel
theorem de_M_upOf_9 : decode by_M_upOf 9 = .ok (.goto 16, 3) := by decide +kernel
theorem de_M_upOf_12 : decode by_M_upOf 12 = .ok (.aload_n 0, 1) := by decide +kernel
theorem de_M_upOf_13 : decode by_M_upOf 13 = .ok (.getfield 37, 3) := by decide +kernel
theorem de_M_upOf_16 : decode by_M_upOf 16 = .ok (.aload_n 0, 1) := by decide +kernel
theorem de_M_upOf_17 : decode by_M_upOf 17 = .ok (.getfield 93, 3) := by decide +kernel
theorem de_M_upOf_20 : decode by_M_upOf 20 = .ok (.bipush 30, 2) := by decide +kernel
theorem de_M_upOf_22 : decode by_M_upOf 22 = .ok (.idiv, 1) := by decide +kernel
theorem de_M_upOf_23 : decode by_M_upOf 23 = .ok (.iaload, 1) := by decide +kernel
theorem de_M_upOf_24 : decode by_M_upOf 24 = .ok (.i2l, 1) := by decide +kernel
theorem de_M_upOf_25 : decode by_M_upOf 25 = .ok (.lreturn, 1) := by decide +kernel
theorem de_M_downOf_0 : decode by_M_downOf 0 = .ok (.aload_n 0, 1) := by decide +kernel
theorem de_M_downOf_1 : decode by_M_downOf 1 = .ok (.iload_n 1, 1) := by decide +kernel
theorem de_M_downOf_2 : decode by_M_downOf 2 = .ok (.invokevirtual 142, 3) := by decide +kernel
theorem de_M_downOf_5 : decode by_M_downOf 5 = .ok (.ifCond .eq 7, 3) := by decide +kernel
theorem de_M_downOf_8 : decode by_M_downOf 8 = .ok (.lconst 1, 1) := by decide +kernel
theorem de_M_downOf_9 : decode by_M_downOf 9 = .ok (.goto 16, 3) := by decide +kernel
theorem de_M_downOf_12 : decode by_M_downOf 12 = .ok (.aload_n 0, 1) := by decide +kernel
theorem de_M_downOf_13 : decode by_M_downOf 13 = .ok (.getfield 40, 3) := by decide +kernel
theorem de_M_downOf_16 : decode by_M_downOf 16 = .ok (.aload_n 0, 1) := by decide +kernel
theorem de_M_downOf_17 : decode by_M_downOf 17 = .ok (.getfield 93, 3) := by decide +kernel
theorem de_M_downOf_20 : decode by_M_downOf 20 = .ok (.bipush 30, 2) := by decide +kernel
theorem de_M_downOf_22 : decode by_M_downOf 22 = .ok (.idiv, 1) := by decide +kernel
theorem de_M_downOf_23 : decode by_M_downOf 23 = .ok (.iaload, 1) := by decide +kernel
theorem de_M_downOf_24 : decode by_M_downOf 24 = .ok (.i2l, 1) := by decide +kernel
theorem de_M_downOf_25 : decode by_M_downOf 25 = .ok (.lreturn, 1) := by decide +kernel
theorem de_M_valueSum_0 : decode by_M_valueSum 0 = .ok (.lconst 0, 1) := by decide +kernel
theorem de_M_valueSum_1 : decode by_M_valueSum 1 = .ok (.lstore_n 2, 1) := by decide +kernel
theorem de_M_valueSum_2 : decode by_M_valueSum 2 = .ok (.iconst 0, 1) := by decide +kernel
theorem de_M_valueSum_3 : decode by_M_valueSum 3 = .ok (.istore 4, 2) := by decide +kernel
theorem de_M_valueSum_5 : decode by_M_valueSum 5 = .ok (.iload 4, 2) := by decide +kernel
theorem de_M_valueSum_7 : decode by_M_valueSum 7 = .ok (.aload_n 0, 1) := by decide +kernel
theorem de_M_valueSum_8 : decode by_M_valueSum 8 = .ok (.getfield 79, 3) := by decide +kernel
theorem de_M_valueSum_11 : decode by_M_valueSum 11 = .ok (.if_icmp .ge 19, 3) := by decide +kernel
theorem de_M_valueSum_14 : decode by_M_valueSum 14 = .ok (.lload_n 2, 1) := by decide +kernel
theorem de_M_valueSum_15 : decode by_M_valueSum 15 = .ok (.aload_n 0, 1) := by decide +kernel
theorem de_M_valueSum_16 : decode by_M_valueSum 16 = .ok (.iload 4, 2) := by decide +kernel
theorem de_M_valueSum_18 : decode by_M_valueSum 18 = .ok (.iload_n 1, 1) := by decide +kernel
theorem de_M_valueSum_19 : decode by_M_valueSum 19 = .ok (.invokevirtual 145, 3) := by decide +kernel
theorem de_M_valueSum_22 : decode by_M_valueSum 22 = .ok (.ladd, 1) := by decide +kernel
theorem de_M_valueSum_23 : decode by_M_valueSum 23 = .ok (.lstore_n 2, 1) := by decide +kernel
theorem de_M_valueSum_24 : decode by_M_valueSum 24 = .ok (.iinc 4 1, 3) := by decide +kernel
theorem de_M_valueSum_27 : decode by_M_valueSum 27 = .ok (.goto (-22), 3) := by decide +kernel
theorem de_M_valueSum_30 : decode by_M_valueSum 30 = .ok (.lload_n 2, 1) := by decide +kernel
theorem de_M_valueSum_31 : decode by_M_valueSum 31 = .ok (.lreturn, 1) := by decide +kernel
theorem de_M_ownSum_0 : decode by_M_ownSum 0 = .ok (.aload_n 0, 1) := by decide +kernel
theorem de_M_ownSum_1 : decode by_M_ownSum 1 = .ok (.iload_n 1, 1) := by decide +kernel
theorem de_M_ownSum_2 : decode by_M_ownSum 2 = .ok (.invokevirtual 148, 3) := by decide +kernel
theorem de_M_ownSum_5 : decode by_M_ownSum 5 = .ok (.aload_n 0, 1) := by decide +kernel
theorem de_M_ownSum_6 : decode by_M_ownSum 6 = .ok (.iload_n 1, 1) := by decide +kernel
theorem de_M_ownSum_7 : decode by_M_ownSum 7 = .ok (.invokevirtual 151, 3) := by decide +kernel
theorem de_M_ownSum_10 : decode by_M_ownSum 10 = .ok (.lmul, 1) := by decide +kernel
theorem de_M_ownSum_11 : decode by_M_ownSum 11 = .ok (.aload_n 0, 1) := by decide +kernel
theorem de_M_ownSum_12 : decode by_M_ownSum 12 = .ok (.iload_n 1, 1) := by decide +kernel
theorem de_M_ownSum_13 : decode by_M_ownSum 13 = .ok (.invokevirtual 154, 3) := by decide +kernel
theorem de_M_ownSum_16 : decode by_M_ownSum 16 = .ok (.invokestatic 102, 3) := by decide +kernel
theorem de_M_ownSum_19 : decode by_M_ownSum 19 = .ok (.lreturn, 1) := by decide +kernel
theorem de_M_ownOf_0 : decode by_M_ownOf 0 = .ok (.aload_n 0, 1) := by decide +kernel
theorem de_M_ownOf_1 : decode by_M_ownOf 1 = .ok (.iload_n 2, 1) := by decide +kernel
theorem de_M_ownOf_2 : decode by_M_ownOf 2 = .ok (.invokevirtual 157, 3) := by decide +kernel
theorem de_M_ownOf_5 : decode by_M_ownOf 5 = .ok (.lstore_n 3, 1) := by decide +kernel
theorem de_M_ownOf_6 : decode by_M_ownOf 6 = .ok (.aload_n 0, 1) := by decide +kernel
theorem de_M_ownOf_7 : decode by_M_ownOf 7 = .ok (.iload_n 1, 1) := by decide +kernel
theorem de_M_ownOf_8 : decode by_M_ownOf 8 = .ok (.iload_n 2, 1) := by decide +kernel
theorem de_M_ownOf_9 : decode by_M_ownOf 9 = .ok (.invokevirtual 145, 3) := by decide +kernel
theorem de_M_ownOf_12 : decode by_M_ownOf 12 = .ok (.aload_n 0, 1) := by decide +kernel
theorem de_M_ownOf_13 : decode by_M_ownOf 13 = .ok (.iload_n 2, 1) := by decide +kernel
theorem de_M_ownOf_14 : decode by_M_ownOf 14 = .ok (.invokevirtual 151, 3) := by decide +kernel
theorem de_M_ownOf_17 : decode by_M_ownOf 17 = .ok (.lmul, 1) := by decide +kernel
theorem de_M_ownOf_18 : decode by_M_ownOf 18 = .ok (.lstore 5, 2) := by decide +kernel
theorem de_M_ownOf_20 : decode by_M_ownOf 20 = .ok (.iconst 0, 1) := by decide +kernel
theorem de_M_ownOf_21 : decode by_M_ownOf 21 = .ok (.istore 7, 2) := by decide +kernel
theorem de_M_ownOf_23 : decode by_M_ownOf 23 = .ok (.iconst 0, 1) := by decide +kernel
theorem de_M_ownOf_24 : decode by_M_ownOf 24 = .ok (.istore 8, 2) := by decide +kernel
theorem de_M_ownOf_26 : decode by_M_ownOf 26 = .ok (.iload 8, 2) := by decide +kernel
theorem de_M_ownOf_28 : decode by_M_ownOf 28 = .ok (.aload_n 0, 1) := by decide +kernel
theorem de_M_ownOf_29 : decode by_M_ownOf 29 = .ok (.getfield 79, 3) := by decide +kernel
theorem de_M_ownOf_32 : decode by_M_ownOf 32 = .ok (.if_icmp .ge 91, 3) := by decide +kernel
theorem de_M_ownOf_35 : decode by_M_ownOf 35 = .ok (.aload_n 0, 1) := by decide +kernel
theorem de_M_ownOf_36 : decode by_M_ownOf 36 = .ok (.iload 8, 2) := by decide +kernel
theorem de_M_ownOf_38 : decode by_M_ownOf 38 = .ok (.iload_n 2, 1) := by decide +kernel
theorem de_M_ownOf_39 : decode by_M_ownOf 39 = .ok (.invokevirtual 145, 3) := by decide +kernel
theorem de_M_ownOf_42 : decode by_M_ownOf 42 = .ok (.aload_n 0, 1) := by decide +kernel
theorem de_M_ownOf_43 : decode by_M_ownOf 43 = .ok (.iload_n 2, 1) := by decide +kernel
theorem de_M_ownOf_44 : decode by_M_ownOf 44 = .ok (.invokevirtual 151, 3) := by decide +kernel
theorem de_M_ownOf_47 : decode by_M_ownOf 47 = .ok (.lmul, 1) := by decide +kernel
theorem de_M_ownOf_48 : decode by_M_ownOf 48 = .ok (.lstore 9, 2) := by decide +kernel
theorem de_M_ownOf_50 : decode by_M_ownOf 50 = .ok (.lload_n 3, 1) := by decide +kernel
theorem de_M_ownOf_51 : decode by_M_ownOf 51 = .ok (.lload 9, 2) := by decide +kernel
theorem de_M_ownOf_53 : decode by_M_ownOf 53 = .ok (.aload_n 0, 1) := by decide +kernel
theorem de_M_ownOf_54 : decode by_M_ownOf 54 = .ok (.iload_n 2, 1) := by decide +kernel
theorem de_M_ownOf_55 : decode by_M_ownOf 55 = .ok (.invokevirtual 154, 3) := by decide +kernel
theorem de_M_ownOf_58 : decode by_M_ownOf 58 = .ok (.ldiv, 1) := by decide +kernel
theorem de_M_ownOf_59 : decode by_M_ownOf 59 = .ok (.lsub, 1) := by decide +kernel
theorem de_M_ownOf_60 : decode by_M_ownOf 60 = .ok (.lstore_n 3, 1) := by decide +kernel
theorem de_M_ownOf_61 : decode by_M_ownOf 61 = .ok (.iload 7, 2) := by decide +kernel
theorem de_M_ownOf_63 : decode by_M_ownOf 63 = .ok (.lload 9, 2) := by decide +kernel
theorem de_M_ownOf_65 : decode by_M_ownOf 65 = .ok (.aload_n 0, 1) := by decide +kernel
theorem de_M_ownOf_66 : decode by_M_ownOf 66 = .ok (.iload_n 2, 1) := by decide +kernel
theorem de_M_ownOf_67 : decode by_M_ownOf 67 = .ok (.invokevirtual 154, 3) := by decide +kernel
theorem de_M_ownOf_70 : decode by_M_ownOf 70 = .ok (.lrem, 1) := by decide +kernel
theorem de_M_ownOf_71 : decode by_M_ownOf 71 = .ok (.lload 5, 2) := by decide +kernel
theorem de_M_ownOf_73 : decode by_M_ownOf 73 = .ok (.aload_n 0, 1) := by decide +kernel
theorem de_M_ownOf_74 : decode by_M_ownOf 74 = .ok (.iload_n 2, 1) := by decide +kernel
theorem de_M_ownOf_75 : decode by_M_ownOf 75 = .ok (.invokevirtual 154, 3) := by decide +kernel
theorem de_M_ownOf_78 : decode by_M_ownOf 78 = .ok (.lrem, 1) := by decide +kernel
theorem de_M_ownOf_79 : decode by_M_ownOf 79 = .ok (.lcmp, 1) := by decide +kernel
theorem de_M_ownOf_80 : decode by_M_ownOf 80 = .ok (.ifCond .gt 29, 3) := by decide +kernel
theorem de_M_ownOf_83 : decode by_M_ownOf 83 = .ok (.lload 9, 2) := by decide +kernel
theorem de_M_ownOf_85 : decode by_M_ownOf 85 = .ok (.aload_n 0, 1) := by decide +kernel
theorem de_M_ownOf_86 : decode by_M_ownOf 86 = .ok (.iload_n 2, 1) := by decide +kernel
theorem de_M_ownOf_87 : decode by_M_ownOf 87 = .ok (.invokevirtual 154, 3) := by decide +kernel
theorem de_M_ownOf_90 : decode by_M_ownOf 90 = .ok (.lrem, 1) := by decide +kernel
theorem de_M_ownOf_91 : decode by_M_ownOf 91 = .ok (.lload 5, 2) := by decide +kernel
theorem de_M_ownOf_93 : decode by_M_ownOf 93 = .ok (.aload_n 0, 1) := by decide +kernel
theorem de_M_ownOf_94 : decode by_M_ownOf 94 = .ok (.iload_n 2, 1) := by decide +kernel
theorem de_M_ownOf_95 : decode by_M_ownOf 95 = .ok (.invokevirtual 154, 3) := by decide +kernel
theorem de_M_ownOf_98 : decode by_M_ownOf 98 = .ok (.lrem, 1) := by decide +kernel
theorem de_M_ownOf_99 : decode by_M_ownOf 99 = .ok (.lcmp, 1) := by decide +kernel
theorem de_M_ownOf_100 : decode by_M_ownOf 100 = .ok (.ifCond .ne 13, 3) := by decide +kernel
theorem de_M_ownOf_103 : decode by_M_ownOf 103 = .ok (.iload 8, 2) := by decide +kernel
theorem de_M_ownOf_105 : decode by_M_ownOf 105 = .ok (.iload_n 1, 1) := by decide +kernel
theorem de_M_ownOf_106 : decode by_M_ownOf 106 = .ok (.if_icmp .ge 7, 3) := by decide +kernel
theorem de_M_ownOf_109 : decode by_M_ownOf 109 = .ok (.iconst 1, 1) := by decide +kernel
theorem de_M_ownOf_110 : decode by_M_ownOf 110 = .ok (.goto 4, 3) := by decide +kernel
theorem de_M_ownOf_113 : decode by_M_ownOf 113 = .ok (.iconst 0, 1) := by decide +kernel
theorem de_M_ownOf_114 : decode by_M_ownOf 114 = .ok (.iadd, 1) := by decide +kernel
theorem de_M_ownOf_115 : decode by_M_ownOf 115 = .ok (.istore 7, 2) := by decide +kernel
theorem de_M_ownOf_117 : decode by_M_ownOf 117 = .ok (.iinc 8 1, 3) := by decide +kernel
theorem de_M_ownOf_120 : decode by_M_ownOf 120 = .ok (.goto (-94), 3) := by decide +kernel
theorem de_M_ownOf_123 : decode by_M_ownOf 123 = .ok (.lload 5, 2) := by decide +kernel
theorem de_M_ownOf_125 : decode by_M_ownOf 125 = .ok (.aload_n 0, 1) := by decide +kernel
theorem de_M_ownOf_126 : decode by_M_ownOf 126 = .ok (.iload_n 2, 1) := by decide +kernel
theorem de_M_ownOf_127 : decode by_M_ownOf 127 = .ok (.invokevirtual 154, 3) := by decide +kernel
theorem de_M_ownOf_130 : decode by_M_ownOf 130 = .ok (.ldiv, 1) := by decide +kernel
theorem de_M_ownOf_131 : decode by_M_ownOf 131 = .ok (.iload 7, 2) := by decide +kernel
theorem de_M_ownOf_133 : decode by_M_ownOf 133 = .ok (.i2l, 1) := by decide +kernel
theorem de_M_ownOf_134 : decode by_M_ownOf 134 = .ok (.lload_n 3, 1) := by decide +kernel
theorem de_M_ownOf_135 : decode by_M_ownOf 135 = .ok (.lcmp, 1) := by decide +kernel
theorem de_M_ownOf_136 : decode by_M_ownOf 136 = .ok (.ifCond .ge 7, 3) := by decide +kernel
theorem de_M_ownOf_139 : decode by_M_ownOf 139 = .ok (.lconst 1, 1) := by decide +kernel
theorem de_M_ownOf_140 : decode by_M_ownOf 140 = .ok (.goto 4, 3) := by decide +kernel
theorem de_M_ownOf_143 : decode by_M_ownOf 143 = .ok (.lconst 0, 1) := by decide +kernel
theorem de_M_ownOf_144 : decode by_M_ownOf 144 = .ok (.ladd, 1) := by decide +kernel
theorem de_M_ownOf_145 : decode by_M_ownOf 145 = .ok (.lreturn, 1) := by decide +kernel
theorem de_M_line_0 : decode by_M_line 0 = .ok (.aload_n 0, 1) := by decide +kernel
theorem de_M_line_1 : decode by_M_line 1 = .ok (.lload_n 1, 1) := by decide +kernel
theorem de_M_line_2 : decode by_M_line 2 = .ok (.lconst 0, 1) := by decide +kernel
theorem de_M_line_3 : decode by_M_line 3 = .ok (.ldc2_w 160, 3) := by decide +kernel
theorem de_M_line_6 : decode by_M_line 6 = .ok (.invokestatic 162, 3) := by decide +kernel
theorem de_M_line_9 : decode by_M_line 9 = .ok (.ifCond .eq 14, 3) := by decide +kernel
theorem de_M_line_12 : decode by_M_line 12 = .ok (.lload_n 3, 1) := by decide +kernel
theorem de_M_line_13 : decode by_M_line 13 = .ok (.lconst 0, 1) := by decide +kernel
theorem de_M_line_14 : decode by_M_line 14 = .ok (.ldc2_w 160, 3) := by decide +kernel
theorem de_M_line_17 : decode by_M_line 17 = .ok (.invokestatic 162, 3) := by decide +kernel
theorem de_M_line_20 : decode by_M_line 20 = .ok (.ifCond .ne 7, 3) := by decide +kernel
theorem de_M_line_23 : decode by_M_line 23 = .ok (.iconst 1, 1) := by decide +kernel
theorem de_M_line_24 : decode by_M_line 24 = .ok (.goto 17, 3) := by decide +kernel
theorem de_M_line_27 : decode by_M_line 27 = .ok (.aload_n 0, 1) := by decide +kernel
theorem de_M_line_28 : decode by_M_line 28 = .ok (.getfield 79, 3) := by decide +kernel
theorem de_M_line_31 : decode by_M_line 31 = .ok (.bipush 40, 2) := by decide +kernel
theorem de_M_line_33 : decode by_M_line 33 = .ok (.if_icmp .ne 7, 3) := by decide +kernel
theorem de_M_line_36 : decode by_M_line 36 = .ok (.iconst 2, 1) := by decide +kernel
theorem de_M_line_37 : decode by_M_line 37 = .ok (.goto 4, 3) := by decide +kernel
theorem de_M_line_40 : decode by_M_line 40 = .ok (.iconst 0, 1) := by decide +kernel
theorem de_M_line_41 : decode by_M_line 41 = .ok (.putfield 61, 3) := by decide +kernel
theorem de_M_line_44 : decode by_M_line 44 = .ok (.aload_n 0, 1) := by decide +kernel
theorem de_M_line_45 : decode by_M_line 45 = .ok (.getfield 61, 3) := by decide +kernel
theorem de_M_line_48 : decode by_M_line 48 = .ok (.ifCond .le 5, 3) := by decide +kernel
theorem de_M_line_51 : decode by_M_line 51 = .ok (.iconst 0, 1) := by decide +kernel
theorem de_M_line_52 : decode by_M_line 52 = .ok (.ireturn, 1) := by decide +kernel
theorem de_M_line_53 : decode by_M_line 53 = .ok (.aload_n 0, 1) := by decide +kernel
theorem de_M_line_54 : decode by_M_line 54 = .ok (.getfield 7, 3) := by decide +kernel
theorem de_M_line_57 : decode by_M_line 57 = .ok (.aload_n 0, 1) := by decide +kernel
theorem de_M_line_58 : decode by_M_line 58 = .ok (.getfield 79, 3) := by decide +kernel
theorem de_M_line_61 : decode by_M_line 61 = .ok (.lload_n 1, 1) := by decide +kernel
theorem de_M_line_62 : decode by_M_line 62 = .ok (.lastore, 1) := by decide +kernel
theorem de_M_line_63 : decode by_M_line 63 = .ok (.aload_n 0, 1) := by decide +kernel
theorem de_M_line_64 : decode by_M_line 64 = .ok (.getfield 13, 3) := by decide +kernel
theorem de_M_line_67 : decode by_M_line 67 = .ok (.aload_n 0, 1) := by decide +kernel
theorem de_M_line_68 : decode by_M_line 68 = .ok (.getfield 79, 3) := by decide +kernel
theorem de_M_line_71 : decode by_M_line 71 = .ok (.lload_n 3, 1) := by decide +kernel
theorem de_M_line_72 : decode by_M_line 72 = .ok (.lastore, 1) := by decide +kernel
theorem de_M_line_73 : decode by_M_line 73 = .ok (.aload_n 0, 1) := by decide +kernel
theorem de_M_line_74 : decode by_M_line 74 = .ok (.dup, 1) := by decide +kernel
theorem de_M_line_75 : decode by_M_line 75 = .ok (.getfield 66, 3) := by decide +kernel
theorem de_M_line_78 : decode by_M_line 78 = .ok (.lload_n 1, 1) := by decide +kernel
theorem de_M_line_79 : decode by_M_line 79 = .ok (.ladd, 1) := by decide +kernel
theorem de_M_line_80 : decode by_M_line 80 = .ok (.putfield 66, 3) := by decide +kernel
theorem de_M_line_83 : decode by_M_line 83 = .ok (.aload_n 0, 1) := by decide +kernel
theorem de_M_line_84 : decode by_M_line 84 = .ok (.dup, 1) := by decide +kernel
theorem de_M_line_85 : decode by_M_line 85 = .ok (.getfield 69, 3) := by decide +kernel
theorem de_M_line_88 : decode by_M_line 88 = .ok (.lload_n 3, 1) := by decide +kernel
theorem de_M_line_89 : decode by_M_line 89 = .ok (.ladd, 1) := by decide +kernel
theorem de_M_line_90 : decode by_M_line 90 = .ok (.putfield 69, 3) := by decide +kernel
theorem de_M_line_93 : decode by_M_line 93 = .ok (.aload_n 0, 1) := by decide +kernel
theorem de_M_line_94 : decode by_M_line 94 = .ok (.dup, 1) := by decide +kernel
theorem de_M_line_95 : decode by_M_line 95 = .ok (.getfield 79, 3) := by decide +kernel
theorem de_M_line_98 : decode by_M_line 98 = .ok (.iconst 1, 1) := by decide +kernel
theorem de_M_line_99 : decode by_M_line 99 = .ok (.iadd, 1) := by decide +kernel
theorem de_M_line_100 : decode by_M_line 100 = .ok (.putfield 79, 3) := by decide +kernel
theorem de_M_line_103 : decode by_M_line 103 = .ok (.aload_n 0, 1) := by decide +kernel
theorem de_M_line_104 : decode by_M_line 104 = .ok (.getfield 79, 3) := by decide +kernel
theorem de_M_line_107 : decode by_M_line 107 = .ok (.iconst 1, 1) := by decide +kernel
theorem de_M_line_108 : decode by_M_line 108 = .ok (.isub, 1) := by decide +kernel
theorem de_M_line_109 : decode by_M_line 109 = .ok (.ireturn, 1) := by decide +kernel
theorem de_M_tell_0 : decode by_M_tell 0 = .ok (.aload_n 0, 1) := by decide +kernel
theorem de_M_tell_1 : decode by_M_tell 1 = .ok (.iload_n 2, 1) := by decide +kernel
theorem de_M_tell_2 : decode by_M_tell 2 = .ok (.ifCond .eq 18, 3) := by decide +kernel
theorem de_M_tell_5 : decode by_M_tell 5 = .ok (.lload_n 3, 1) := by decide +kernel
theorem de_M_tell_6 : decode by_M_tell 6 = .ok (.lconst 0, 1) := by decide +kernel
theorem de_M_tell_7 : decode by_M_tell 7 = .ok (.ldc2_w 166, 3) := by decide +kernel
theorem de_M_tell_10 : decode by_M_tell 10 = .ok (.invokestatic 162, 3) := by decide +kernel
theorem de_M_tell_13 : decode by_M_tell 13 = .ok (.ifCond .eq 7, 3) := by decide +kernel
theorem de_M_tell_16 : decode by_M_tell 16 = .ok (.iconst 0, 1) := by decide +kernel
theorem de_M_tell_17 : decode by_M_tell 17 = .ok (.goto 4, 3) := by decide +kernel
theorem de_M_tell_20 : decode by_M_tell 20 = .ok (.iconst 1, 1) := by decide +kernel
theorem de_M_tell_21 : decode by_M_tell 21 = .ok (.putfield 61, 3) := by decide +kernel
theorem de_M_tell_24 : decode by_M_tell 24 = .ok (.aload_n 0, 1) := by decide +kernel
theorem de_M_tell_25 : decode by_M_tell 25 = .ok (.getfield 61, 3) := by decide +kernel
theorem de_M_tell_28 : decode by_M_tell 28 = .ok (.ifCond .gt 20, 3) := by decide +kernel
theorem de_M_tell_31 : decode by_M_tell 31 = .ok (.aload_n 0, 1) := by decide +kernel
theorem de_M_tell_32 : decode by_M_tell 32 = .ok (.getfield 16, 3) := by decide +kernel
theorem de_M_tell_35 : decode by_M_tell 35 = .ok (.iload_n 2, 1) := by decide +kernel
theorem de_M_tell_36 : decode by_M_tell 36 = .ok (.ifCond .eq 7, 3) := by decide +kernel
theorem de_M_tell_39 : decode by_M_tell 39 = .ok (.iload_n 1, 1) := by decide +kernel
theorem de_M_tell_40 : decode by_M_tell 40 = .ok (.goto 4, 3) := by decide +kernel
theorem de_M_tell_43 : decode by_M_tell 43 = .ok (.iconst 0, 1) := by decide +kernel
theorem de_M_tell_44 : decode by_M_tell 44 = .ok (.baload, 1) := by decide +kernel
theorem de_M_tell_45 : decode by_M_tell 45 = .ok (.ifCond .eq 5, 3) := by decide +kernel
theorem de_M_tell_48 : decode by_M_tell 48 = .ok (.iconst 0, 1) := by decide +kernel
theorem de_M_tell_49 : decode by_M_tell 49 = .ok (.ireturn, 1) := by decide +kernel
theorem de_M_tell_50 : decode by_M_tell 50 = .ok (.aload_n 0, 1) := by decide +kernel
theorem de_M_tell_51 : decode by_M_tell 51 = .ok (.getfield 16, 3) := by decide +kernel
theorem de_M_tell_54 : decode by_M_tell 54 = .ok (.iload_n 1, 1) := by decide +kernel
theorem de_M_tell_55 : decode by_M_tell 55 = .ok (.iconst 1, 1) := by decide +kernel
theorem de_M_tell_56 : decode by_M_tell 56 = .ok (.bastore, 1) := by decide +kernel
theorem de_M_tell_57 : decode by_M_tell 57 = .ok (.aload_n 0, 1) := by decide +kernel
theorem de_M_tell_58 : decode by_M_tell 58 = .ok (.getfield 20, 3) := by decide +kernel
theorem de_M_tell_61 : decode by_M_tell 61 = .ok (.iload_n 1, 1) := by decide +kernel
theorem de_M_tell_62 : decode by_M_tell 62 = .ok (.lload_n 3, 1) := by decide +kernel
theorem de_M_tell_63 : decode by_M_tell 63 = .ok (.lastore, 1) := by decide +kernel
theorem de_M_tell_64 : decode by_M_tell 64 = .ok (.aload_n 0, 1) := by decide +kernel
theorem de_M_tell_65 : decode by_M_tell 65 = .ok (.getfield 23, 3) := by decide +kernel
theorem de_M_tell_68 : decode by_M_tell 68 = .ok (.iload_n 1, 1) := by decide +kernel
theorem de_M_tell_69 : decode by_M_tell 69 = .ok (.iload 5, 2) := by decide +kernel
theorem de_M_tell_71 : decode by_M_tell 71 = .ok (.bastore, 1) := by decide +kernel
theorem de_M_tell_72 : decode by_M_tell 72 = .ok (.iconst 1, 1) := by decide +kernel
theorem de_M_tell_73 : decode by_M_tell 73 = .ok (.ireturn, 1) := by decide +kernel
theorem de_M_add_0 : decode by_M_add 0 = .ok (.aload_n 0, 1) := by decide +kernel
theorem de_M_add_1 : decode by_M_add 1 = .ok (.iload_n 1, 1) := by decide +kernel
theorem de_M_add_2 : decode by_M_add 2 = .ok (.iload_n 1, 1) := by decide +kernel
theorem de_M_add_3 : decode by_M_add 3 = .ok (.i2l, 1) := by decide +kernel
theorem de_M_add_4 : decode by_M_add 4 = .ok (.lconst 0, 1) := by decide +kernel
theorem de_M_add_5 : decode by_M_add 5 = .ok (.ldc2_w 168, 3) := by decide +kernel
theorem de_M_add_8 : decode by_M_add 8 = .ok (.invokestatic 162, 3) := by decide +kernel
theorem de_M_add_11 : decode by_M_add 11 = .ok (.lload_n 2, 1) := by decide +kernel
theorem de_M_add_12 : decode by_M_add 12 = .ok (.iload 4, 2) := by decide +kernel
theorem de_M_add_14 : decode by_M_add 14 = .ok (.invokevirtual 170, 3) := by decide +kernel
theorem de_M_add_17 : decode by_M_add 17 = .ok (.ireturn, 1) := by decide +kernel
theorem de_M_less_0 : decode by_M_less 0 = .ok (.aload_n 0, 1) := by decide +kernel
theorem de_M_less_1 : decode by_M_less 1 = .ok (.iload_n 1, 1) := by decide +kernel
theorem de_M_less_2 : decode by_M_less 2 = .ok (.i2l, 1) := by decide +kernel
theorem de_M_less_3 : decode by_M_less 3 = .ok (.lconst 0, 1) := by decide +kernel
theorem de_M_less_4 : decode by_M_less 4 = .ok (.ldc2_w 174, 3) := by decide +kernel
theorem de_M_less_7 : decode by_M_less 7 = .ok (.invokestatic 162, 3) := by decide +kernel
theorem de_M_less_10 : decode by_M_less 10 = .ok (.ifCond .eq 9, 3) := by decide +kernel
theorem de_M_less_13 : decode by_M_less 13 = .ok (.iconst 5, 1) := by decide +kernel
theorem de_M_less_14 : decode by_M_less 14 = .ok (.iload_n 1, 1) := by decide +kernel
theorem de_M_less_15 : decode by_M_less 15 = .ok (.iadd, 1) := by decide +kernel
theorem de_M_less_16 : decode by_M_less 16 = .ok (.goto 4, 3) := by decide +kernel
theorem de_M_less_19 : decode by_M_less 19 = .ok (.iconst 0, 1) := by decide +kernel
theorem de_M_less_20 : decode by_M_less 20 = .ok (.iload_n 1, 1) := by decide +kernel
theorem de_M_less_21 : decode by_M_less 21 = .ok (.i2l, 1) := by decide +kernel
theorem de_M_less_22 : decode by_M_less 22 = .ok (.lconst 0, 1) := by decide +kernel
theorem de_M_less_23 : decode by_M_less 23 = .ok (.ldc2_w 174, 3) := by decide +kernel
theorem de_M_less_26 : decode by_M_less 26 = .ok (.invokestatic 162, 3) := by decide +kernel
theorem de_M_less_29 : decode by_M_less 29 = .ok (.lload_n 2, 1) := by decide +kernel
theorem de_M_less_30 : decode by_M_less 30 = .ok (.iload 4, 2) := by decide +kernel
theorem de_M_less_32 : decode by_M_less 32 = .ok (.invokevirtual 170, 3) := by decide +kernel
theorem de_M_less_35 : decode by_M_less 35 = .ok (.ireturn, 1) := by decide +kernel
theorem de_M_discount2_0 : decode by_M_discount2 0 = .ok (.aload_n 0, 1) := by decide +kernel
theorem de_M_discount2_1 : decode by_M_discount2 1 = .ok (.iload_n 1, 1) := by decide +kernel
theorem de_M_discount2_2 : decode by_M_discount2 2 = .ok (.i2l, 1) := by decide +kernel
theorem de_M_discount2_3 : decode by_M_discount2 3 = .ok (.lconst 0, 1) := by decide +kernel
theorem de_M_discount2_4 : decode by_M_discount2 4 = .ok (.ldc2_w 176, 3) := by decide +kernel
theorem de_M_discount2_7 : decode by_M_discount2 7 = .ok (.invokestatic 162, 3) := by decide +kernel
theorem de_M_discount2_10 : decode by_M_discount2 10 = .ok (.ifCond .eq 15, 3) := by decide +kernel
theorem de_M_discount2_13 : decode by_M_discount2 13 = .ok (.iload_n 2, 1) := by decide +kernel
theorem de_M_discount2_14 : decode by_M_discount2 14 = .ok (.i2l, 1) := by decide +kernel
theorem de_M_discount2_15 : decode by_M_discount2 15 = .ok (.lconst 0, 1) := by decide +kernel
theorem de_M_discount2_16 : decode by_M_discount2 16 = .ok (.ldc2_w 100, 3) := by decide +kernel
theorem de_M_discount2_19 : decode by_M_discount2 19 = .ok (.invokestatic 162, 3) := by decide +kernel
theorem de_M_discount2_22 : decode by_M_discount2 22 = .ok (.ifCond .ne 7, 3) := by decide +kernel
theorem de_M_discount2_25 : decode by_M_discount2 25 = .ok (.iconst 1, 1) := by decide +kernel
theorem de_M_discount2_26 : decode by_M_discount2 26 = .ok (.goto 17, 3) := by decide +kernel
theorem de_M_discount2_29 : decode by_M_discount2 29 = .ok (.aload_n 0, 1) := by decide +kernel
theorem de_M_discount2_30 : decode by_M_discount2 30 = .ok (.getfield 90, 3) := by decide +kernel
theorem de_M_discount2_33 : decode by_M_discount2 33 = .ok (.bipush 10, 2) := by decide +kernel
theorem de_M_discount2_35 : decode by_M_discount2 35 = .ok (.if_icmp .ne 7, 3) := by decide +kernel
theorem de_M_discount2_38 : decode by_M_discount2 38 = .ok (.iconst 2, 1) := by decide +kernel
theorem de_M_discount2_39 : decode by_M_discount2 39 = .ok (.goto 4, 3) := by decide +kernel
theorem de_M_discount2_42 : decode by_M_discount2 42 = .ok (.iconst 0, 1) := by decide +kernel
theorem de_M_discount2_43 : decode by_M_discount2 43 = .ok (.putfield 61, 3) := by decide +kernel
theorem de_M_discount2_46 : decode by_M_discount2 46 = .ok (.aload_n 0, 1) := by decide +kernel
theorem de_M_discount2_47 : decode by_M_discount2 47 = .ok (.getfield 61, 3) := by decide +kernel
theorem de_M_discount2_50 : decode by_M_discount2 50 = .ok (.ifCond .gt 36, 3) := by decide +kernel
theorem de_M_discount2_53 : decode by_M_discount2 53 = .ok (.aload_n 0, 1) := by decide +kernel
theorem de_M_discount2_54 : decode by_M_discount2 54 = .ok (.getfield 90, 3) := by decide +kernel
theorem de_M_discount2_57 : decode by_M_discount2 57 = .ok (.ifCond .le 31, 3) := by decide +kernel
theorem de_M_discount2_60 : decode by_M_discount2 60 = .ok (.iload_n 1, 1) := by decide +kernel
theorem de_M_discount2_61 : decode by_M_discount2 61 = .ok (.aload_n 0, 1) := by decide +kernel
theorem de_M_discount2_62 : decode by_M_discount2 62 = .ok (.getfield 26, 3) := by decide +kernel
theorem de_M_discount2_65 : decode by_M_discount2 65 = .ok (.aload_n 0, 1) := by decide +kernel
theorem de_M_discount2_66 : decode by_M_discount2 66 = .ok (.getfield 90, 3) := by decide +kernel
theorem de_M_discount2_69 : decode by_M_discount2 69 = .ok (.ifCond .le 12, 3) := by decide +kernel
theorem de_M_discount2_72 : decode by_M_discount2 72 = .ok (.aload_n 0, 1) := by decide +kernel
theorem de_M_discount2_73 : decode by_M_discount2 73 = .ok (.getfield 90, 3) := by decide +kernel
theorem de_M_discount2_76 : decode by_M_discount2 76 = .ok (.iconst 1, 1) := by decide +kernel
theorem de_M_discount2_77 : decode by_M_discount2 77 = .ok (.isub, 1) := by decide +kernel
theorem de_M_discount2_78 : decode by_M_discount2 78 = .ok (.goto 4, 3) := by decide +kernel
theorem de_M_discount2_81 : decode by_M_discount2 81 = .ok (.iconst 0, 1) := by decide +kernel
theorem de_M_discount2_82 : decode by_M_discount2 82 = .ok (.iaload, 1) := by decide +kernel
theorem de_M_discount2_83 : decode by_M_discount2 83 = .ok (.if_icmp .gt 5, 3) := by decide +kernel
theorem de_M_discount2_86 : decode by_M_discount2 86 = .ok (.iconst 0, 1) := by decide +kernel
theorem de_M_discount2_87 : decode by_M_discount2 87 = .ok (.ireturn, 1) := by decide +kernel
theorem de_M_discount2_88 : decode by_M_discount2 88 = .ok (.aload_n 0, 1) := by decide +kernel
theorem de_M_discount2_89 : decode by_M_discount2 89 = .ok (.getfield 26, 3) := by decide +kernel
theorem de_M_discount2_92 : decode by_M_discount2 92 = .ok (.aload_n 0, 1) := by decide +kernel
theorem de_M_discount2_93 : decode by_M_discount2 93 = .ok (.getfield 90, 3) := by decide +kernel
theorem de_M_discount2_96 : decode by_M_discount2 96 = .ok (.iload_n 1, 1) := by decide +kernel
theorem de_M_discount2_97 : decode by_M_discount2 97 = .ok (.iastore, 1) := by decide +kernel
theorem de_M_discount2_98 : decode by_M_discount2 98 = .ok (.aload_n 0, 1) := by decide +kernel
theorem de_M_discount2_99 : decode by_M_discount2 99 = .ok (.getfield 30, 3) := by decide +kernel
theorem de_M_discount2_102 : decode by_M_discount2 102 = .ok (.aload_n 0, 1) := by decide +kernel
theorem de_M_discount2_103 : decode by_M_discount2 103 = .ok (.getfield 90, 3) := by decide +kernel
theorem de_M_discount2_106 : decode by_M_discount2 106 = .ok (.iload_n 2, 1) := by decide +kernel
theorem de_M_discount2_107 : decode by_M_discount2 107 = .ok (.iastore, 1) := by decide +kernel
theorem de_M_discount2_108 : decode by_M_discount2 108 = .ok (.aload_n 0, 1) := by decide +kernel
theorem de_M_discount2_109 : decode by_M_discount2 109 = .ok (.dup, 1) := by decide +kernel
theorem de_M_discount2_110 : decode by_M_discount2 110 = .ok (.getfield 90, 3) := by decide +kernel
theorem de_M_discount2_113 : decode by_M_discount2 113 = .ok (.iconst 1, 1) := by decide +kernel
theorem de_M_discount2_114 : decode by_M_discount2 114 = .ok (.iadd, 1) := by decide +kernel
theorem de_M_discount2_115 : decode by_M_discount2 115 = .ok (.putfield 90, 3) := by decide +kernel
theorem de_M_discount2_118 : decode by_M_discount2 118 = .ok (.iconst 1, 1) := by decide +kernel
theorem de_M_discount2_119 : decode by_M_discount2 119 = .ok (.ireturn, 1) := by decide +kernel
theorem de_M_days_0 : decode by_M_days 0 = .ok (.aload_n 0, 1) := by decide +kernel
theorem de_M_days_1 : decode by_M_days 1 = .ok (.iconst 0, 1) := by decide +kernel
theorem de_M_days_2 : decode by_M_days 2 = .ok (.putfield 61, 3) := by decide +kernel
theorem de_M_days_5 : decode by_M_days 5 = .ok (.iload_n 1, 1) := by decide +kernel
theorem de_M_days_6 : decode by_M_days 6 = .ok (.i2l, 1) := by decide +kernel
theorem de_M_days_7 : decode by_M_days 7 = .ok (.lconst 0, 1) := by decide +kernel
theorem de_M_days_8 : decode by_M_days 8 = .ok (.ldc2_w 176, 3) := by decide +kernel
theorem de_M_days_11 : decode by_M_days 11 = .ok (.invokestatic 162, 3) := by decide +kernel
theorem de_M_days_14 : decode by_M_days 14 = .ok (.ifCond .eq 15, 3) := by decide +kernel
theorem de_M_days_17 : decode by_M_days 17 = .ok (.iload_n 2, 1) := by decide +kernel
theorem de_M_days_18 : decode by_M_days 18 = .ok (.i2l, 1) := by decide +kernel
theorem de_M_days_19 : decode by_M_days 19 = .ok (.lconst 0, 1) := by decide +kernel
theorem de_M_days_20 : decode by_M_days 20 = .ok (.ldc2_w 176, 3) := by decide +kernel
theorem de_M_days_23 : decode by_M_days 23 = .ok (.invokestatic 162, 3) := by decide +kernel
theorem de_M_days_26 : decode by_M_days 26 = .ok (.ifCond .ne 5, 3) := by decide +kernel
theorem de_M_days_29 : decode by_M_days 29 = .ok (.iconst 0, 1) := by decide +kernel
theorem de_M_days_30 : decode by_M_days 30 = .ok (.ireturn, 1) := by decide +kernel
theorem de_M_days_31 : decode by_M_days 31 = .ok (.aload_n 0, 1) := by decide +kernel
theorem de_M_days_32 : decode by_M_days 32 = .ok (.iload_n 1, 1) := by decide +kernel
theorem de_M_days_33 : decode by_M_days 33 = .ok (.putfield 93, 3) := by decide +kernel
theorem de_M_days_36 : decode by_M_days 36 = .ok (.aload_n 0, 1) := by decide +kernel
theorem de_M_days_37 : decode by_M_days 37 = .ok (.iload_n 2, 1) := by decide +kernel
theorem de_M_days_38 : decode by_M_days 38 = .ok (.putfield 33, 3) := by decide +kernel
theorem de_M_days_41 : decode by_M_days 41 = .ok (.iconst 1, 1) := by decide +kernel
theorem de_M_days_42 : decode by_M_days 42 = .ok (.ireturn, 1) := by decide +kernel
theorem de_M_rate_0 : decode by_M_rate 0 = .ok (.aload_n 0, 1) := by decide +kernel
theorem de_M_rate_1 : decode by_M_rate 1 = .ok (.iconst 0, 1) := by decide +kernel
theorem de_M_rate_2 : decode by_M_rate 2 = .ok (.putfield 61, 3) := by decide +kernel
theorem de_M_rate_5 : decode by_M_rate 5 = .ok (.iload_n 1, 1) := by decide +kernel
theorem de_M_rate_6 : decode by_M_rate 6 = .ok (.i2l, 1) := by decide +kernel
theorem de_M_rate_7 : decode by_M_rate 7 = .ok (.lconst 0, 1) := by decide +kernel
theorem de_M_rate_8 : decode by_M_rate 8 = .ok (.ldc2_w 178, 3) := by decide +kernel
theorem de_M_rate_11 : decode by_M_rate 11 = .ok (.invokestatic 162, 3) := by decide +kernel
theorem de_M_rate_14 : decode by_M_rate 14 = .ok (.ifCond .eq 36, 3) := by decide +kernel
theorem de_M_rate_17 : decode by_M_rate 17 = .ok (.iload_n 2, 1) := by decide +kernel
theorem de_M_rate_18 : decode by_M_rate 18 = .ok (.i2l, 1) := by decide +kernel
theorem de_M_rate_19 : decode by_M_rate 19 = .ok (.lconst 1, 1) := by decide +kernel
theorem de_M_rate_20 : decode by_M_rate 20 = .ok (.ldc2_w 180, 3) := by decide +kernel
theorem de_M_rate_23 : decode by_M_rate 23 = .ok (.invokestatic 162, 3) := by decide +kernel
theorem de_M_rate_26 : decode by_M_rate 26 = .ok (.ifCond .eq 24, 3) := by decide +kernel
theorem de_M_rate_29 : decode by_M_rate 29 = .ok (.iload_n 3, 1) := by decide +kernel
theorem de_M_rate_30 : decode by_M_rate 30 = .ok (.i2l, 1) := by decide +kernel
theorem de_M_rate_31 : decode by_M_rate 31 = .ok (.lconst 1, 1) := by decide +kernel
theorem de_M_rate_32 : decode by_M_rate 32 = .ok (.ldc2_w 180, 3) := by decide +kernel
theorem de_M_rate_35 : decode by_M_rate 35 = .ok (.invokestatic 162, 3) := by decide +kernel
theorem de_M_rate_38 : decode by_M_rate 38 = .ok (.ifCond .eq 12, 3) := by decide +kernel
theorem de_M_rate_41 : decode by_M_rate 41 = .ok (.aload_n 0, 1) := by decide +kernel
theorem de_M_rate_42 : decode by_M_rate 42 = .ok (.getfield 37, 3) := by decide +kernel
theorem de_M_rate_45 : decode by_M_rate 45 = .ok (.iload_n 1, 1) := by decide +kernel
theorem de_M_rate_46 : decode by_M_rate 46 = .ok (.iaload, 1) := by decide +kernel
theorem de_M_rate_47 : decode by_M_rate 47 = .ok (.ifCond .le 5, 3) := by decide +kernel
theorem de_M_rate_50 : decode by_M_rate 50 = .ok (.iconst 0, 1) := by decide +kernel
theorem de_M_rate_51 : decode by_M_rate 51 = .ok (.ireturn, 1) := by decide +kernel
theorem de_M_rate_52 : decode by_M_rate 52 = .ok (.aload_n 0, 1) := by decide +kernel
theorem de_M_rate_53 : decode by_M_rate 53 = .ok (.getfield 37, 3) := by decide +kernel
theorem de_M_rate_56 : decode by_M_rate 56 = .ok (.iload_n 1, 1) := by decide +kernel
theorem de_M_rate_57 : decode by_M_rate 57 = .ok (.iload_n 2, 1) := by decide +kernel
theorem de_M_rate_58 : decode by_M_rate 58 = .ok (.iastore, 1) := by decide +kernel
theorem de_M_rate_59 : decode by_M_rate 59 = .ok (.aload_n 0, 1) := by decide +kernel
theorem de_M_rate_60 : decode by_M_rate 60 = .ok (.getfield 40, 3) := by decide +kernel
theorem de_M_rate_63 : decode by_M_rate 63 = .ok (.iload_n 1, 1) := by decide +kernel
theorem de_M_rate_64 : decode by_M_rate 64 = .ok (.iload_n 3, 1) := by decide +kernel
theorem de_M_rate_65 : decode by_M_rate 65 = .ok (.iastore, 1) := by decide +kernel
theorem de_M_rate_66 : decode by_M_rate 66 = .ok (.iconst 1, 1) := by decide +kernel
theorem de_M_rate_67 : decode by_M_rate 67 = .ok (.ireturn, 1) := by decide +kernel
theorem de_M_condition_0 : decode by_M_condition 0 = .ok (.aload_n 0, 1) := by decide +kernel
theorem de_M_condition_1 : decode by_M_condition 1 = .ok (.iconst 0, 1) := by decide +kernel
theorem de_M_condition_2 : decode by_M_condition 2 = .ok (.putfield 61, 3) := by decide +kernel
theorem de_M_condition_5 : decode by_M_condition 5 = .ok (.iload_n 1, 1) := by decide +kernel
theorem de_M_condition_6 : decode by_M_condition 6 = .ok (.i2l, 1) := by decide +kernel
theorem de_M_condition_7 : decode by_M_condition 7 = .ok (.lconst 1, 1) := by decide +kernel
theorem de_M_condition_8 : decode by_M_condition 8 = .ok (.ldc2_w 182, 3) := by decide +kernel
theorem de_M_condition_11 : decode by_M_condition 11 = .ok (.invokestatic 162, 3) := by decide +kernel
theorem de_M_condition_14 : decode by_M_condition 14 = .ok (.ifCond .ne 5, 3) := by decide +kernel
theorem de_M_condition_17 : decode by_M_condition 17 = .ok (.iconst 0, 1) := by decide +kernel
theorem de_M_condition_18 : decode by_M_condition 18 = .ok (.ireturn, 1) := by decide +kernel
theorem de_M_condition_19 : decode by_M_condition 19 = .ok (.aload_n 0, 1) := by decide +kernel
theorem de_M_condition_20 : decode by_M_condition 20 = .ok (.getfield 43, 3) := by decide +kernel
theorem de_M_condition_23 : decode by_M_condition 23 = .ok (.iload_n 1, 1) := by decide +kernel
theorem de_M_condition_24 : decode by_M_condition 24 = .ok (.iload_n 2, 1) := by decide +kernel
theorem de_M_condition_25 : decode by_M_condition 25 = .ok (.bastore, 1) := by decide +kernel
theorem de_M_condition_26 : decode by_M_condition 26 = .ok (.iconst 1, 1) := by decide +kernel
theorem de_M_condition_27 : decode by_M_condition 27 = .ok (.ireturn, 1) := by decide +kernel
theorem de_M_figures_0 : decode by_M_figures 0 = .ok (.aload_n 0, 1) := by decide +kernel
theorem de_M_figures_1 : decode by_M_figures 1 = .ok (.iconst 0, 1) := by decide +kernel
theorem de_M_figures_2 : decode by_M_figures 2 = .ok (.putfield 61, 3) := by decide +kernel
theorem de_M_figures_5 : decode by_M_figures 5 = .ok (.iload_n 1, 1) := by decide +kernel
theorem de_M_figures_6 : decode by_M_figures 6 = .ok (.iconst 2, 1) := by decide +kernel
theorem de_M_figures_7 : decode by_M_figures 7 = .ok (.if_icmp .eq 8, 3) := by decide +kernel
theorem de_M_figures_10 : decode by_M_figures 10 = .ok (.iload_n 1, 1) := by decide +kernel
theorem de_M_figures_11 : decode by_M_figures 11 = .ok (.iconst 3, 1) := by decide +kernel
theorem de_M_figures_12 : decode by_M_figures 12 = .ok (.if_icmp .ne 7, 3) := by decide +kernel
theorem de_M_figures_15 : decode by_M_figures 15 = .ok (.iconst 1, 1) := by decide +kernel
theorem de_M_figures_16 : decode by_M_figures 16 = .ok (.goto 4, 3) := by decide +kernel
theorem de_M_figures_19 : decode by_M_figures 19 = .ok (.iconst 0, 1) := by decide +kernel
theorem de_M_figures_20 : decode by_M_figures 20 = .ok (.istore 6, 2) := by decide +kernel
theorem de_M_figures_22 : decode by_M_figures 22 = .ok (.iload_n 1, 1) := by decide +kernel
theorem de_M_figures_23 : decode by_M_figures 23 = .ok (.i2l, 1) := by decide +kernel
theorem de_M_figures_24 : decode by_M_figures 24 = .ok (.ldc2_w 64, 3) := by decide +kernel
theorem de_M_figures_27 : decode by_M_figures 27 = .ok (.ldc2_w 182, 3) := by decide +kernel
theorem de_M_figures_30 : decode by_M_figures 30 = .ok (.invokestatic 162, 3) := by decide +kernel
theorem de_M_figures_33 : decode by_M_figures 33 = .ok (.ifCond .eq 57, 3) := by decide +kernel
theorem de_M_figures_36 : decode by_M_figures 36 = .ok (.lload_n 2, 1) := by decide +kernel
theorem de_M_figures_37 : decode by_M_figures 37 = .ok (.lconst 0, 1) := by decide +kernel
theorem de_M_figures_38 : decode by_M_figures 38 = .ok (.iload 6, 2) := by decide +kernel
theorem de_M_figures_40 : decode by_M_figures 40 = .ok (.ifCond .eq 9, 3) := by decide +kernel
theorem de_M_figures_43 : decode by_M_figures 43 = .ok (.ldc2_w 184, 3) := by decide +kernel
theorem de_M_figures_46 : decode by_M_figures 46 = .ok (.goto 6, 3) := by decide +kernel
theorem de_M_figures_49 : decode by_M_figures 49 = .ok (.ldc2_w 166, 3) := by decide +kernel
theorem de_M_figures_52 : decode by_M_figures 52 = .ok (.invokestatic 162, 3) := by decide +kernel
theorem de_M_figures_55 : decode by_M_figures 55 = .ok (.ifCond .eq 35, 3) := by decide +kernel
theorem de_M_figures_58 : decode by_M_figures 58 = .ok (.lload 4, 2) := by decide +kernel
theorem de_M_figures_60 : decode by_M_figures 60 = .ok (.iload 6, 2) := by decide +kernel
theorem de_M_figures_62 : decode by_M_figures 62 = .ok (.ifCond .eq 7, 3) := by decide +kernel
theorem de_M_figures_65 : decode by_M_figures 65 = .ok (.lconst 1, 1) := by decide +kernel
theorem de_M_figures_66 : decode by_M_figures 66 = .ok (.goto 4, 3) := by decide +kernel
theorem de_M_figures_69 : decode by_M_figures 69 = .ok (.lconst 0, 1) := by decide +kernel
theorem de_M_figures_70 : decode by_M_figures 70 = .ok (.iload 6, 2) := by decide +kernel
theorem de_M_figures_72 : decode by_M_figures 72 = .ok (.ifCond .eq 9, 3) := by decide +kernel
theorem de_M_figures_75 : decode by_M_figures 75 = .ok (.ldc2_w 166, 3) := by decide +kernel
theorem de_M_figures_78 : decode by_M_figures 78 = .ok (.goto 6, 3) := by decide +kernel
theorem de_M_figures_81 : decode by_M_figures 81 = .ok (.ldc2_w 100, 3) := by decide +kernel
theorem de_M_figures_84 : decode by_M_figures 84 = .ok (.invokestatic 162, 3) := by decide +kernel
theorem de_M_figures_87 : decode by_M_figures 87 = .ok (.ifCond .ne 5, 3) := by decide +kernel
theorem de_M_figures_90 : decode by_M_figures 90 = .ok (.iconst 0, 1) := by decide +kernel
theorem de_M_figures_91 : decode by_M_figures 91 = .ok (.ireturn, 1) := by decide +kernel
theorem de_M_figures_92 : decode by_M_figures 92 = .ok (.aload_n 0, 1) := by decide +kernel
theorem de_M_figures_93 : decode by_M_figures 93 = .ok (.getfield 46, 3) := by decide +kernel
theorem de_M_figures_96 : decode by_M_figures 96 = .ok (.iload_n 1, 1) := by decide +kernel
theorem de_M_figures_97 : decode by_M_figures 97 = .ok (.iconst 1, 1) := by decide +kernel
theorem de_M_figures_98 : decode by_M_figures 98 = .ok (.bastore, 1) := by decide +kernel
theorem de_M_figures_99 : decode by_M_figures 99 = .ok (.aload_n 0, 1) := by decide +kernel
theorem de_M_figures_100 : decode by_M_figures 100 = .ok (.getfield 49, 3) := by decide +kernel
theorem de_M_figures_103 : decode by_M_figures 103 = .ok (.iload_n 1, 1) := by decide +kernel
theorem de_M_figures_104 : decode by_M_figures 104 = .ok (.lload_n 2, 1) := by decide +kernel
theorem de_M_figures_105 : decode by_M_figures 105 = .ok (.lastore, 1) := by decide +kernel
theorem de_M_figures_106 : decode by_M_figures 106 = .ok (.aload_n 0, 1) := by decide +kernel
theorem de_M_figures_107 : decode by_M_figures 107 = .ok (.getfield 52, 3) := by decide +kernel
theorem de_M_figures_110 : decode by_M_figures 110 = .ok (.iload_n 1, 1) := by decide +kernel
theorem de_M_figures_111 : decode by_M_figures 111 = .ok (.lload 4, 2) := by decide +kernel
theorem de_M_figures_113 : decode by_M_figures 113 = .ok (.lastore, 1) := by decide +kernel
theorem de_M_figures_114 : decode by_M_figures 114 = .ok (.iconst 1, 1) := by decide +kernel
theorem de_M_figures_115 : decode by_M_figures 115 = .ok (.ireturn, 1) := by decide +kernel
theorem de_M_related_0 : decode by_M_related 0 = .ok (.aload_n 0, 1) := by decide +kernel
theorem de_M_related_1 : decode by_M_related 1 = .ok (.iconst 0, 1) := by decide +kernel
theorem de_M_related_2 : decode by_M_related 2 = .ok (.putfield 61, 3) := by decide +kernel
theorem de_M_related_5 : decode by_M_related 5 = .ok (.lload_n 2, 1) := by decide +kernel
theorem de_M_related_6 : decode by_M_related 6 = .ok (.ldc2_w 55, 3) := by decide +kernel
theorem de_M_related_9 : decode by_M_related 9 = .ok (.ldc2_w 166, 3) := by decide +kernel
theorem de_M_related_12 : decode by_M_related 12 = .ok (.invokestatic 162, 3) := by decide +kernel
theorem de_M_related_15 : decode by_M_related 15 = .ok (.ifCond .eq 16, 3) := by decide +kernel
theorem de_M_related_18 : decode by_M_related 18 = .ok (.iload 4, 2) := by decide +kernel
theorem de_M_related_20 : decode by_M_related 20 = .ok (.i2l, 1) := by decide +kernel
theorem de_M_related_21 : decode by_M_related 21 = .ok (.lconst 0, 1) := by decide +kernel
theorem de_M_related_22 : decode by_M_related 22 = .ok (.ldc2_w 100, 3) := by decide +kernel
theorem de_M_related_25 : decode by_M_related 25 = .ok (.invokestatic 162, 3) := by decide +kernel
theorem de_M_related_28 : decode by_M_related 28 = .ok (.ifCond .ne 5, 3) := by decide +kernel
theorem de_M_related_31 : decode by_M_related 31 = .ok (.iconst 0, 1) := by decide +kernel
theorem de_M_related_32 : decode by_M_related 32 = .ok (.ireturn, 1) := by decide +kernel
theorem de_M_related_33 : decode by_M_related 33 = .ok (.aload_n 0, 1) := by decide +kernel
theorem de_M_related_34 : decode by_M_related 34 = .ok (.iload_n 1, 1) := by decide +kernel
theorem de_M_related_35 : decode by_M_related 35 = .ok (.putfield 113, 3) := by decide +kernel
theorem de_M_related_38 : decode by_M_related 38 = .ok (.aload_n 0, 1) := by decide +kernel
theorem de_M_related_39 : decode by_M_related 39 = .ok (.lload_n 2, 1) := by decide +kernel
theorem de_M_related_40 : decode by_M_related 40 = .ok (.putfield 57, 3) := by decide +kernel
theorem de_M_related_43 : decode by_M_related 43 = .ok (.aload_n 0, 1) := by decide +kernel
theorem de_M_related_44 : decode by_M_related 44 = .ok (.iload 4, 2) := by decide +kernel
theorem de_M_related_46 : decode by_M_related 46 = .ok (.putfield 121, 3) := by decide +kernel
theorem de_M_related_49 : decode by_M_related 49 = .ok (.iconst 1, 1) := by decide +kernel
theorem de_M_related_50 : decode by_M_related 50 = .ok (.ireturn, 1) := by decide +kernel
theorem de_M_turned_0 : decode by_M_turned 0 = .ok (.aload_n 0, 1) := by decide +kernel
theorem de_M_turned_1 : decode by_M_turned 1 = .ok (.iconst 0, 1) := by decide +kernel
theorem de_M_turned_2 : decode by_M_turned 2 = .ok (.putfield 61, 3) := by decide +kernel
theorem de_M_turned_5 : decode by_M_turned 5 = .ok (.aload_n 0, 1) := by decide +kernel
theorem de_M_turned_6 : decode by_M_turned 6 = .ok (.iload_n 1, 1) := by decide +kernel
theorem de_M_turned_7 : decode by_M_turned 7 = .ok (.putfield 135, 3) := by decide +kernel
theorem de_M_turned_10 : decode by_M_turned 10 = .ok (.return_, 1) := by decide +kernel
theorem de_M_method_0 : decode by_M_method 0 = .ok (.aload_n 0, 1) := by decide +kernel
theorem de_M_method_1 : decode by_M_method 1 = .ok (.iconst 0, 1) := by decide +kernel
theorem de_M_method_2 : decode by_M_method 2 = .ok (.putfield 61, 3) := by decide +kernel
theorem de_M_method_5 : decode by_M_method 5 = .ok (.aload_n 0, 1) := by decide +kernel
theorem de_M_method_6 : decode by_M_method 6 = .ok (.invokevirtual 186, 3) := by decide +kernel
theorem de_M_method_9 : decode by_M_method 9 = .ok (.ireturn, 1) := by decide +kernel
theorem de_M_isLine_0 : decode by_M_isLine 0 = .ok (.iload_n 1, 1) := by decide +kernel
theorem de_M_isLine_1 : decode by_M_isLine 1 = .ok (.ifCond .lt 15, 3) := by decide +kernel
theorem de_M_isLine_4 : decode by_M_isLine 4 = .ok (.iload_n 1, 1) := by decide +kernel
theorem de_M_isLine_5 : decode by_M_isLine 5 = .ok (.aload_n 0, 1) := by decide +kernel
theorem de_M_isLine_6 : decode by_M_isLine 6 = .ok (.getfield 79, 3) := by decide +kernel
theorem de_M_isLine_9 : decode by_M_isLine 9 = .ok (.if_icmp .ge 7, 3) := by decide +kernel
theorem de_M_isLine_12 : decode by_M_isLine 12 = .ok (.iconst 1, 1) := by decide +kernel
theorem de_M_isLine_13 : decode by_M_isLine 13 = .ok (.goto 4, 3) := by decide +kernel
theorem de_M_isLine_16 : decode by_M_isLine 16 = .ok (.iconst 0, 1) := by decide +kernel
theorem de_M_isLine_17 : decode by_M_isLine 17 = .ok (.ireturn, 1) := by decide +kernel
theorem de_M_value_0 : decode by_M_value 0 = .ok (.aload_n 0, 1) := by decide +kernel
theorem de_M_value_1 : decode by_M_value 1 = .ok (.iload_n 1, 1) := by decide +kernel
theorem de_M_value_2 : decode by_M_value 2 = .ok (.invokevirtual 189, 3) := by decide +kernel
theorem de_M_value_5 : decode by_M_value 5 = .ok (.ifCond .eq 16, 3) := by decide +kernel
theorem de_M_value_8 : decode by_M_value 8 = .ok (.iload_n 2, 1) := by decide +kernel
theorem de_M_value_9 : decode by_M_value 9 = .ok (.ifCond .eq 8, 3) := by decide +kernel
theorem de_M_value_12 : decode by_M_value 12 = .ok (.iload_n 2, 1) := by decide +kernel
theorem de_M_value_13 : decode by_M_value 13 = .ok (.iconst 1, 1) := by decide +kernel
theorem de_M_value_14 : decode by_M_value 14 = .ok (.if_icmp .ne 7, 3) := by decide +kernel
theorem de_M_value_17 : decode by_M_value 17 = .ok (.iconst 1, 1) := by decide +kernel
theorem de_M_value_18 : decode by_M_value 18 = .ok (.goto 4, 3) := by decide +kernel
theorem de_M_value_21 : decode by_M_value 21 = .ok (.iconst 0, 1) := by decide +kernel
theorem de_M_value_22 : decode by_M_value 22 = .ok (.istore_n 3, 1) := by decide +kernel
theorem de_M_value_23 : decode by_M_value 23 = .ok (.iload_n 3, 1) := by decide +kernel
theorem de_M_value_24 : decode by_M_value 24 = .ok (.ifCond .eq 10, 3) := by decide +kernel
theorem de_M_value_27 : decode by_M_value 27 = .ok (.aload_n 0, 1) := by decide +kernel
theorem de_M_value_28 : decode by_M_value 28 = .ok (.invokevirtual 186, 3) := by decide +kernel
theorem de_M_value_31 : decode by_M_value 31 = .ok (.goto 4, 3) := by decide +kernel
theorem de_M_value_34 : decode by_M_value 34 = .ok (.iconst 0, 1) := by decide +kernel
theorem de_M_value_35 : decode by_M_value 35 = .ok (.istore 4, 2) := by decide +kernel
theorem de_M_value_37 : decode by_M_value 37 = .ok (.aload_n 0, 1) := by decide +kernel
theorem de_M_value_38 : decode by_M_value 38 = .ok (.iload_n 3, 1) := by decide +kernel
theorem de_M_value_39 : decode by_M_value 39 = .ok (.ifCond .ne 7, 3) := by decide +kernel
theorem de_M_value_42 : decode by_M_value 42 = .ok (.iconst 1, 1) := by decide +kernel
theorem de_M_value_43 : decode by_M_value 43 = .ok (.goto 13, 3) := by decide +kernel
theorem de_M_value_46 : decode by_M_value 46 = .ok (.iload 4, 2) := by decide +kernel
theorem de_M_value_48 : decode by_M_value 48 = .ok (.ifCond .ne 7, 3) := by decide +kernel
theorem de_M_value_51 : decode by_M_value 51 = .ok (.iconst 2, 1) := by decide +kernel
theorem de_M_value_52 : decode by_M_value 52 = .ok (.goto 4, 3) := by decide +kernel
theorem de_M_value_55 : decode by_M_value 55 = .ok (.iconst 0, 1) := by decide +kernel
theorem de_M_value_56 : decode by_M_value 56 = .ok (.putfield 61, 3) := by decide +kernel
theorem de_M_value_59 : decode by_M_value 59 = .ok (.aload_n 0, 1) := by decide +kernel
theorem de_M_value_60 : decode by_M_value 60 = .ok (.getfield 61, 3) := by decide +kernel
theorem de_M_value_63 : decode by_M_value 63 = .ok (.ifCond .le 7, 3) := by decide +kernel
theorem de_M_value_66 : decode by_M_value 66 = .ok (.lconst 0, 1) := by decide +kernel
theorem de_M_value_67 : decode by_M_value 67 = .ok (.goto 24, 3) := by decide +kernel
theorem de_M_value_70 : decode by_M_value 70 = .ok (.iload_n 2, 1) := by decide +kernel
theorem de_M_value_71 : decode by_M_value 71 = .ok (.ifCond .ne 13, 3) := by decide +kernel
theorem de_M_value_74 : decode by_M_value 74 = .ok (.aload_n 0, 1) := by decide +kernel
theorem de_M_value_75 : decode by_M_value 75 = .ok (.iload_n 1, 1) := by decide +kernel
theorem de_M_value_76 : decode by_M_value 76 = .ok (.iload 4, 2) := by decide +kernel
theorem de_M_value_78 : decode by_M_value 78 = .ok (.invokevirtual 192, 3) := by decide +kernel
theorem de_M_value_81 : decode by_M_value 81 = .ok (.goto 10, 3) := by decide +kernel
theorem de_M_value_84 : decode by_M_value 84 = .ok (.aload_n 0, 1) := by decide +kernel
theorem de_M_value_85 : decode by_M_value 85 = .ok (.iload_n 1, 1) := by decide +kernel
theorem de_M_value_86 : decode by_M_value 86 = .ok (.iload 4, 2) := by decide +kernel
theorem de_M_value_88 : decode by_M_value 88 = .ok (.invokevirtual 145, 3) := by decide +kernel
theorem de_M_value_91 : decode by_M_value 91 = .ok (.lreturn, 1) := by decide +kernel
theorem de_M_transaction_0 : decode by_M_transaction 0 = .ok (.aload_n 0, 1) := by decide +kernel
theorem de_M_transaction_1 : decode by_M_transaction 1 = .ok (.aload_n 0, 1) := by decide +kernel
theorem de_M_transaction_2 : decode by_M_transaction 2 = .ok (.iload_n 1, 1) := by decide +kernel
theorem de_M_transaction_3 : decode by_M_transaction 3 = .ok (.invokevirtual 189, 3) := by decide +kernel
theorem de_M_transaction_6 : decode by_M_transaction 6 = .ok (.ifCond .eq 7, 3) := by decide +kernel
theorem de_M_transaction_9 : decode by_M_transaction 9 = .ok (.iconst 0, 1) := by decide +kernel
theorem de_M_transaction_10 : decode by_M_transaction 10 = .ok (.goto 4, 3) := by decide +kernel
theorem de_M_transaction_13 : decode by_M_transaction 13 = .ok (.iconst 1, 1) := by decide +kernel
theorem de_M_transaction_14 : decode by_M_transaction 14 = .ok (.putfield 61, 3) := by decide +kernel
theorem de_M_transaction_17 : decode by_M_transaction 17 = .ok (.aload_n 0, 1) := by decide +kernel
theorem de_M_transaction_18 : decode by_M_transaction 18 = .ok (.getfield 61, 3) := by decide +kernel
theorem de_M_transaction_21 : decode by_M_transaction 21 = .ok (.ifCond .le 7, 3) := by decide +kernel
theorem de_M_transaction_24 : decode by_M_transaction 24 = .ok (.lconst 0, 1) := by decide +kernel
theorem de_M_transaction_25 : decode by_M_transaction 25 = .ok (.goto 8, 3) := by decide +kernel
theorem de_M_transaction_28 : decode by_M_transaction 28 = .ok (.aload_n 0, 1) := by decide +kernel
theorem de_M_transaction_29 : decode by_M_transaction 29 = .ok (.iload_n 1, 1) := by decide +kernel
theorem de_M_transaction_30 : decode by_M_transaction 30 = .ok (.invokevirtual 117, 3) := by decide +kernel
theorem de_M_transaction_33 : decode by_M_transaction 33 = .ok (.lreturn, 1) := by decide +kernel
theorem de_M_share_0 : decode by_M_share 0 = .ok (.aload_n 0, 1) := by decide +kernel
theorem de_M_share_1 : decode by_M_share 1 = .ok (.aload_n 0, 1) := by decide +kernel
theorem de_M_share_2 : decode by_M_share 2 = .ok (.iload_n 3, 1) := by decide +kernel
theorem de_M_share_3 : decode by_M_share 3 = .ok (.invokevirtual 189, 3) := by decide +kernel
theorem de_M_share_6 : decode by_M_share 6 = .ok (.ifCond .ne 7, 3) := by decide +kernel
theorem de_M_share_9 : decode by_M_share 9 = .ok (.iconst 1, 1) := by decide +kernel
theorem de_M_share_10 : decode by_M_share 10 = .ok (.goto 19, 3) := by decide +kernel
theorem de_M_share_13 : decode by_M_share 13 = .ok (.lload_n 1, 1) := by decide +kernel
theorem de_M_share_14 : decode by_M_share 14 = .ok (.lconst 0, 1) := by decide +kernel
theorem de_M_share_15 : decode by_M_share 15 = .ok (.ldc2_w 166, 3) := by decide +kernel
theorem de_M_share_18 : decode by_M_share 18 = .ok (.invokestatic 162, 3) := by decide +kernel
theorem de_M_share_21 : decode by_M_share 21 = .ok (.ifCond .ne 7, 3) := by decide +kernel
theorem de_M_share_24 : decode by_M_share 24 = .ok (.iconst 2, 1) := by decide +kernel
theorem de_M_share_25 : decode by_M_share 25 = .ok (.goto 4, 3) := by decide +kernel
theorem de_M_share_28 : decode by_M_share 28 = .ok (.iconst 0, 1) := by decide +kernel
theorem de_M_share_29 : decode by_M_share 29 = .ok (.putfield 61, 3) := by decide +kernel
theorem de_M_share_32 : decode by_M_share 32 = .ok (.aload_n 0, 1) := by decide +kernel
theorem de_M_share_33 : decode by_M_share 33 = .ok (.getfield 61, 3) := by decide +kernel
theorem de_M_share_36 : decode by_M_share 36 = .ok (.ifCond .le 7, 3) := by decide +kernel
theorem de_M_share_39 : decode by_M_share 39 = .ok (.lconst 0, 1) := by decide +kernel
theorem de_M_share_40 : decode by_M_share 40 = .ok (.goto 11, 3) := by decide +kernel
theorem de_M_share_43 : decode by_M_share 43 = .ok (.aload_n 0, 1) := by decide +kernel
theorem de_M_share_44 : decode by_M_share 44 = .ok (.lload_n 1, 1) := by decide +kernel
theorem de_M_share_45 : decode by_M_share 45 = .ok (.iload_n 3, 1) := by decide +kernel
theorem de_M_share_46 : decode by_M_share 46 = .ok (.iload 4, 2) := by decide +kernel
theorem de_M_share_48 : decode by_M_share 48 = .ok (.invokevirtual 109, 3) := by decide +kernel
theorem de_M_share_51 : decode by_M_share 51 = .ok (.lreturn, 1) := by decide +kernel
theorem de_M_plain_0 : decode by_M_plain 0 = .ok (.aload_n 0, 1) := by decide +kernel
theorem de_M_plain_1 : decode by_M_plain 1 = .ok (.aload_n 0, 1) := by decide +kernel
theorem de_M_plain_2 : decode by_M_plain 2 = .ok (.iload_n 3, 1) := by decide +kernel
theorem de_M_plain_3 : decode by_M_plain 3 = .ok (.invokevirtual 189, 3) := by decide +kernel
theorem de_M_plain_6 : decode by_M_plain 6 = .ok (.ifCond .ne 7, 3) := by decide +kernel
theorem de_M_plain_9 : decode by_M_plain 9 = .ok (.iconst 1, 1) := by decide +kernel
theorem de_M_plain_10 : decode by_M_plain 10 = .ok (.goto 32, 3) := by decide +kernel
theorem de_M_plain_13 : decode by_M_plain 13 = .ok (.lload_n 1, 1) := by decide +kernel
theorem de_M_plain_14 : decode by_M_plain 14 = .ok (.lconst 0, 1) := by decide +kernel
theorem de_M_plain_15 : decode by_M_plain 15 = .ok (.ldc2_w 166, 3) := by decide +kernel
theorem de_M_plain_18 : decode by_M_plain 18 = .ok (.invokestatic 162, 3) := by decide +kernel
theorem de_M_plain_21 : decode by_M_plain 21 = .ok (.ifCond .ne 7, 3) := by decide +kernel
theorem de_M_plain_24 : decode by_M_plain 24 = .ok (.iconst 2, 1) := by decide +kernel
theorem de_M_plain_25 : decode by_M_plain 25 = .ok (.goto 17, 3) := by decide +kernel
theorem de_M_plain_28 : decode by_M_plain 28 = .ok (.aload_n 0, 1) := by decide +kernel
theorem de_M_plain_29 : decode by_M_plain 29 = .ok (.invokevirtual 72, 3) := by decide +kernel
theorem de_M_plain_32 : decode by_M_plain 32 = .ok (.lconst 0, 1) := by decide +kernel
theorem de_M_plain_33 : decode by_M_plain 33 = .ok (.lcmp, 1) := by decide +kernel
theorem de_M_plain_34 : decode by_M_plain 34 = .ok (.ifCond .ne 7, 3) := by decide +kernel
theorem de_M_plain_37 : decode by_M_plain 37 = .ok (.iconst 3, 1) := by decide +kernel
theorem de_M_plain_38 : decode by_M_plain 38 = .ok (.goto 4, 3) := by decide +kernel
theorem de_M_plain_41 : decode by_M_plain 41 = .ok (.iconst 0, 1) := by decide +kernel
theorem de_M_plain_42 : decode by_M_plain 42 = .ok (.putfield 61, 3) := by decide +kernel
theorem de_M_plain_45 : decode by_M_plain 45 = .ok (.aload_n 0, 1) := by decide +kernel
theorem de_M_plain_46 : decode by_M_plain 46 = .ok (.getfield 61, 3) := by decide +kernel
theorem de_M_plain_49 : decode by_M_plain 49 = .ok (.ifCond .le 7, 3) := by decide +kernel
theorem de_M_plain_52 : decode by_M_plain 52 = .ok (.lconst 0, 1) := by decide +kernel
theorem de_M_plain_53 : decode by_M_plain 53 = .ok (.goto 16, 3) := by decide +kernel
theorem de_M_plain_56 : decode by_M_plain 56 = .ok (.lload_n 1, 1) := by decide +kernel
theorem de_M_plain_57 : decode by_M_plain 57 = .ok (.aload_n 0, 1) := by decide +kernel
theorem de_M_plain_58 : decode by_M_plain 58 = .ok (.getfield 7, 3) := by decide +kernel
theorem de_M_plain_61 : decode by_M_plain 61 = .ok (.iload_n 3, 1) := by decide +kernel
theorem de_M_plain_62 : decode by_M_plain 62 = .ok (.laload, 1) := by decide +kernel
theorem de_M_plain_63 : decode by_M_plain 63 = .ok (.lmul, 1) := by decide +kernel
theorem de_M_plain_64 : decode by_M_plain 64 = .ok (.aload_n 0, 1) := by decide +kernel
theorem de_M_plain_65 : decode by_M_plain 65 = .ok (.invokevirtual 72, 3) := by decide +kernel
theorem de_M_plain_68 : decode by_M_plain 68 = .ok (.ldiv, 1) := by decide +kernel
theorem de_M_plain_69 : decode by_M_plain 69 = .ok (.lreturn, 1) := by decide +kernel
theorem de_M_count_0 : decode by_M_count 0 = .ok (.aload_n 0, 1) := by decide +kernel
theorem de_M_count_1 : decode by_M_count 1 = .ok (.iconst 0, 1) := by decide +kernel
theorem de_M_count_2 : decode by_M_count 2 = .ok (.putfield 61, 3) := by decide +kernel
theorem de_M_count_5 : decode by_M_count 5 = .ok (.iconst 0, 1) := by decide +kernel
theorem de_M_count_6 : decode by_M_count 6 = .ok (.istore_n 2, 1) := by decide +kernel
theorem de_M_count_7 : decode by_M_count 7 = .ok (.iconst 0, 1) := by decide +kernel
theorem de_M_count_8 : decode by_M_count 8 = .ok (.istore_n 3, 1) := by decide +kernel
theorem de_M_count_9 : decode by_M_count 9 = .ok (.iload_n 3, 1) := by decide +kernel
theorem de_M_count_10 : decode by_M_count 10 = .ok (.bipush 9, 2) := by decide +kernel
theorem de_M_count_12 : decode by_M_count 12 = .ok (.if_icmp .ge 44, 3) := by decide +kernel
theorem de_M_count_15 : decode by_M_count 15 = .ok (.iload_n 2, 1) := by decide +kernel
theorem de_M_count_16 : decode by_M_count 16 = .ok (.aload_n 0, 1) := by decide +kernel
theorem de_M_count_17 : decode by_M_count 17 = .ok (.getfield 16, 3) := by decide +kernel
theorem de_M_count_20 : decode by_M_count 20 = .ok (.iload_n 3, 1) := by decide +kernel
theorem de_M_count_21 : decode by_M_count 21 = .ok (.baload, 1) := by decide +kernel
theorem de_M_count_22 : decode by_M_count 22 = .ok (.ifCond .eq 25, 3) := by decide +kernel
theorem de_M_count_25 : decode by_M_count 25 = .ok (.iload_n 1, 1) := by decide +kernel
theorem de_M_count_26 : decode by_M_count 26 = .ok (.iconst 1, 1) := by decide +kernel
theorem de_M_count_27 : decode by_M_count 27 = .ok (.if_icmp .ne 11, 3) := by decide +kernel
theorem de_M_count_30 : decode by_M_count 30 = .ok (.iload_n 3, 1) := by decide +kernel
theorem de_M_count_31 : decode by_M_count 31 = .ok (.iconst 5, 1) := by decide +kernel
theorem de_M_count_32 : decode by_M_count 32 = .ok (.if_icmp .ge 15, 3) := by decide +kernel
theorem de_M_count_35 : decode by_M_count 35 = .ok (.goto 8, 3) := by decide +kernel
theorem de_M_count_38 : decode by_M_count 38 = .ok (.iload_n 3, 1) := by decide +kernel
theorem de_M_count_39 : decode by_M_count 39 = .ok (.iconst 4, 1) := by decide +kernel
theorem de_M_count_40 : decode by_M_count 40 = .ok (.if_icmp .le 7, 3) := by decide +kernel
theorem de_M_count_43 : decode by_M_count 43 = .ok (.iconst 1, 1) := by decide +kernel
theorem de_M_count_44 : decode by_M_count 44 = .ok (.goto 4, 3) := by decide +kernel
theorem de_M_count_47 : decode by_M_count 47 = .ok (.iconst 0, 1) := by decide +kernel
theorem de_M_count_48 : decode by_M_count 48 = .ok (.iadd, 1) := by decide +kernel
theorem de_M_count_49 : decode by_M_count 49 = .ok (.istore_n 2, 1) := by decide +kernel
theorem de_M_count_50 : decode by_M_count 50 = .ok (.iinc 3 1, 3) := by decide +kernel
theorem de_M_count_53 : decode by_M_count 53 = .ok (.goto (-44), 3) := by decide +kernel
theorem de_M_count_56 : decode by_M_count 56 = .ok (.iload_n 1, 1) := by decide +kernel
theorem de_M_count_57 : decode by_M_count 57 = .ok (.tableswitch 81 0 6 #[43, 48, 48, 50, 58, 63, 68], 43) := by decide +kernel
theorem de_M_count_100 : decode by_M_count 100 = .ok (.aload_n 0, 1) := by decide +kernel
theorem de_M_count_101 : decode by_M_count 101 = .ok (.getfield 79, 3) := by decide +kernel
theorem de_M_count_104 : decode by_M_count 104 = .ok (.ireturn, 1) := by decide +kernel
theorem de_M_count_105 : decode by_M_count 105 = .ok (.iload_n 2, 1) := by decide +kernel
theorem de_M_count_106 : decode by_M_count 106 = .ok (.ireturn, 1) := by decide +kernel
theorem de_M_count_107 : decode by_M_count 107 = .ok (.aload_n 0, 1) := by decide +kernel
theorem de_M_count_108 : decode by_M_count 108 = .ok (.getfield 93, 3) := by decide +kernel
theorem de_M_count_111 : decode by_M_count 111 = .ok (.bipush 30, 2) := by decide +kernel
theorem de_M_count_113 : decode by_M_count 113 = .ok (.idiv, 1) := by decide +kernel
theorem de_M_count_114 : decode by_M_count 114 = .ok (.ireturn, 1) := by decide +kernel
theorem de_M_count_115 : decode by_M_count 115 = .ok (.aload_n 0, 1) := by decide +kernel
theorem de_M_count_116 : decode by_M_count 116 = .ok (.invokevirtual 96, 3) := by decide +kernel
theorem de_M_count_119 : decode by_M_count 119 = .ok (.ireturn, 1) := by decide +kernel
theorem de_M_count_120 : decode by_M_count 120 = .ok (.aload_n 0, 1) := by decide +kernel
theorem de_M_count_121 : decode by_M_count 121 = .ok (.getfield 90, 3) := by decide +kernel
theorem de_M_count_124 : decode by_M_count 124 = .ok (.ireturn, 1) := by decide +kernel
theorem de_M_count_125 : decode by_M_count 125 = .ok (.aload_n 0, 1) := by decide +kernel
theorem de_M_count_126 : decode by_M_count 126 = .ok (.invokevirtual 131, 3) := by decide +kernel
theorem de_M_count_129 : decode by_M_count 129 = .ok (.ifCond .eq 7, 3) := by decide +kernel
theorem de_M_count_132 : decode by_M_count 132 = .ok (.iconst 1, 1) := by decide +kernel
theorem de_M_count_133 : decode by_M_count 133 = .ok (.goto 4, 3) := by decide +kernel
theorem de_M_count_136 : decode by_M_count 136 = .ok (.iconst 0, 1) := by decide +kernel
theorem de_M_count_137 : decode by_M_count 137 = .ok (.ireturn, 1) := by decide +kernel
theorem de_M_count_138 : decode by_M_count 138 = .ok (.iconst (-1), 1) := by decide +kernel
theorem de_M_count_139 : decode by_M_count 139 = .ok (.ireturn, 1) := by decide +kernel
theorem de_M_sum_0 : decode by_M_sum 0 = .ok (.aload_n 0, 1) := by decide +kernel
theorem de_M_sum_1 : decode by_M_sum 1 = .ok (.iconst 0, 1) := by decide +kernel
theorem de_M_sum_2 : decode by_M_sum 2 = .ok (.putfield 61, 3) := by decide +kernel
theorem de_M_sum_5 : decode by_M_sum 5 = .ok (.aload_n 0, 1) := by decide +kernel
theorem de_M_sum_6 : decode by_M_sum 6 = .ok (.invokevirtual 186, 3) := by decide +kernel
theorem de_M_sum_9 : decode by_M_sum 9 = .ok (.istore_n 2, 1) := by decide +kernel
theorem de_M_sum_10 : decode by_M_sum 10 = .ok (.iload_n 1, 1) := by decide +kernel
theorem de_M_sum_11 : decode by_M_sum 11 = .ok (.tableswitch 103 0 6 #[41, 46, 51, 58, 66, 71, 87], 41) := by decide +kernel
theorem de_M_sum_52 : decode by_M_sum 52 = .ok (.aload_n 0, 1) := by decide +kernel
theorem de_M_sum_53 : decode by_M_sum 53 = .ok (.invokevirtual 72, 3) := by decide +kernel
theorem de_M_sum_56 : decode by_M_sum 56 = .ok (.lreturn, 1) := by decide +kernel
theorem de_M_sum_57 : decode by_M_sum 57 = .ok (.aload_n 0, 1) := by decide +kernel
theorem de_M_sum_58 : decode by_M_sum 58 = .ok (.invokevirtual 76, 3) := by decide +kernel
theorem de_M_sum_61 : decode by_M_sum 61 = .ok (.lreturn, 1) := by decide +kernel
theorem de_M_sum_62 : decode by_M_sum 62 = .ok (.aload_n 0, 1) := by decide +kernel
theorem de_M_sum_63 : decode by_M_sum 63 = .ok (.iconst 0, 1) := by decide +kernel
theorem de_M_sum_64 : decode by_M_sum 64 = .ok (.iconst 5, 1) := by decide +kernel
theorem de_M_sum_65 : decode by_M_sum 65 = .ok (.invokevirtual 124, 3) := by decide +kernel
theorem de_M_sum_68 : decode by_M_sum 68 = .ok (.lreturn, 1) := by decide +kernel
theorem de_M_sum_69 : decode by_M_sum 69 = .ok (.aload_n 0, 1) := by decide +kernel
theorem de_M_sum_70 : decode by_M_sum 70 = .ok (.iconst 5, 1) := by decide +kernel
theorem de_M_sum_71 : decode by_M_sum 71 = .ok (.bipush 9, 2) := by decide +kernel
theorem de_M_sum_73 : decode by_M_sum 73 = .ok (.invokevirtual 124, 3) := by decide +kernel
theorem de_M_sum_76 : decode by_M_sum 76 = .ok (.lreturn, 1) := by decide +kernel
theorem de_M_sum_77 : decode by_M_sum 77 = .ok (.aload_n 0, 1) := by decide +kernel
theorem de_M_sum_78 : decode by_M_sum 78 = .ok (.invokevirtual 106, 3) := by decide +kernel
theorem de_M_sum_81 : decode by_M_sum 81 = .ok (.lreturn, 1) := by decide +kernel
theorem de_M_sum_82 : decode by_M_sum 82 = .ok (.iload_n 2, 1) := by decide +kernel
theorem de_M_sum_83 : decode by_M_sum 83 = .ok (.ifCond .ne 9, 3) := by decide +kernel
theorem de_M_sum_86 : decode by_M_sum 86 = .ok (.ldc2_w 55, 3) := by decide +kernel
theorem de_M_sum_89 : decode by_M_sum 89 = .ok (.goto 8, 3) := by decide +kernel
theorem de_M_sum_92 : decode by_M_sum 92 = .ok (.aload_n 0, 1) := by decide +kernel
theorem de_M_sum_93 : decode by_M_sum 93 = .ok (.iload_n 2, 1) := by decide +kernel
theorem de_M_sum_94 : decode by_M_sum 94 = .ok (.invokevirtual 157, 3) := by decide +kernel
theorem de_M_sum_97 : decode by_M_sum 97 = .ok (.lreturn, 1) := by decide +kernel
theorem de_M_sum_98 : decode by_M_sum 98 = .ok (.iload_n 2, 1) := by decide +kernel
theorem de_M_sum_99 : decode by_M_sum 99 = .ok (.ifCond .ne 9, 3) := by decide +kernel
theorem de_M_sum_102 : decode by_M_sum 102 = .ok (.ldc2_w 55, 3) := by decide +kernel
theorem de_M_sum_105 : decode by_M_sum 105 = .ok (.goto 8, 3) := by decide +kernel
theorem de_M_sum_108 : decode by_M_sum 108 = .ok (.aload_n 0, 1) := by decide +kernel
theorem de_M_sum_109 : decode by_M_sum 109 = .ok (.iload_n 2, 1) := by decide +kernel
theorem de_M_sum_110 : decode by_M_sum 110 = .ok (.invokevirtual 148, 3) := by decide +kernel
theorem de_M_sum_113 : decode by_M_sum 113 = .ok (.lreturn, 1) := by decide +kernel
theorem de_M_sum_114 : decode by_M_sum 114 = .ok (.ldc2_w 55, 3) := by decide +kernel
theorem de_M_sum_117 : decode by_M_sum 117 = .ok (.lreturn, 1) := by decide +kernel
