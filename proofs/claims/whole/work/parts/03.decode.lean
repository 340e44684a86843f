theorem de_V_init_0 : decode by_V_init 0 = .ok (.aload_n 0, 1) := by decide +kernel
theorem de_V_init_1 : decode by_V_init 1 = .ok (.invokespecial 1, 3) := by decide +kernel
theorem de_V_init_4 : decode by_V_init 4 = .ok (.aload_n 0, 1) := by decide +kernel
theorem de_V_init_5 : decode by_V_init 5 = .ok (.new 7, 3) := by decide +kernel
theorem de_V_init_8 : decode by_V_init 8 = .ok (.dup, 1) := by decide +kernel
theorem de_V_init_9 : decode by_V_init 9 = .ok (.invokespecial 9, 3) := by decide +kernel
theorem de_V_init_12 : decode by_V_init 12 = .ok (.putfield 10, 3) := by decide +kernel
theorem de_V_init_15 : decode by_V_init 15 = .ok (.aload_n 0, 1) := by decide +kernel
theorem de_V_init_16 : decode by_V_init 16 = .ok (.new 16, 3) := by decide +kernel
theorem de_V_init_19 : decode by_V_init 19 = .ok (.dup, 1) := by decide +kernel
theorem de_V_init_20 : decode by_V_init 20 = .ok (.iconst 5, 1) := by decide +kernel
theorem de_V_init_21 : decode by_V_init 21 = .ok (.invokespecial 18, 3) := by decide +kernel
theorem de_V_init_24 : decode by_V_init 24 = .ok (.putfield 21, 3) := by decide +kernel
theorem de_V_init_27 : decode by_V_init 27 = .ok (.aload_n 0, 1) := by decide +kernel
theorem de_V_init_28 : decode by_V_init 28 = .ok (.new 16, 3) := by decide +kernel
theorem de_V_init_31 : decode by_V_init 31 = .ok (.dup, 1) := by decide +kernel
theorem de_V_init_32 : decode by_V_init 32 = .ok (.iconst 4, 1) := by decide +kernel
theorem de_V_init_33 : decode by_V_init 33 = .ok (.invokespecial 18, 3) := by decide +kernel
theorem de_V_init_36 : decode by_V_init 36 = .ok (.putfield 25, 3) := by decide +kernel
theorem de_V_init_39 : decode by_V_init 39 = .ok (.aload_n 0, 1) := by decide +kernel
theorem de_V_init_40 : decode by_V_init 40 = .ok (.new 28, 3) := by decide +kernel
theorem de_V_init_43 : decode by_V_init 43 = .ok (.dup, 1) := by decide +kernel
theorem de_V_init_44 : decode by_V_init 44 = .ok (.invokespecial 30, 3) := by decide +kernel
theorem de_V_init_47 : decode by_V_init 47 = .ok (.putfield 31, 3) := by decide +kernel
theorem de_V_init_50 : decode by_V_init 50 = .ok (.aload_n 0, 1) := by decide +kernel
theorem de_V_init_51 : decode by_V_init 51 = .ok (.new 35, 3) := by decide +kernel
theorem de_V_init_54 : decode by_V_init 54 = .ok (.dup, 1) := by decide +kernel
theorem de_V_init_55 : decode by_V_init 55 = .ok (.invokespecial 37, 3) := by decide +kernel
theorem de_V_init_58 : decode by_V_init 58 = .ok (.putfield 38, 3) := by decide +kernel
theorem de_V_init_61 : decode by_V_init 61 = .ok (.aload_n 0, 1) := by decide +kernel
theorem de_V_init_62 : decode by_V_init 62 = .ok (.bipush 7, 2) := by decide +kernel
theorem de_V_init_64 : decode by_V_init 64 = .ok (.newarray .boolean, 2) := by decide +kernel
theorem de_V_init_66 : decode by_V_init 66 = .ok (.putfield 42, 3) := by decide +kernel
theorem de_V_init_69 : decode by_V_init 69 = .ok (.aload_n 0, 1) := by decide +kernel
theorem de_V_init_70 : decode by_V_init 70 = .ok (.bipush 7, 2) := by decide +kernel
theorem de_V_init_72 : decode by_V_init 72 = .ok (.newarray .boolean, 2) := by decide +kernel
theorem de_V_init_74 : decode by_V_init 74 = .ok (.putfield 46, 3) := by decide +kernel
theorem de_V_init_77 : decode by_V_init 77 = .ok (.aload_n 0, 1) := by decide +kernel
theorem de_V_init_78 : decode by_V_init 78 = .ok (.bipush 7, 2) := by decide +kernel
theorem de_V_init_80 : decode by_V_init 80 = .ok (.newarray .long, 2) := by decide +kernel
theorem de_V_init_82 : decode by_V_init 82 = .ok (.putfield 49, 3) := by decide +kernel
theorem de_V_init_85 : decode by_V_init 85 = .ok (.aload_n 0, 1) := by decide +kernel
theorem de_V_init_86 : decode by_V_init 86 = .ok (.bipush 7, 2) := by decide +kernel
theorem de_V_init_88 : decode by_V_init 88 = .ok (.newarray .long, 2) := by decide +kernel
theorem de_V_init_90 : decode by_V_init 90 = .ok (.putfield 53, 3) := by decide +kernel
theorem de_V_init_93 : decode by_V_init 93 = .ok (.aload_n 0, 1) := by decide +kernel
theorem de_V_init_94 : decode by_V_init 94 = .ok (.bipush 40, 2) := by decide +kernel
theorem de_V_init_96 : decode by_V_init 96 = .ok (.newarray .long, 2) := by decide +kernel
theorem de_V_init_98 : decode by_V_init 98 = .ok (.putfield 56, 3) := by decide +kernel
theorem de_V_init_101 : decode by_V_init 101 = .ok (.aload_n 0, 1) := by decide +kernel
theorem de_V_init_102 : decode by_V_init 102 = .ok (.iconst 0, 1) := by decide +kernel
theorem de_V_init_103 : decode by_V_init 103 = .ok (.putfield 59, 3) := by decide +kernel
theorem de_V_init_106 : decode by_V_init 106 = .ok (.aload_n 0, 1) := by decide +kernel
theorem de_V_init_107 : decode by_V_init 107 = .ok (.sipush 359, 3) := by decide +kernel
theorem de_V_init_110 : decode by_V_init 110 = .ok (.putfield 63, 3) := by decide +kernel
theorem de_V_init_113 : decode by_V_init 113 = .ok (.aload_n 0, 1) := by decide +kernel
theorem de_V_init_114 : decode by_V_init 114 = .ok (.ldc2_w 66, 3) := by decide +kernel
theorem de_V_init_117 : decode by_V_init 117 = .ok (.putfield 68, 3) := by decide +kernel
theorem de_V_init_120 : decode by_V_init 120 = .ok (.return_, 1) := by decide +kernel
theorem de_V_line_0 : decode by_V_line 0 = .ok (.lload_n 1, 1) := by decide +kernel
theorem de_V_line_1 : decode by_V_line 1 = .ok (.lconst 0, 1) := by decide +kernel
theorem de_V_line_2 : decode by_V_line 2 = .ok (.ldc2_w 72, 3) := by decide +kernel
theorem de_V_line_5 : decode by_V_line 5 = .ok (.invokestatic 74, 3) := by decide +kernel
theorem de_V_line_8 : decode by_V_line 8 = .ok (.ifCond .eq 14, 3) := by decide +kernel
theorem de_V_line_11 : decode by_V_line 11 = .ok (.lload_n 3, 1) := by decide +kernel
theorem de_V_line_12 : decode by_V_line 12 = .ok (.lconst 0, 1) := by decide +kernel
theorem de_V_line_13 : decode by_V_line 13 = .ok (.ldc2_w 72, 3) := by decide +kernel
theorem de_V_line_16 : decode by_V_line 16 = .ok (.invokestatic 74, 3) := by decide +kernel
theorem de_V_line_19 : decode by_V_line 19 = .ok (.ifCond .ne 13, 3) := by decide +kernel
theorem de_V_line_22 : decode by_V_line 22 = .ok (.new 78, 3) := by decide +kernel
theorem de_V_line_25 : decode by_V_line 25 = .ok (.dup, 1) := by decide +kernel
theorem de_V_line_26 : decode by_V_line 26 = .ok (.ldc 80, 2) := by decide +kernel
theorem de_V_line_28 : decode by_V_line 28 = .ok (.invokespecial 82, 3) := by decide +kernel
theorem de_V_line_31 : decode by_V_line 31 = .ok (.athrow, 1) := by decide +kernel
theorem de_V_line_32 : decode by_V_line 32 = .ok (.aload_n 0, 1) := by decide +kernel
theorem de_V_line_33 : decode by_V_line 33 = .ok (.getfield 10, 3) := by decide +kernel
theorem de_V_line_36 : decode by_V_line 36 = .ok (.invokevirtual 85, 3) := by decide +kernel
theorem de_V_line_39 : decode by_V_line 39 = .ok (.ifCond .eq 13, 3) := by decide +kernel
theorem de_V_line_42 : decode by_V_line 42 = .ok (.new 89, 3) := by decide +kernel
theorem de_V_line_45 : decode by_V_line 45 = .ok (.dup, 1) := by decide +kernel
theorem de_V_line_46 : decode by_V_line 46 = .ok (.ldc 91, 2) := by decide +kernel
theorem de_V_line_48 : decode by_V_line 48 = .ok (.invokespecial 93, 3) := by decide +kernel
theorem de_V_line_51 : decode by_V_line 51 = .ok (.athrow, 1) := by decide +kernel
theorem de_V_line_52 : decode by_V_line 52 = .ok (.aload_n 0, 1) := by decide +kernel
theorem de_V_line_53 : decode by_V_line 53 = .ok (.getfield 10, 3) := by decide +kernel
theorem de_V_line_56 : decode by_V_line 56 = .ok (.lload_n 1, 1) := by decide +kernel
theorem de_V_line_57 : decode by_V_line 57 = .ok (.lload_n 3, 1) := by decide +kernel
theorem de_V_line_58 : decode by_V_line 58 = .ok (.invokevirtual 94, 3) := by decide +kernel
theorem de_V_line_61 : decode by_V_line 61 = .ok (.ireturn, 1) := by decide +kernel
theorem de_V_add_0 : decode by_V_add 0 = .ok (.aload_n 0, 1) := by decide +kernel
theorem de_V_add_1 : decode by_V_add 1 = .ok (.getfield 21, 3) := by decide +kernel
theorem de_V_add_4 : decode by_V_add 4 = .ok (.iload_n 1, 1) := by decide +kernel
theorem de_V_add_5 : decode by_V_add 5 = .ok (.invokevirtual 98, 3) := by decide +kernel
theorem de_V_add_8 : decode by_V_add 8 = .ok (.ifCond .eq 14, 3) := by decide +kernel
theorem de_V_add_11 : decode by_V_add 11 = .ok (.lload_n 2, 1) := by decide +kernel
theorem de_V_add_12 : decode by_V_add 12 = .ok (.lconst 0, 1) := by decide +kernel
theorem de_V_add_13 : decode by_V_add 13 = .ok (.ldc2_w 102, 3) := by decide +kernel
theorem de_V_add_16 : decode by_V_add 16 = .ok (.invokestatic 74, 3) := by decide +kernel
theorem de_V_add_19 : decode by_V_add 19 = .ok (.ifCond .ne 13, 3) := by decide +kernel
theorem de_V_add_22 : decode by_V_add 22 = .ok (.new 78, 3) := by decide +kernel
theorem de_V_add_25 : decode by_V_add 25 = .ok (.dup, 1) := by decide +kernel
theorem de_V_add_26 : decode by_V_add 26 = .ok (.ldc 104, 2) := by decide +kernel
theorem de_V_add_28 : decode by_V_add 28 = .ok (.invokespecial 82, 3) := by decide +kernel
theorem de_V_add_31 : decode by_V_add 31 = .ok (.athrow, 1) := by decide +kernel
theorem de_V_add_32 : decode by_V_add 32 = .ok (.aload_n 0, 1) := by decide +kernel
theorem de_V_add_33 : decode by_V_add 33 = .ok (.getfield 21, 3) := by decide +kernel
theorem de_V_add_36 : decode by_V_add 36 = .ok (.iload_n 1, 1) := by decide +kernel
theorem de_V_add_37 : decode by_V_add 37 = .ok (.lload_n 2, 1) := by decide +kernel
theorem de_V_add_38 : decode by_V_add 38 = .ok (.iload 4, 2) := by decide +kernel
theorem de_V_add_40 : decode by_V_add 40 = .ok (.invokevirtual 106, 3) := by decide +kernel
theorem de_V_add_43 : decode by_V_add 43 = .ok (.ireturn, 1) := by decide +kernel
theorem de_V_less_0 : decode by_V_less 0 = .ok (.aload_n 0, 1) := by decide +kernel
theorem de_V_less_1 : decode by_V_less 1 = .ok (.getfield 25, 3) := by decide +kernel
theorem de_V_less_4 : decode by_V_less 4 = .ok (.iload_n 1, 1) := by decide +kernel
theorem de_V_less_5 : decode by_V_less 5 = .ok (.invokevirtual 98, 3) := by decide +kernel
theorem de_V_less_8 : decode by_V_less 8 = .ok (.ifCond .eq 14, 3) := by decide +kernel
theorem de_V_less_11 : decode by_V_less 11 = .ok (.lload_n 2, 1) := by decide +kernel
theorem de_V_less_12 : decode by_V_less 12 = .ok (.lconst 0, 1) := by decide +kernel
theorem de_V_less_13 : decode by_V_less 13 = .ok (.ldc2_w 102, 3) := by decide +kernel
theorem de_V_less_16 : decode by_V_less 16 = .ok (.invokestatic 74, 3) := by decide +kernel
theorem de_V_less_19 : decode by_V_less 19 = .ok (.ifCond .ne 13, 3) := by decide +kernel
theorem de_V_less_22 : decode by_V_less 22 = .ok (.new 78, 3) := by decide +kernel
theorem de_V_less_25 : decode by_V_less 25 = .ok (.dup, 1) := by decide +kernel
theorem de_V_less_26 : decode by_V_less 26 = .ok (.ldc 110, 2) := by decide +kernel
theorem de_V_less_28 : decode by_V_less 28 = .ok (.invokespecial 82, 3) := by decide +kernel
theorem de_V_less_31 : decode by_V_less 31 = .ok (.athrow, 1) := by decide +kernel
theorem de_V_less_32 : decode by_V_less 32 = .ok (.aload_n 0, 1) := by decide +kernel
theorem de_V_less_33 : decode by_V_less 33 = .ok (.getfield 25, 3) := by decide +kernel
theorem de_V_less_36 : decode by_V_less 36 = .ok (.iload_n 1, 1) := by decide +kernel
theorem de_V_less_37 : decode by_V_less 37 = .ok (.lload_n 2, 1) := by decide +kernel
theorem de_V_less_38 : decode by_V_less 38 = .ok (.iload 4, 2) := by decide +kernel
theorem de_V_less_40 : decode by_V_less 40 = .ok (.invokevirtual 106, 3) := by decide +kernel
theorem de_V_less_43 : decode by_V_less 43 = .ok (.ireturn, 1) := by decide +kernel
theorem de_V_discount_0 : decode by_V_discount 0 = .ok (.iload_n 1, 1) := by decide +kernel
theorem de_V_discount_1 : decode by_V_discount 1 = .ok (.i2l, 1) := by decide +kernel
theorem de_V_discount_2 : decode by_V_discount 2 = .ok (.lconst 0, 1) := by decide +kernel
theorem de_V_discount_3 : decode by_V_discount 3 = .ok (.ldc2_w 112, 3) := by decide +kernel
theorem de_V_discount_6 : decode by_V_discount 6 = .ok (.invokestatic 74, 3) := by decide +kernel
theorem de_V_discount_9 : decode by_V_discount 9 = .ok (.ifCond .eq 15, 3) := by decide +kernel
theorem de_V_discount_12 : decode by_V_discount 12 = .ok (.iload_n 2, 1) := by decide +kernel
theorem de_V_discount_13 : decode by_V_discount 13 = .ok (.i2l, 1) := by decide +kernel
theorem de_V_discount_14 : decode by_V_discount 14 = .ok (.lconst 0, 1) := by decide +kernel
theorem de_V_discount_15 : decode by_V_discount 15 = .ok (.ldc2_w 114, 3) := by decide +kernel
theorem de_V_discount_18 : decode by_V_discount 18 = .ok (.invokestatic 74, 3) := by decide +kernel
theorem de_V_discount_21 : decode by_V_discount 21 = .ok (.ifCond .ne 13, 3) := by decide +kernel
theorem de_V_discount_24 : decode by_V_discount 24 = .ok (.new 78, 3) := by decide +kernel
theorem de_V_discount_27 : decode by_V_discount 27 = .ok (.dup, 1) := by decide +kernel
theorem de_V_discount_28 : decode by_V_discount 28 = .ok (.ldc 116, 2) := by decide +kernel
theorem de_V_discount_30 : decode by_V_discount 30 = .ok (.invokespecial 82, 3) := by decide +kernel
theorem de_V_discount_33 : decode by_V_discount 33 = .ok (.athrow, 1) := by decide +kernel
theorem de_V_discount_34 : decode by_V_discount 34 = .ok (.aload_n 0, 1) := by decide +kernel
theorem de_V_discount_35 : decode by_V_discount 35 = .ok (.getfield 31, 3) := by decide +kernel
theorem de_V_discount_38 : decode by_V_discount 38 = .ok (.invokevirtual 118, 3) := by decide +kernel
theorem de_V_discount_41 : decode by_V_discount 41 = .ok (.ifCond .eq 13, 3) := by decide +kernel
theorem de_V_discount_44 : decode by_V_discount 44 = .ok (.new 89, 3) := by decide +kernel
theorem de_V_discount_47 : decode by_V_discount 47 = .ok (.dup, 1) := by decide +kernel
theorem de_V_discount_48 : decode by_V_discount 48 = .ok (.ldc 119, 2) := by decide +kernel
theorem de_V_discount_50 : decode by_V_discount 50 = .ok (.invokespecial 93, 3) := by decide +kernel
theorem de_V_discount_53 : decode by_V_discount 53 = .ok (.athrow, 1) := by decide +kernel
theorem de_V_discount_54 : decode by_V_discount 54 = .ok (.aload_n 0, 1) := by decide +kernel
theorem de_V_discount_55 : decode by_V_discount 55 = .ok (.getfield 31, 3) := by decide +kernel
theorem de_V_discount_58 : decode by_V_discount 58 = .ok (.iload_n 1, 1) := by decide +kernel
theorem de_V_discount_59 : decode by_V_discount 59 = .ok (.iload_n 2, 1) := by decide +kernel
theorem de_V_discount_60 : decode by_V_discount 60 = .ok (.invokevirtual 121, 3) := by decide +kernel
theorem de_V_discount_63 : decode by_V_discount 63 = .ok (.ireturn, 1) := by decide +kernel
theorem de_V_days_0 : decode by_V_days 0 = .ok (.iload_n 1, 1) := by decide +kernel
theorem de_V_days_1 : decode by_V_days 1 = .ok (.i2l, 1) := by decide +kernel
theorem de_V_days_2 : decode by_V_days 2 = .ok (.lconst 0, 1) := by decide +kernel
theorem de_V_days_3 : decode by_V_days 3 = .ok (.ldc2_w 112, 3) := by decide +kernel
theorem de_V_days_6 : decode by_V_days 6 = .ok (.invokestatic 74, 3) := by decide +kernel
theorem de_V_days_9 : decode by_V_days 9 = .ok (.ifCond .eq 15, 3) := by decide +kernel
theorem de_V_days_12 : decode by_V_days 12 = .ok (.iload_n 2, 1) := by decide +kernel
theorem de_V_days_13 : decode by_V_days 13 = .ok (.i2l, 1) := by decide +kernel
theorem de_V_days_14 : decode by_V_days 14 = .ok (.lconst 0, 1) := by decide +kernel
theorem de_V_days_15 : decode by_V_days 15 = .ok (.ldc2_w 112, 3) := by decide +kernel
theorem de_V_days_18 : decode by_V_days 18 = .ok (.invokestatic 74, 3) := by decide +kernel
theorem de_V_days_21 : decode by_V_days 21 = .ok (.ifCond .ne 5, 3) := by decide +kernel
theorem de_V_days_24 : decode by_V_days 24 = .ok (.iconst 0, 1) := by decide +kernel
theorem de_V_days_25 : decode by_V_days 25 = .ok (.ireturn, 1) := by decide +kernel
theorem de_V_days_26 : decode by_V_days 26 = .ok (.aload_n 0, 1) := by decide +kernel
theorem de_V_days_27 : decode by_V_days 27 = .ok (.iload_n 1, 1) := by decide +kernel
theorem de_V_days_28 : decode by_V_days 28 = .ok (.putfield 59, 3) := by decide +kernel
theorem de_V_days_31 : decode by_V_days 31 = .ok (.aload_n 0, 1) := by decide +kernel
theorem de_V_days_32 : decode by_V_days 32 = .ok (.iload_n 2, 1) := by decide +kernel
theorem de_V_days_33 : decode by_V_days 33 = .ok (.putfield 63, 3) := by decide +kernel
theorem de_V_days_36 : decode by_V_days 36 = .ok (.iconst 1, 1) := by decide +kernel
theorem de_V_days_37 : decode by_V_days 37 = .ok (.ireturn, 1) := by decide +kernel
theorem de_V_rate_0 : decode by_V_rate 0 = .ok (.aload_n 0, 1) := by decide +kernel
theorem de_V_rate_1 : decode by_V_rate 1 = .ok (.getfield 38, 3) := by decide +kernel
theorem de_V_rate_4 : decode by_V_rate 4 = .ok (.iload_n 1, 1) := by decide +kernel
theorem de_V_rate_5 : decode by_V_rate 5 = .ok (.iload_n 2, 1) := by decide +kernel
theorem de_V_rate_6 : decode by_V_rate 6 = .ok (.iload_n 3, 1) := by decide +kernel
theorem de_V_rate_7 : decode by_V_rate 7 = .ok (.invokevirtual 124, 3) := by decide +kernel
theorem de_V_rate_10 : decode by_V_rate 10 = .ok (.ireturn, 1) := by decide +kernel
theorem de_V_condition_0 : decode by_V_condition 0 = .ok (.iload_n 1, 1) := by decide +kernel
theorem de_V_condition_1 : decode by_V_condition 1 = .ok (.i2l, 1) := by decide +kernel
theorem de_V_condition_2 : decode by_V_condition 2 = .ok (.lconst 1, 1) := by decide +kernel
theorem de_V_condition_3 : decode by_V_condition 3 = .ok (.ldc2_w 127, 3) := by decide +kernel
theorem de_V_condition_6 : decode by_V_condition 6 = .ok (.invokestatic 74, 3) := by decide +kernel
theorem de_V_condition_9 : decode by_V_condition 9 = .ok (.ifCond .ne 5, 3) := by decide +kernel
theorem de_V_condition_12 : decode by_V_condition 12 = .ok (.iconst 0, 1) := by decide +kernel
theorem de_V_condition_13 : decode by_V_condition 13 = .ok (.ireturn, 1) := by decide +kernel
theorem de_V_condition_14 : decode by_V_condition 14 = .ok (.aload_n 0, 1) := by decide +kernel
theorem de_V_condition_15 : decode by_V_condition 15 = .ok (.getfield 42, 3) := by decide +kernel
theorem de_V_condition_18 : decode by_V_condition 18 = .ok (.iload_n 1, 1) := by decide +kernel
theorem de_V_condition_19 : decode by_V_condition 19 = .ok (.iload_n 2, 1) := by decide +kernel
theorem de_V_condition_20 : decode by_V_condition 20 = .ok (.bastore, 1) := by decide +kernel
theorem de_V_condition_21 : decode by_V_condition 21 = .ok (.iconst 1, 1) := by decide +kernel
theorem de_V_condition_22 : decode by_V_condition 22 = .ok (.ireturn, 1) := by decide +kernel
theorem de_V_figures_0 : decode by_V_figures 0 = .ok (.iload_n 1, 1) := by decide +kernel
theorem de_V_figures_1 : decode by_V_figures 1 = .ok (.i2l, 1) := by decide +kernel
theorem de_V_figures_2 : decode by_V_figures 2 = .ok (.ldc2_w 129, 3) := by decide +kernel
theorem de_V_figures_5 : decode by_V_figures 5 = .ok (.ldc2_w 127, 3) := by decide +kernel
theorem de_V_figures_8 : decode by_V_figures 8 = .ok (.invokestatic 74, 3) := by decide +kernel
theorem de_V_figures_11 : decode by_V_figures 11 = .ok (.ifCond .eq 13, 3) := by decide +kernel
theorem de_V_figures_14 : decode by_V_figures 14 = .ok (.iload_n 1, 1) := by decide +kernel
theorem de_V_figures_15 : decode by_V_figures 15 = .ok (.lload_n 2, 1) := by decide +kernel
theorem de_V_figures_16 : decode by_V_figures 16 = .ok (.lload 4, 2) := by decide +kernel
theorem de_V_figures_18 : decode by_V_figures 18 = .ok (.invokestatic 131, 3) := by decide +kernel
theorem de_V_figures_21 : decode by_V_figures 21 = .ok (.ifCond .ne 5, 3) := by decide +kernel
theorem de_V_figures_24 : decode by_V_figures 24 = .ok (.iconst 0, 1) := by decide +kernel
theorem de_V_figures_25 : decode by_V_figures 25 = .ok (.ireturn, 1) := by decide +kernel
theorem de_V_figures_26 : decode by_V_figures 26 = .ok (.aload_n 0, 1) := by decide +kernel
theorem de_V_figures_27 : decode by_V_figures 27 = .ok (.getfield 46, 3) := by decide +kernel
theorem de_V_figures_30 : decode by_V_figures 30 = .ok (.iload_n 1, 1) := by decide +kernel
theorem de_V_figures_31 : decode by_V_figures 31 = .ok (.iconst 1, 1) := by decide +kernel
theorem de_V_figures_32 : decode by_V_figures 32 = .ok (.bastore, 1) := by decide +kernel
theorem de_V_figures_33 : decode by_V_figures 33 = .ok (.aload_n 0, 1) := by decide +kernel
theorem de_V_figures_34 : decode by_V_figures 34 = .ok (.getfield 49, 3) := by decide +kernel
theorem de_V_figures_37 : decode by_V_figures 37 = .ok (.iload_n 1, 1) := by decide +kernel
theorem de_V_figures_38 : decode by_V_figures 38 = .ok (.lload_n 2, 1) := by decide +kernel
theorem de_V_figures_39 : decode by_V_figures 39 = .ok (.lastore, 1) := by decide +kernel
theorem de_V_figures_40 : decode by_V_figures 40 = .ok (.aload_n 0, 1) := by decide +kernel
theorem de_V_figures_41 : decode by_V_figures 41 = .ok (.getfield 53, 3) := by decide +kernel
theorem de_V_figures_44 : decode by_V_figures 44 = .ok (.iload_n 1, 1) := by decide +kernel
theorem de_V_figures_45 : decode by_V_figures 45 = .ok (.lload 4, 2) := by decide +kernel
theorem de_V_figures_47 : decode by_V_figures 47 = .ok (.lastore, 1) := by decide +kernel
theorem de_V_figures_48 : decode by_V_figures 48 = .ok (.iconst 1, 1) := by decide +kernel
theorem de_V_figures_49 : decode by_V_figures 49 = .ok (.ireturn, 1) := by decide +kernel
theorem de_V_related_0 : decode by_V_related 0 = .ok (.lload_n 2, 1) := by decide +kernel
theorem de_V_related_1 : decode by_V_related 1 = .ok (.ldc2_w 66, 3) := by decide +kernel
theorem de_V_related_4 : decode by_V_related 4 = .ok (.lcmp, 1) := by decide +kernel
theorem de_V_related_5 : decode by_V_related 5 = .ok (.ifCond .eq 14, 3) := by decide +kernel
theorem de_V_related_8 : decode by_V_related 8 = .ok (.lload_n 2, 1) := by decide +kernel
theorem de_V_related_9 : decode by_V_related 9 = .ok (.lconst 0, 1) := by decide +kernel
theorem de_V_related_10 : decode by_V_related 10 = .ok (.ldc2_w 102, 3) := by decide +kernel
theorem de_V_related_13 : decode by_V_related 13 = .ok (.invokestatic 74, 3) := by decide +kernel
theorem de_V_related_16 : decode by_V_related 16 = .ok (.ifCond .eq 7, 3) := by decide +kernel
theorem de_V_related_19 : decode by_V_related 19 = .ok (.iconst 1, 1) := by decide +kernel
theorem de_V_related_20 : decode by_V_related 20 = .ok (.goto 4, 3) := by decide +kernel
theorem de_V_related_23 : decode by_V_related 23 = .ok (.iconst 0, 1) := by decide +kernel
theorem de_V_related_24 : decode by_V_related 24 = .ok (.istore 5, 2) := by decide +kernel
theorem de_V_related_26 : decode by_V_related 26 = .ok (.iload 5, 2) := by decide +kernel
theorem de_V_related_28 : decode by_V_related 28 = .ok (.ifCond .eq 16, 3) := by decide +kernel
theorem de_V_related_31 : decode by_V_related 31 = .ok (.iload 4, 2) := by decide +kernel
theorem de_V_related_33 : decode by_V_related 33 = .ok (.i2l, 1) := by decide +kernel
theorem de_V_related_34 : decode by_V_related 34 = .ok (.lconst 0, 1) := by decide +kernel
theorem de_V_related_35 : decode by_V_related 35 = .ok (.ldc2_w 114, 3) := by decide +kernel
theorem de_V_related_38 : decode by_V_related 38 = .ok (.invokestatic 74, 3) := by decide +kernel
theorem de_V_related_41 : decode by_V_related 41 = .ok (.ifCond .ne 5, 3) := by decide +kernel
theorem de_V_related_44 : decode by_V_related 44 = .ok (.iconst 0, 1) := by decide +kernel
theorem de_V_related_45 : decode by_V_related 45 = .ok (.ireturn, 1) := by decide +kernel
theorem de_V_related_46 : decode by_V_related 46 = .ok (.aload_n 0, 1) := by decide +kernel
theorem de_V_related_47 : decode by_V_related 47 = .ok (.iload_n 1, 1) := by decide +kernel
theorem de_V_related_48 : decode by_V_related 48 = .ok (.putfield 135, 3) := by decide +kernel
theorem de_V_related_51 : decode by_V_related 51 = .ok (.aload_n 0, 1) := by decide +kernel
theorem de_V_related_52 : decode by_V_related 52 = .ok (.lload_n 2, 1) := by decide +kernel
theorem de_V_related_53 : decode by_V_related 53 = .ok (.putfield 68, 3) := by decide +kernel
theorem de_V_related_56 : decode by_V_related 56 = .ok (.aload_n 0, 1) := by decide +kernel
theorem de_V_related_57 : decode by_V_related 57 = .ok (.iload 4, 2) := by decide +kernel
theorem de_V_related_59 : decode by_V_related 59 = .ok (.putfield 139, 3) := by decide +kernel
theorem de_V_related_62 : decode by_V_related 62 = .ok (.iconst 1, 1) := by decide +kernel
theorem de_V_related_63 : decode by_V_related 63 = .ok (.ireturn, 1) := by decide +kernel
theorem de_V_turned_0 : decode by_V_turned 0 = .ok (.aload_n 0, 1) := by decide +kernel
theorem de_V_turned_1 : decode by_V_turned 1 = .ok (.iload_n 1, 1) := by decide +kernel
theorem de_V_turned_2 : decode by_V_turned 2 = .ok (.putfield 142, 3) := by decide +kernel
theorem de_V_turned_5 : decode by_V_turned 5 = .ok (.return_, 1) := by decide +kernel
theorem de_V_method_0 : decode by_V_method 0 = .ok (.aload_n 0, 1) := by decide +kernel
theorem de_V_method_1 : decode by_V_method 1 = .ok (.invokevirtual 145, 3) := by decide +kernel
theorem de_V_method_4 : decode by_V_method 4 = .ok (.ireturn, 1) := by decide +kernel
theorem de_V_value_0 : decode by_V_value 0 = .ok (.aload_n 0, 1) := by decide +kernel
theorem de_V_value_1 : decode by_V_value 1 = .ok (.getfield 10, 3) := by decide +kernel
theorem de_V_value_4 : decode by_V_value 4 = .ok (.iload_n 1, 1) := by decide +kernel
theorem de_V_value_5 : decode by_V_value 5 = .ok (.invokevirtual 149, 3) := by decide +kernel
theorem de_V_value_8 : decode by_V_value 8 = .ok (.ifCond .eq 13, 3) := by decide +kernel
theorem de_V_value_11 : decode by_V_value 11 = .ok (.iload_n 2, 1) := by decide +kernel
theorem de_V_value_12 : decode by_V_value 12 = .ok (.i2l, 1) := by decide +kernel
theorem de_V_value_13 : decode by_V_value 13 = .ok (.lconst 0, 1) := by decide +kernel
theorem de_V_value_14 : decode by_V_value 14 = .ok (.lconst 1, 1) := by decide +kernel
theorem de_V_value_15 : decode by_V_value 15 = .ok (.invokestatic 74, 3) := by decide +kernel
theorem de_V_value_18 : decode by_V_value 18 = .ok (.ifCond .ne 13, 3) := by decide +kernel
theorem de_V_value_21 : decode by_V_value 21 = .ok (.new 152, 3) := by decide +kernel
theorem de_V_value_24 : decode by_V_value 24 = .ok (.dup, 1) := by decide +kernel
theorem de_V_value_25 : decode by_V_value 25 = .ok (.ldc 154, 2) := by decide +kernel
theorem de_V_value_27 : decode by_V_value 27 = .ok (.invokespecial 156, 3) := by decide +kernel
theorem de_V_value_30 : decode by_V_value 30 = .ok (.athrow, 1) := by decide +kernel
theorem de_V_value_31 : decode by_V_value 31 = .ok (.aload_n 0, 1) := by decide +kernel
theorem de_V_value_32 : decode by_V_value 32 = .ok (.invokevirtual 145, 3) := by decide +kernel
theorem de_V_value_35 : decode by_V_value 35 = .ok (.istore_n 3, 1) := by decide +kernel
theorem de_V_value_36 : decode by_V_value 36 = .ok (.iload_n 3, 1) := by decide +kernel
theorem de_V_value_37 : decode by_V_value 37 = .ok (.ifCond .ne 13, 3) := by decide +kernel
theorem de_V_value_40 : decode by_V_value 40 = .ok (.new 157, 3) := by decide +kernel
theorem de_V_value_43 : decode by_V_value 43 = .ok (.dup, 1) := by decide +kernel
theorem de_V_value_44 : decode by_V_value 44 = .ok (.ldc 159, 2) := by decide +kernel
theorem de_V_value_46 : decode by_V_value 46 = .ok (.invokespecial 161, 3) := by decide +kernel
theorem de_V_value_49 : decode by_V_value 49 = .ok (.athrow, 1) := by decide +kernel
theorem de_V_value_50 : decode by_V_value 50 = .ok (.iload_n 2, 1) := by decide +kernel
theorem de_V_value_51 : decode by_V_value 51 = .ok (.ifCond .ne 12, 3) := by decide +kernel
theorem de_V_value_54 : decode by_V_value 54 = .ok (.aload_n 0, 1) := by decide +kernel
theorem de_V_value_55 : decode by_V_value 55 = .ok (.iload_n 1, 1) := by decide +kernel
theorem de_V_value_56 : decode by_V_value 56 = .ok (.iload_n 3, 1) := by decide +kernel
theorem de_V_value_57 : decode by_V_value 57 = .ok (.invokevirtual 162, 3) := by decide +kernel
theorem de_V_value_60 : decode by_V_value 60 = .ok (.goto 9, 3) := by decide +kernel
theorem de_V_value_63 : decode by_V_value 63 = .ok (.aload_n 0, 1) := by decide +kernel
theorem de_V_value_64 : decode by_V_value 64 = .ok (.getfield 56, 3) := by decide +kernel
theorem de_V_value_67 : decode by_V_value 67 = .ok (.iload_n 1, 1) := by decide +kernel
theorem de_V_value_68 : decode by_V_value 68 = .ok (.laload, 1) := by decide +kernel
theorem de_V_value_69 : decode by_V_value 69 = .ok (.lreturn, 1) := by decide +kernel
theorem de_V_transaction_0 : decode by_V_transaction 0 = .ok (.aload_n 0, 1) := by decide +kernel
theorem de_V_transaction_1 : decode by_V_transaction 1 = .ok (.getfield 10, 3) := by decide +kernel
theorem de_V_transaction_4 : decode by_V_transaction 4 = .ok (.iload_n 1, 1) := by decide +kernel
theorem de_V_transaction_5 : decode by_V_transaction 5 = .ok (.invokevirtual 149, 3) := by decide +kernel
theorem de_V_transaction_8 : decode by_V_transaction 8 = .ok (.ifCond .ne 13, 3) := by decide +kernel
theorem de_V_transaction_11 : decode by_V_transaction 11 = .ok (.new 152, 3) := by decide +kernel
theorem de_V_transaction_14 : decode by_V_transaction 14 = .ok (.dup, 1) := by decide +kernel
theorem de_V_transaction_15 : decode by_V_transaction 15 = .ok (.ldc 166, 2) := by decide +kernel
theorem de_V_transaction_17 : decode by_V_transaction 17 = .ok (.invokespecial 156, 3) := by decide +kernel
theorem de_V_transaction_20 : decode by_V_transaction 20 = .ok (.athrow, 1) := by decide +kernel
theorem de_V_transaction_21 : decode by_V_transaction 21 = .ok (.aload_n 0, 1) := by decide +kernel
theorem de_V_transaction_22 : decode by_V_transaction 22 = .ok (.invokevirtual 168, 3) := by decide +kernel
theorem de_V_transaction_25 : decode by_V_transaction 25 = .ok (.aload_n 0, 1) := by decide +kernel
theorem de_V_transaction_26 : decode by_V_transaction 26 = .ok (.getfield 56, 3) := by decide +kernel
theorem de_V_transaction_29 : decode by_V_transaction 29 = .ok (.iload_n 1, 1) := by decide +kernel
theorem de_V_transaction_30 : decode by_V_transaction 30 = .ok (.laload, 1) := by decide +kernel
theorem de_V_transaction_31 : decode by_V_transaction 31 = .ok (.lreturn, 1) := by decide +kernel
theorem de_V_share_0 : decode by_V_share 0 = .ok (.aload_n 0, 1) := by decide +kernel
theorem de_V_share_1 : decode by_V_share 1 = .ok (.getfield 10, 3) := by decide +kernel
theorem de_V_share_4 : decode by_V_share 4 = .ok (.iload_n 3, 1) := by decide +kernel
theorem de_V_share_5 : decode by_V_share 5 = .ok (.invokevirtual 149, 3) := by decide +kernel
theorem de_V_share_8 : decode by_V_share 8 = .ok (.ifCond .ne 13, 3) := by decide +kernel
theorem de_V_share_11 : decode by_V_share 11 = .ok (.new 152, 3) := by decide +kernel
theorem de_V_share_14 : decode by_V_share 14 = .ok (.dup, 1) := by decide +kernel
theorem de_V_share_15 : decode by_V_share 15 = .ok (.ldc 166, 2) := by decide +kernel
theorem de_V_share_17 : decode by_V_share 17 = .ok (.invokespecial 156, 3) := by decide +kernel
theorem de_V_share_20 : decode by_V_share 20 = .ok (.athrow, 1) := by decide +kernel
theorem de_V_share_21 : decode by_V_share 21 = .ok (.lload_n 1, 1) := by decide +kernel
theorem de_V_share_22 : decode by_V_share 22 = .ok (.lconst 0, 1) := by decide +kernel
theorem de_V_share_23 : decode by_V_share 23 = .ok (.ldc2_w 102, 3) := by decide +kernel
theorem de_V_share_26 : decode by_V_share 26 = .ok (.invokestatic 74, 3) := by decide +kernel
theorem de_V_share_29 : decode by_V_share 29 = .ok (.ifCond .ne 13, 3) := by decide +kernel
theorem de_V_share_32 : decode by_V_share 32 = .ok (.new 78, 3) := by decide +kernel
theorem de_V_share_35 : decode by_V_share 35 = .ok (.dup, 1) := by decide +kernel
theorem de_V_share_36 : decode by_V_share 36 = .ok (.ldc 171, 2) := by decide +kernel
theorem de_V_share_38 : decode by_V_share 38 = .ok (.invokespecial 82, 3) := by decide +kernel
theorem de_V_share_41 : decode by_V_share 41 = .ok (.athrow, 1) := by decide +kernel
theorem de_V_share_42 : decode by_V_share 42 = .ok (.aload_n 0, 1) := by decide +kernel
theorem de_V_share_43 : decode by_V_share 43 = .ok (.getfield 10, 3) := by decide +kernel
theorem de_V_share_46 : decode by_V_share 46 = .ok (.lload_n 1, 1) := by decide +kernel
theorem de_V_share_47 : decode by_V_share 47 = .ok (.iload 4, 2) := by decide +kernel
theorem de_V_share_49 : decode by_V_share 49 = .ok (.invokevirtual 173, 3) := by decide +kernel
theorem de_V_share_52 : decode by_V_share 52 = .ok (.aload_n 0, 1) := by decide +kernel
theorem de_V_share_53 : decode by_V_share 53 = .ok (.getfield 10, 3) := by decide +kernel
theorem de_V_share_56 : decode by_V_share 56 = .ok (.iload_n 3, 1) := by decide +kernel
theorem de_V_share_57 : decode by_V_share 57 = .ok (.invokevirtual 177, 3) := by decide +kernel
theorem de_V_share_60 : decode by_V_share 60 = .ok (.lreturn, 1) := by decide +kernel
theorem de_V_plain_0 : decode by_V_plain 0 = .ok (.aload_n 0, 1) := by decide +kernel
theorem de_V_plain_1 : decode by_V_plain 1 = .ok (.getfield 10, 3) := by decide +kernel
theorem de_V_plain_4 : decode by_V_plain 4 = .ok (.iload_n 3, 1) := by decide +kernel
theorem de_V_plain_5 : decode by_V_plain 5 = .ok (.invokevirtual 149, 3) := by decide +kernel
theorem de_V_plain_8 : decode by_V_plain 8 = .ok (.ifCond .ne 13, 3) := by decide +kernel
theorem de_V_plain_11 : decode by_V_plain 11 = .ok (.new 152, 3) := by decide +kernel
theorem de_V_plain_14 : decode by_V_plain 14 = .ok (.dup, 1) := by decide +kernel
theorem de_V_plain_15 : decode by_V_plain 15 = .ok (.ldc 166, 2) := by decide +kernel
theorem de_V_plain_17 : decode by_V_plain 17 = .ok (.invokespecial 156, 3) := by decide +kernel
theorem de_V_plain_20 : decode by_V_plain 20 = .ok (.athrow, 1) := by decide +kernel
theorem de_V_plain_21 : decode by_V_plain 21 = .ok (.lload_n 1, 1) := by decide +kernel
theorem de_V_plain_22 : decode by_V_plain 22 = .ok (.lconst 0, 1) := by decide +kernel
theorem de_V_plain_23 : decode by_V_plain 23 = .ok (.ldc2_w 102, 3) := by decide +kernel
theorem de_V_plain_26 : decode by_V_plain 26 = .ok (.invokestatic 74, 3) := by decide +kernel
theorem de_V_plain_29 : decode by_V_plain 29 = .ok (.ifCond .ne 13, 3) := by decide +kernel
theorem de_V_plain_32 : decode by_V_plain 32 = .ok (.new 78, 3) := by decide +kernel
theorem de_V_plain_35 : decode by_V_plain 35 = .ok (.dup, 1) := by decide +kernel
theorem de_V_plain_36 : decode by_V_plain 36 = .ok (.ldc 171, 2) := by decide +kernel
theorem de_V_plain_38 : decode by_V_plain 38 = .ok (.invokespecial 82, 3) := by decide +kernel
theorem de_V_plain_41 : decode by_V_plain 41 = .ok (.athrow, 1) := by decide +kernel
theorem de_V_plain_42 : decode by_V_plain 42 = .ok (.aload_n 0, 1) := by decide +kernel
theorem de_V_plain_43 : decode by_V_plain 43 = .ok (.getfield 10, 3) := by decide +kernel
theorem de_V_plain_46 : decode by_V_plain 46 = .ok (.invokevirtual 181, 3) := by decide +kernel
theorem de_V_plain_49 : decode by_V_plain 49 = .ok (.lstore 4, 2) := by decide +kernel
theorem de_V_plain_51 : decode by_V_plain 51 = .ok (.lload 4, 2) := by decide +kernel
theorem de_V_plain_53 : decode by_V_plain 53 = .ok (.lconst 0, 1) := by decide +kernel
theorem de_V_plain_54 : decode by_V_plain 54 = .ok (.lcmp, 1) := by decide +kernel
theorem de_V_plain_55 : decode by_V_plain 55 = .ok (.ifCond .ne 13, 3) := by decide +kernel
theorem de_V_plain_58 : decode by_V_plain 58 = .ok (.new 185, 3) := by decide +kernel
theorem de_V_plain_61 : decode by_V_plain 61 = .ok (.dup, 1) := by decide +kernel
theorem de_V_plain_62 : decode by_V_plain 62 = .ok (.ldc 187, 2) := by decide +kernel
theorem de_V_plain_64 : decode by_V_plain 64 = .ok (.invokespecial 189, 3) := by decide +kernel
theorem de_V_plain_67 : decode by_V_plain 67 = .ok (.athrow, 1) := by decide +kernel
theorem de_V_plain_68 : decode by_V_plain 68 = .ok (.lload_n 1, 1) := by decide +kernel
theorem de_V_plain_69 : decode by_V_plain 69 = .ok (.aload_n 0, 1) := by decide +kernel
theorem de_V_plain_70 : decode by_V_plain 70 = .ok (.getfield 10, 3) := by decide +kernel
theorem de_V_plain_73 : decode by_V_plain 73 = .ok (.iload_n 3, 1) := by decide +kernel
theorem de_V_plain_74 : decode by_V_plain 74 = .ok (.invokevirtual 190, 3) := by decide +kernel
theorem de_V_plain_77 : decode by_V_plain 77 = .ok (.lmul, 1) := by decide +kernel
theorem de_V_plain_78 : decode by_V_plain 78 = .ok (.lload 4, 2) := by decide +kernel
theorem de_V_plain_80 : decode by_V_plain 80 = .ok (.ldiv, 1) := by decide +kernel
theorem de_V_plain_81 : decode by_V_plain 81 = .ok (.lreturn, 1) := by decide +kernel
theorem de_V_count_0 : decode by_V_count 0 = .ok (.iload_n 1, 1) := by decide +kernel
theorem de_V_count_1 : decode by_V_count 1 = .ok (.tableswitch 113 0 6 #[43, 51, 59, 67, 72, 88, 96], 43) := by decide +kernel
theorem de_V_count_44 : decode by_V_count 44 = .ok (.aload_n 0, 1) := by decide +kernel
theorem de_V_count_45 : decode by_V_count 45 = .ok (.getfield 10, 3) := by decide +kernel
theorem de_V_count_48 : decode by_V_count 48 = .ok (.invokevirtual 193, 3) := by decide +kernel
theorem de_V_count_51 : decode by_V_count 51 = .ok (.ireturn, 1) := by decide +kernel
theorem de_V_count_52 : decode by_V_count 52 = .ok (.aload_n 0, 1) := by decide +kernel
theorem de_V_count_53 : decode by_V_count 53 = .ok (.getfield 21, 3) := by decide +kernel
theorem de_V_count_56 : decode by_V_count 56 = .ok (.invokevirtual 196, 3) := by decide +kernel
theorem de_V_count_59 : decode by_V_count 59 = .ok (.ireturn, 1) := by decide +kernel
theorem de_V_count_60 : decode by_V_count 60 = .ok (.aload_n 0, 1) := by decide +kernel
theorem de_V_count_61 : decode by_V_count 61 = .ok (.getfield 25, 3) := by decide +kernel
theorem de_V_count_64 : decode by_V_count 64 = .ok (.invokevirtual 196, 3) := by decide +kernel
theorem de_V_count_67 : decode by_V_count 67 = .ok (.ireturn, 1) := by decide +kernel
theorem de_V_count_68 : decode by_V_count 68 = .ok (.aload_n 0, 1) := by decide +kernel
theorem de_V_count_69 : decode by_V_count 69 = .ok (.invokevirtual 199, 3) := by decide +kernel
theorem de_V_count_72 : decode by_V_count 72 = .ok (.ireturn, 1) := by decide +kernel
theorem de_V_count_73 : decode by_V_count 73 = .ok (.aload_n 0, 1) := by decide +kernel
theorem de_V_count_74 : decode by_V_count 74 = .ok (.getfield 31, 3) := by decide +kernel
theorem de_V_count_77 : decode by_V_count 77 = .ok (.aload_n 0, 1) := by decide +kernel
theorem de_V_count_78 : decode by_V_count 78 = .ok (.getfield 59, 3) := by decide +kernel
theorem de_V_count_81 : decode by_V_count 81 = .ok (.aload_n 0, 1) := by decide +kernel
theorem de_V_count_82 : decode by_V_count 82 = .ok (.getfield 63, 3) := by decide +kernel
theorem de_V_count_85 : decode by_V_count 85 = .ok (.invokevirtual 202, 3) := by decide +kernel
theorem de_V_count_88 : decode by_V_count 88 = .ok (.ireturn, 1) := by decide +kernel
theorem de_V_count_89 : decode by_V_count 89 = .ok (.aload_n 0, 1) := by decide +kernel
theorem de_V_count_90 : decode by_V_count 90 = .ok (.getfield 31, 3) := by decide +kernel
theorem de_V_count_93 : decode by_V_count 93 = .ok (.invokevirtual 206, 3) := by decide +kernel
theorem de_V_count_96 : decode by_V_count 96 = .ok (.ireturn, 1) := by decide +kernel
theorem de_V_count_97 : decode by_V_count 97 = .ok (.aload_n 0, 1) := by decide +kernel
theorem de_V_count_98 : decode by_V_count 98 = .ok (.invokevirtual 168, 3) := by decide +kernel
theorem de_V_count_101 : decode by_V_count 101 = .ok (.aload_n 0, 1) := by decide +kernel
theorem de_V_count_102 : decode by_V_count 102 = .ok (.invokevirtual 207, 3) := by decide +kernel
theorem de_V_count_105 : decode by_V_count 105 = .ok (.ifCond .eq 7, 3) := by decide +kernel
theorem de_V_count_108 : decode by_V_count 108 = .ok (.iconst 1, 1) := by decide +kernel
theorem de_V_count_109 : decode by_V_count 109 = .ok (.goto 4, 3) := by decide +kernel
theorem de_V_count_112 : decode by_V_count 112 = .ok (.iconst 0, 1) := by decide +kernel
theorem de_V_count_113 : decode by_V_count 113 = .ok (.ireturn, 1) := by decide +kernel
theorem de_V_count_114 : decode by_V_count 114 = .ok (.iconst (-1), 1) := by decide +kernel
theorem de_V_count_115 : decode by_V_count 115 = .ok (.ireturn, 1) := by decide +kernel
theorem de_V_sum_0 : decode by_V_sum 0 = .ok (.iload_n 1, 1) := by decide +kernel
theorem de_V_sum_1 : decode by_V_sum 1 = .ok (.tableswitch 119 0 6 #[43, 51, 59, 67, 75, 80, 101], 43) := by decide +kernel
theorem de_V_sum_44 : decode by_V_sum 44 = .ok (.aload_n 0, 1) := by decide +kernel
theorem de_V_sum_45 : decode by_V_sum 45 = .ok (.getfield 10, 3) := by decide +kernel
theorem de_V_sum_48 : decode by_V_sum 48 = .ok (.invokevirtual 181, 3) := by decide +kernel
theorem de_V_sum_51 : decode by_V_sum 51 = .ok (.lreturn, 1) := by decide +kernel
theorem de_V_sum_52 : decode by_V_sum 52 = .ok (.aload_n 0, 1) := by decide +kernel
theorem de_V_sum_53 : decode by_V_sum 53 = .ok (.getfield 10, 3) := by decide +kernel
theorem de_V_sum_56 : decode by_V_sum 56 = .ok (.invokevirtual 210, 3) := by decide +kernel
theorem de_V_sum_59 : decode by_V_sum 59 = .ok (.lreturn, 1) := by decide +kernel
theorem de_V_sum_60 : decode by_V_sum 60 = .ok (.aload_n 0, 1) := by decide +kernel
theorem de_V_sum_61 : decode by_V_sum 61 = .ok (.getfield 21, 3) := by decide +kernel
theorem de_V_sum_64 : decode by_V_sum 64 = .ok (.invokevirtual 213, 3) := by decide +kernel
theorem de_V_sum_67 : decode by_V_sum 67 = .ok (.lreturn, 1) := by decide +kernel
theorem de_V_sum_68 : decode by_V_sum 68 = .ok (.aload_n 0, 1) := by decide +kernel
theorem de_V_sum_69 : decode by_V_sum 69 = .ok (.getfield 25, 3) := by decide +kernel
theorem de_V_sum_72 : decode by_V_sum 72 = .ok (.invokevirtual 213, 3) := by decide +kernel
theorem de_V_sum_75 : decode by_V_sum 75 = .ok (.lreturn, 1) := by decide +kernel
theorem de_V_sum_76 : decode by_V_sum 76 = .ok (.aload_n 0, 1) := by decide +kernel
theorem de_V_sum_77 : decode by_V_sum 77 = .ok (.invokevirtual 216, 3) := by decide +kernel
theorem de_V_sum_80 : decode by_V_sum 80 = .ok (.lreturn, 1) := by decide +kernel
theorem de_V_sum_81 : decode by_V_sum 81 = .ok (.aload_n 0, 1) := by decide +kernel
theorem de_V_sum_82 : decode by_V_sum 82 = .ok (.invokevirtual 145, 3) := by decide +kernel
theorem de_V_sum_85 : decode by_V_sum 85 = .ok (.istore_n 2, 1) := by decide +kernel
theorem de_V_sum_86 : decode by_V_sum 86 = .ok (.iload_n 2, 1) := by decide +kernel
theorem de_V_sum_87 : decode by_V_sum 87 = .ok (.ifCond .ne 9, 3) := by decide +kernel
theorem de_V_sum_90 : decode by_V_sum 90 = .ok (.ldc2_w 66, 3) := by decide +kernel
theorem de_V_sum_93 : decode by_V_sum 93 = .ok (.goto 8, 3) := by decide +kernel
theorem de_V_sum_96 : decode by_V_sum 96 = .ok (.aload_n 0, 1) := by decide +kernel
theorem de_V_sum_97 : decode by_V_sum 97 = .ok (.iload_n 2, 1) := by decide +kernel
theorem de_V_sum_98 : decode by_V_sum 98 = .ok (.invokevirtual 219, 3) := by decide +kernel
theorem de_V_sum_101 : decode by_V_sum 101 = .ok (.lreturn, 1) := by decide +kernel
theorem de_V_sum_102 : decode by_V_sum 102 = .ok (.aload_n 0, 1) := by decide +kernel
theorem de_V_sum_103 : decode by_V_sum 103 = .ok (.invokevirtual 145, 3) := by decide +kernel
theorem de_V_sum_106 : decode by_V_sum 106 = .ok (.ifCond .ne 9, 3) := by decide +kernel
theorem de_V_sum_109 : decode by_V_sum 109 = .ok (.ldc2_w 66, 3) := by decide +kernel
theorem de_V_sum_112 : decode by_V_sum 112 = .ok (.goto 7, 3) := by decide +kernel
theorem de_V_sum_115 : decode by_V_sum 115 = .ok (.aload_n 0, 1) := by decide +kernel
theorem de_V_sum_116 : decode by_V_sum 116 = .ok (.invokevirtual 222, 3) := by decide +kernel
theorem de_V_sum_119 : decode by_V_sum 119 = .ok (.lreturn, 1) := by decide +kernel
theorem de_V_sum_120 : decode by_V_sum 120 = .ok (.ldc2_w 66, 3) := by decide +kernel
theorem de_V_sum_123 : decode by_V_sum 123 = .ok (.lreturn, 1) := by decide +kernel
theorem de_V_findMethod_0 : decode by_V_findMethod 0 = .ok (.aload_n 0, 1) := by decide +kernel
theorem de_V_findMethod_1 : decode by_V_findMethod 1 = .ok (.getfield 10, 3) := by decide +kernel
theorem de_V_findMethod_4 : decode by_V_findMethod 4 = .ok (.invokevirtual 193, 3) := by decide +kernel
theorem de_V_findMethod_7 : decode by_V_findMethod 7 = .ok (.ifCond .ne 5, 3) := by decide +kernel
theorem de_V_findMethod_10 : decode by_V_findMethod 10 = .ok (.iconst 0, 1) := by decide +kernel
theorem de_V_findMethod_11 : decode by_V_findMethod 11 = .ok (.ireturn, 1) := by decide +kernel
theorem de_V_findMethod_12 : decode by_V_findMethod 12 = .ok (.aload_n 0, 1) := by decide +kernel
theorem de_V_findMethod_13 : decode by_V_findMethod 13 = .ok (.getfield 42, 3) := by decide +kernel
theorem de_V_findMethod_16 : decode by_V_findMethod 16 = .ok (.iconst 1, 1) := by decide +kernel
theorem de_V_findMethod_17 : decode by_V_findMethod 17 = .ok (.baload, 1) := by decide +kernel
theorem de_V_findMethod_18 : decode by_V_findMethod 18 = .ok (.ifCond .eq 23, 3) := by decide +kernel
theorem de_V_findMethod_21 : decode by_V_findMethod 21 = .ok (.aload_n 0, 1) := by decide +kernel
theorem de_V_findMethod_22 : decode by_V_findMethod 22 = .ok (.invokevirtual 168, 3) := by decide +kernel
theorem de_V_findMethod_25 : decode by_V_findMethod 25 = .ok (.aload_n 0, 1) := by decide +kernel
theorem de_V_findMethod_26 : decode by_V_findMethod 26 = .ok (.invokevirtual 225, 3) := by decide +kernel
theorem de_V_findMethod_29 : decode by_V_findMethod 29 = .ok (.ifCond .eq 12, 3) := by decide +kernel
theorem de_V_findMethod_32 : decode by_V_findMethod 32 = .ok (.aload_n 0, 1) := by decide +kernel
theorem de_V_findMethod_33 : decode by_V_findMethod 33 = .ok (.invokevirtual 207, 3) := by decide +kernel
theorem de_V_findMethod_36 : decode by_V_findMethod 36 = .ok (.ifCond .eq 5, 3) := by decide +kernel
theorem de_V_findMethod_39 : decode by_V_findMethod 39 = .ok (.iconst 1, 1) := by decide +kernel
theorem de_V_findMethod_40 : decode by_V_findMethod 40 = .ok (.ireturn, 1) := by decide +kernel
theorem de_V_findMethod_41 : decode by_V_findMethod 41 = .ok (.aload_n 0, 1) := by decide +kernel
theorem de_V_findMethod_42 : decode by_V_findMethod 42 = .ok (.getfield 142, 3) := by decide +kernel
theorem de_V_findMethod_45 : decode by_V_findMethod 45 = .ok (.ifCond .eq 9, 3) := by decide +kernel
theorem de_V_findMethod_48 : decode by_V_findMethod 48 = .ok (.getstatic 228, 3) := by decide +kernel
theorem de_V_findMethod_51 : decode by_V_findMethod 51 = .ok (.goto 6, 3) := by decide +kernel
theorem de_V_findMethod_54 : decode by_V_findMethod 54 = .ok (.getstatic 232, 3) := by decide +kernel
theorem de_V_findMethod_57 : decode by_V_findMethod 57 = .ok (.astore_n 1, 1) := by decide +kernel
theorem de_V_findMethod_58 : decode by_V_findMethod 58 = .ok (.aload_n 1, 1) := by decide +kernel
theorem de_V_findMethod_59 : decode by_V_findMethod 59 = .ok (.astore_n 2, 1) := by decide +kernel
theorem de_V_findMethod_60 : decode by_V_findMethod 60 = .ok (.aload_n 2, 1) := by decide +kernel
theorem de_V_findMethod_61 : decode by_V_findMethod 61 = .ok (.arraylength, 1) := by decide +kernel
theorem de_V_findMethod_62 : decode by_V_findMethod 62 = .ok (.istore_n 3, 1) := by decide +kernel
theorem de_V_findMethod_63 : decode by_V_findMethod 63 = .ok (.iconst 0, 1) := by decide +kernel
theorem de_V_findMethod_64 : decode by_V_findMethod 64 = .ok (.istore 4, 2) := by decide +kernel
theorem de_V_findMethod_66 : decode by_V_findMethod 66 = .ok (.iload 4, 2) := by decide +kernel
theorem de_V_findMethod_68 : decode by_V_findMethod 68 = .ok (.iload_n 3, 1) := by decide +kernel
theorem de_V_findMethod_69 : decode by_V_findMethod 69 = .ok (.if_icmp .ge 47, 3) := by decide +kernel
theorem de_V_findMethod_72 : decode by_V_findMethod 72 = .ok (.aload_n 2, 1) := by decide +kernel
theorem de_V_findMethod_73 : decode by_V_findMethod 73 = .ok (.iload 4, 2) := by decide +kernel
theorem de_V_findMethod_75 : decode by_V_findMethod 75 = .ok (.iaload, 1) := by decide +kernel
theorem de_V_findMethod_76 : decode by_V_findMethod 76 = .ok (.istore 5, 2) := by decide +kernel
theorem de_V_findMethod_78 : decode by_V_findMethod 78 = .ok (.aload_n 0, 1) := by decide +kernel
theorem de_V_findMethod_79 : decode by_V_findMethod 79 = .ok (.getfield 42, 3) := by decide +kernel
theorem de_V_findMethod_82 : decode by_V_findMethod 82 = .ok (.iload 5, 2) := by decide +kernel
theorem de_V_findMethod_84 : decode by_V_findMethod 84 = .ok (.baload, 1) := by decide +kernel
theorem de_V_findMethod_85 : decode by_V_findMethod 85 = .ok (.ifCond .eq 25, 3) := by decide +kernel
theorem de_V_findMethod_88 : decode by_V_findMethod 88 = .ok (.aload_n 0, 1) := by decide +kernel
theorem de_V_findMethod_89 : decode by_V_findMethod 89 = .ok (.getfield 46, 3) := by decide +kernel
theorem de_V_findMethod_92 : decode by_V_findMethod 92 = .ok (.iload 5, 2) := by decide +kernel
theorem de_V_findMethod_94 : decode by_V_findMethod 94 = .ok (.baload, 1) := by decide +kernel
theorem de_V_findMethod_95 : decode by_V_findMethod 95 = .ok (.ifCond .eq 15, 3) := by decide +kernel
theorem de_V_findMethod_98 : decode by_V_findMethod 98 = .ok (.aload_n 0, 1) := by decide +kernel
theorem de_V_findMethod_99 : decode by_V_findMethod 99 = .ok (.iload 5, 2) := by decide +kernel
theorem de_V_findMethod_101 : decode by_V_findMethod 101 = .ok (.invokevirtual 235, 3) := by decide +kernel
theorem de_V_findMethod_104 : decode by_V_findMethod 104 = .ok (.ifCond .eq 6, 3) := by decide +kernel
theorem de_V_findMethod_107 : decode by_V_findMethod 107 = .ok (.iload 5, 2) := by decide +kernel
theorem de_V_findMethod_109 : decode by_V_findMethod 109 = .ok (.ireturn, 1) := by decide +kernel
theorem de_V_findMethod_110 : decode by_V_findMethod 110 = .ok (.iinc 4 1, 3) := by decide +kernel
theorem de_V_findMethod_113 : decode by_V_findMethod 113 = .ok (.goto (-47), 3) := by decide +kernel
theorem de_V_findMethod_116 : decode by_V_findMethod 116 = .ok (.iconst 0, 1) := by decide +kernel
theorem de_V_findMethod_117 : decode by_V_findMethod 117 = .ok (.ireturn, 1) := by decide +kernel
theorem de_V_fillTransaction_0 : decode by_V_fillTransaction 0 = .ok (.iconst 0, 1) := by decide +kernel
theorem de_V_fillTransaction_1 : decode by_V_fillTransaction 1 = .ok (.istore_n 1, 1) := by decide +kernel
theorem de_V_fillTransaction_2 : decode by_V_fillTransaction 2 = .ok (.iload_n 1, 1) := by decide +kernel
theorem de_V_fillTransaction_3 : decode by_V_fillTransaction 3 = .ok (.aload_n 0, 1) := by decide +kernel
theorem de_V_fillTransaction_4 : decode by_V_fillTransaction 4 = .ok (.getfield 10, 3) := by decide +kernel
theorem de_V_fillTransaction_7 : decode by_V_fillTransaction 7 = .ok (.invokevirtual 193, 3) := by decide +kernel
theorem de_V_fillTransaction_10 : decode by_V_fillTransaction 10 = .ok (.if_icmp .ge 23, 3) := by decide +kernel
theorem de_V_fillTransaction_13 : decode by_V_fillTransaction 13 = .ok (.aload_n 0, 1) := by decide +kernel
theorem de_V_fillTransaction_14 : decode by_V_fillTransaction 14 = .ok (.getfield 56, 3) := by decide +kernel
theorem de_V_fillTransaction_17 : decode by_V_fillTransaction 17 = .ok (.iload_n 1, 1) := by decide +kernel
theorem de_V_fillTransaction_18 : decode by_V_fillTransaction 18 = .ok (.aload_n 0, 1) := by decide +kernel
theorem de_V_fillTransaction_19 : decode by_V_fillTransaction 19 = .ok (.getfield 10, 3) := by decide +kernel
theorem de_V_fillTransaction_22 : decode by_V_fillTransaction 22 = .ok (.iload_n 1, 1) := by decide +kernel
theorem de_V_fillTransaction_23 : decode by_V_fillTransaction 23 = .ok (.invokevirtual 238, 3) := by decide +kernel
theorem de_V_fillTransaction_26 : decode by_V_fillTransaction 26 = .ok (.lastore, 1) := by decide +kernel
theorem de_V_fillTransaction_27 : decode by_V_fillTransaction 27 = .ok (.iinc 1 1, 3) := by decide +kernel
theorem de_V_fillTransaction_30 : decode by_V_fillTransaction 30 = .ok (.goto (-28), 3) := by decide +kernel
theorem de_V_fillTransaction_33 : decode by_V_fillTransaction 33 = .ok (.aload_n 0, 1) := by decide +kernel
theorem de_V_fillTransaction_34 : decode by_V_fillTransaction 34 = .ok (.aload_n 0, 1) := by decide +kernel
theorem de_V_fillTransaction_35 : decode by_V_fillTransaction 35 = .ok (.invokevirtual 216, 3) := by decide +kernel
theorem de_V_fillTransaction_38 : decode by_V_fillTransaction 38 = .ok (.iconst 0, 1) := by decide +kernel
theorem de_V_fillTransaction_39 : decode by_V_fillTransaction 39 = .ok (.iconst (-1), 1) := by decide +kernel
theorem de_V_fillTransaction_40 : decode by_V_fillTransaction 40 = .ok (.invokevirtual 241, 3) := by decide +kernel
theorem de_V_fillTransaction_43 : decode by_V_fillTransaction 43 = .ok (.aload_n 0, 1) := by decide +kernel
theorem de_V_fillTransaction_44 : decode by_V_fillTransaction 44 = .ok (.aload_n 0, 1) := by decide +kernel
theorem de_V_fillTransaction_45 : decode by_V_fillTransaction 45 = .ok (.getfield 21, 3) := by decide +kernel
theorem de_V_fillTransaction_48 : decode by_V_fillTransaction 48 = .ok (.iconst 1, 1) := by decide +kernel
theorem de_V_fillTransaction_49 : decode by_V_fillTransaction 49 = .ok (.invokevirtual 245, 3) := by decide +kernel
theorem de_V_fillTransaction_52 : decode by_V_fillTransaction 52 = .ok (.aload_n 0, 1) := by decide +kernel
theorem de_V_fillTransaction_53 : decode by_V_fillTransaction 53 = .ok (.aload_n 0, 1) := by decide +kernel
theorem de_V_fillTransaction_54 : decode by_V_fillTransaction 54 = .ok (.getfield 25, 3) := by decide +kernel
theorem de_V_fillTransaction_57 : decode by_V_fillTransaction 57 = .ok (.iconst (-1), 1) := by decide +kernel
theorem de_V_fillTransaction_58 : decode by_V_fillTransaction 58 = .ok (.invokevirtual 245, 3) := by decide +kernel
theorem de_V_fillTransaction_61 : decode by_V_fillTransaction 61 = .ok (.return_, 1) := by decide +kernel
theorem de_V_mixInAll_0 : decode by_V_mixInAll 0 = .ok (.iconst 0, 1) := by decide +kernel
theorem de_V_mixInAll_1 : decode by_V_mixInAll 1 = .ok (.istore_n 3, 1) := by decide +kernel
theorem de_V_mixInAll_2 : decode by_V_mixInAll 2 = .ok (.iload_n 3, 1) := by decide +kernel
theorem de_V_mixInAll_3 : decode by_V_mixInAll 3 = .ok (.aload_n 1, 1) := by decide +kernel
theorem de_V_mixInAll_4 : decode by_V_mixInAll 4 = .ok (.invokevirtual 249, 3) := by decide +kernel
theorem de_V_mixInAll_7 : decode by_V_mixInAll 7 = .ok (.if_icmp .ge 24, 3) := by decide +kernel
theorem de_V_mixInAll_10 : decode by_V_mixInAll 10 = .ok (.aload_n 0, 1) := by decide +kernel
theorem de_V_mixInAll_11 : decode by_V_mixInAll 11 = .ok (.aload_n 1, 1) := by decide +kernel
theorem de_V_mixInAll_12 : decode by_V_mixInAll 12 = .ok (.iload_n 3, 1) := by decide +kernel
theorem de_V_mixInAll_13 : decode by_V_mixInAll 13 = .ok (.invokevirtual 252, 3) := by decide +kernel
theorem de_V_mixInAll_16 : decode by_V_mixInAll 16 = .ok (.aload_n 1, 1) := by decide +kernel
theorem de_V_mixInAll_17 : decode by_V_mixInAll 17 = .ok (.iload_n 3, 1) := by decide +kernel
theorem de_V_mixInAll_18 : decode by_V_mixInAll 18 = .ok (.invokevirtual 255, 3) := by decide +kernel
theorem de_V_mixInAll_21 : decode by_V_mixInAll 21 = .ok (.iload_n 2, 1) := by decide +kernel
theorem de_V_mixInAll_22 : decode by_V_mixInAll 22 = .ok (.invokevirtual 241, 3) := by decide +kernel
theorem de_V_mixInAll_25 : decode by_V_mixInAll 25 = .ok (.iinc 3 1, 3) := by decide +kernel
theorem de_V_mixInAll_28 : decode by_V_mixInAll 28 = .ok (.goto (-26), 3) := by decide +kernel
theorem de_V_mixInAll_31 : decode by_V_mixInAll 31 = .ok (.return_, 1) := by decide +kernel
theorem de_V_mixIn_0 : decode by_V_mixIn 0 = .ok (.lload_n 1, 1) := by decide +kernel
theorem de_V_mixIn_1 : decode by_V_mixIn 1 = .ok (.lconst 0, 1) := by decide +kernel
theorem de_V_mixIn_2 : decode by_V_mixIn 2 = .ok (.lcmp, 1) := by decide +kernel
theorem de_V_mixIn_3 : decode by_V_mixIn 3 = .ok (.ifCond .ne 4, 3) := by decide +kernel
theorem de_V_mixIn_6 : decode by_V_mixIn 6 = .ok (.return_, 1) := by decide +kernel
theorem de_V_mixIn_7 : decode by_V_mixIn 7 = .ok (.aload_n 0, 1) := by decide +kernel
theorem de_V_mixIn_8 : decode by_V_mixIn 8 = .ok (.getfield 10, 3) := by decide +kernel
theorem de_V_mixIn_11 : decode by_V_mixIn 11 = .ok (.lload_n 1, 1) := by decide +kernel
theorem de_V_mixIn_12 : decode by_V_mixIn 12 = .ok (.iload_n 3, 1) := by decide +kernel
theorem de_V_mixIn_13 : decode by_V_mixIn 13 = .ok (.invokevirtual 173, 3) := by decide +kernel
theorem de_V_mixIn_16 : decode by_V_mixIn 16 = .ok (.iconst 0, 1) := by decide +kernel
theorem de_V_mixIn_17 : decode by_V_mixIn 17 = .ok (.istore 5, 2) := by decide +kernel
theorem de_V_mixIn_19 : decode by_V_mixIn 19 = .ok (.iload 5, 2) := by decide +kernel
theorem de_V_mixIn_21 : decode by_V_mixIn 21 = .ok (.aload_n 0, 1) := by decide +kernel
theorem de_V_mixIn_22 : decode by_V_mixIn 22 = .ok (.getfield 10, 3) := by decide +kernel
theorem de_V_mixIn_25 : decode by_V_mixIn 25 = .ok (.invokevirtual 193, 3) := by decide +kernel
theorem de_V_mixIn_28 : decode by_V_mixIn 28 = .ok (.if_icmp .ge 32, 3) := by decide +kernel
theorem de_V_mixIn_31 : decode by_V_mixIn 31 = .ok (.aload_n 0, 1) := by decide +kernel
theorem de_V_mixIn_32 : decode by_V_mixIn 32 = .ok (.getfield 56, 3) := by decide +kernel
theorem de_V_mixIn_35 : decode by_V_mixIn 35 = .ok (.iload 5, 2) := by decide +kernel
theorem de_V_mixIn_37 : decode by_V_mixIn 37 = .ok (.dup2, 1) := by decide +kernel
theorem de_V_mixIn_38 : decode by_V_mixIn 38 = .ok (.laload, 1) := by decide +kernel
theorem de_V_mixIn_39 : decode by_V_mixIn 39 = .ok (.iload 4, 2) := by decide +kernel
theorem de_V_mixIn_41 : decode by_V_mixIn 41 = .ok (.i2l, 1) := by decide +kernel
theorem de_V_mixIn_42 : decode by_V_mixIn 42 = .ok (.aload_n 0, 1) := by decide +kernel
theorem de_V_mixIn_43 : decode by_V_mixIn 43 = .ok (.getfield 10, 3) := by decide +kernel
theorem de_V_mixIn_46 : decode by_V_mixIn 46 = .ok (.iload 5, 2) := by decide +kernel
theorem de_V_mixIn_48 : decode by_V_mixIn 48 = .ok (.invokevirtual 177, 3) := by decide +kernel
theorem de_V_mixIn_51 : decode by_V_mixIn 51 = .ok (.lmul, 1) := by decide +kernel
theorem de_V_mixIn_52 : decode by_V_mixIn 52 = .ok (.ladd, 1) := by decide +kernel
theorem de_V_mixIn_53 : decode by_V_mixIn 53 = .ok (.lastore, 1) := by decide +kernel
theorem de_V_mixIn_54 : decode by_V_mixIn 54 = .ok (.iinc 5 1, 3) := by decide +kernel
theorem de_V_mixIn_57 : decode by_V_mixIn 57 = .ok (.goto (-38), 3) := by decide +kernel
theorem de_V_mixIn_60 : decode by_V_mixIn 60 = .ok (.return_, 1) := by decide +kernel
theorem de_V_noValueBelowZero_0 : decode by_V_noValueBelowZero 0 = .ok (.iconst 0, 1) := by decide +kernel
theorem de_V_noValueBelowZero_1 : decode by_V_noValueBelowZero 1 = .ok (.istore_n 1, 1) := by decide +kernel
theorem de_V_noValueBelowZero_2 : decode by_V_noValueBelowZero 2 = .ok (.iload_n 1, 1) := by decide +kernel
theorem de_V_noValueBelowZero_3 : decode by_V_noValueBelowZero 3 = .ok (.aload_n 0, 1) := by decide +kernel
theorem de_V_noValueBelowZero_4 : decode by_V_noValueBelowZero 4 = .ok (.getfield 10, 3) := by decide +kernel
theorem de_V_noValueBelowZero_7 : decode by_V_noValueBelowZero 7 = .ok (.invokevirtual 193, 3) := by decide +kernel
theorem de_V_noValueBelowZero_10 : decode by_V_noValueBelowZero 10 = .ok (.if_icmp .ge 22, 3) := by decide +kernel
theorem de_V_noValueBelowZero_13 : decode by_V_noValueBelowZero 13 = .ok (.aload_n 0, 1) := by decide +kernel
theorem de_V_noValueBelowZero_14 : decode by_V_noValueBelowZero 14 = .ok (.getfield 56, 3) := by decide +kernel
theorem de_V_noValueBelowZero_17 : decode by_V_noValueBelowZero 17 = .ok (.iload_n 1, 1) := by decide +kernel
theorem de_V_noValueBelowZero_18 : decode by_V_noValueBelowZero 18 = .ok (.laload, 1) := by decide +kernel
theorem de_V_noValueBelowZero_19 : decode by_V_noValueBelowZero 19 = .ok (.lconst 0, 1) := by decide +kernel
theorem de_V_noValueBelowZero_20 : decode by_V_noValueBelowZero 20 = .ok (.lcmp, 1) := by decide +kernel
theorem de_V_noValueBelowZero_21 : decode by_V_noValueBelowZero 21 = .ok (.ifCond .ge 5, 3) := by decide +kernel
theorem de_V_noValueBelowZero_24 : decode by_V_noValueBelowZero 24 = .ok (.iconst 0, 1) := by decide +kernel
theorem de_V_noValueBelowZero_25 : decode by_V_noValueBelowZero 25 = .ok (.ireturn, 1) := by decide +kernel
theorem de_V_noValueBelowZero_26 : decode by_V_noValueBelowZero 26 = .ok (.iinc 1 1, 3) := by decide +kernel
theorem de_V_noValueBelowZero_29 : decode by_V_noValueBelowZero 29 = .ok (.goto (-27), 3) := by decide +kernel
theorem de_V_noValueBelowZero_32 : decode by_V_noValueBelowZero 32 = .ok (.iconst 1, 1) := by decide +kernel
theorem de_V_noValueBelowZero_33 : decode by_V_noValueBelowZero 33 = .ok (.ireturn, 1) := by decide +kernel
theorem de_V_passesTest_0 : decode by_V_passesTest 0 = .ok (.aload_n 0, 1) := by decide +kernel
theorem de_V_passesTest_1 : decode by_V_passesTest 1 = .ok (.getfield 135, 3) := by decide +kernel
theorem de_V_passesTest_4 : decode by_V_passesTest 4 = .ok (.ifCond .ne 5, 3) := by decide +kernel
theorem de_V_passesTest_7 : decode by_V_passesTest 7 = .ok (.iconst 1, 1) := by decide +kernel
theorem de_V_passesTest_8 : decode by_V_passesTest 8 = .ok (.ireturn, 1) := by decide +kernel
theorem de_V_passesTest_9 : decode by_V_passesTest 9 = .ok (.aload_n 0, 1) := by decide +kernel
theorem de_V_passesTest_10 : decode by_V_passesTest 10 = .ok (.getfield 68, 3) := by decide +kernel
theorem de_V_passesTest_13 : decode by_V_passesTest 13 = .ok (.ldc2_w 66, 3) := by decide +kernel
theorem de_V_passesTest_16 : decode by_V_passesTest 16 = .ok (.lcmp, 1) := by decide +kernel
theorem de_V_passesTest_17 : decode by_V_passesTest 17 = .ok (.ifCond .ne 5, 3) := by decide +kernel
theorem de_V_passesTest_20 : decode by_V_passesTest 20 = .ok (.iconst 0, 1) := by decide +kernel
theorem de_V_passesTest_21 : decode by_V_passesTest 21 = .ok (.ireturn, 1) := by decide +kernel
theorem de_V_passesTest_22 : decode by_V_passesTest 22 = .ok (.aload_n 0, 1) := by decide +kernel
theorem de_V_passesTest_23 : decode by_V_passesTest 23 = .ok (.invokevirtual 222, 3) := by decide +kernel
theorem de_V_passesTest_26 : decode by_V_passesTest 26 = .ok (.aload_n 0, 1) := by decide +kernel
theorem de_V_passesTest_27 : decode by_V_passesTest 27 = .ok (.getfield 68, 3) := by decide +kernel
theorem de_V_passesTest_30 : decode by_V_passesTest 30 = .ok (.lsub, 1) := by decide +kernel
theorem de_V_passesTest_31 : decode by_V_passesTest 31 = .ok (.invokestatic 258, 3) := by decide +kernel
theorem de_V_passesTest_34 : decode by_V_passesTest 34 = .ok (.ldc2_w 114, 3) := by decide +kernel
theorem de_V_passesTest_37 : decode by_V_passesTest 37 = .ok (.lmul, 1) := by decide +kernel
theorem de_V_passesTest_38 : decode by_V_passesTest 38 = .ok (.aload_n 0, 1) := by decide +kernel
theorem de_V_passesTest_39 : decode by_V_passesTest 39 = .ok (.getfield 68, 3) := by decide +kernel
theorem de_V_passesTest_42 : decode by_V_passesTest 42 = .ok (.aload_n 0, 1) := by decide +kernel
theorem de_V_passesTest_43 : decode by_V_passesTest 43 = .ok (.getfield 139, 3) := by decide +kernel
theorem de_V_passesTest_46 : decode by_V_passesTest 46 = .ok (.i2l, 1) := by decide +kernel
theorem de_V_passesTest_47 : decode by_V_passesTest 47 = .ok (.lmul, 1) := by decide +kernel
theorem de_V_passesTest_48 : decode by_V_passesTest 48 = .ok (.lcmp, 1) := by decide +kernel
theorem de_V_passesTest_49 : decode by_V_passesTest 49 = .ok (.ifCond .gt 7, 3) := by decide +kernel
theorem de_V_passesTest_52 : decode by_V_passesTest 52 = .ok (.iconst 1, 1) := by decide +kernel
theorem de_V_passesTest_53 : decode by_V_passesTest 53 = .ok (.goto 4, 3) := by decide +kernel
theorem de_V_passesTest_56 : decode by_V_passesTest 56 = .ok (.iconst 0, 1) := by decide +kernel
theorem de_V_passesTest_57 : decode by_V_passesTest 57 = .ok (.ireturn, 1) := by decide +kernel
theorem de_V_fillByFigures_0 : decode by_V_fillByFigures 0 = .ok (.aload_n 0, 1) := by decide +kernel
theorem de_V_fillByFigures_1 : decode by_V_fillByFigures 1 = .ok (.getfield 49, 3) := by decide +kernel
theorem de_V_fillByFigures_4 : decode by_V_fillByFigures 4 = .ok (.iload_n 1, 1) := by decide +kernel
theorem de_V_fillByFigures_5 : decode by_V_fillByFigures 5 = .ok (.laload, 1) := by decide +kernel
theorem de_V_fillByFigures_6 : decode by_V_fillByFigures 6 = .ok (.lstore_n 2, 1) := by decide +kernel
theorem de_V_fillByFigures_7 : decode by_V_fillByFigures 7 = .ok (.aload_n 0, 1) := by decide +kernel
theorem de_V_fillByFigures_8 : decode by_V_fillByFigures 8 = .ok (.getfield 53, 3) := by decide +kernel
theorem de_V_fillByFigures_11 : decode by_V_fillByFigures 11 = .ok (.iload_n 1, 1) := by decide +kernel
theorem de_V_fillByFigures_12 : decode by_V_fillByFigures 12 = .ok (.laload, 1) := by decide +kernel
theorem de_V_fillByFigures_13 : decode by_V_fillByFigures 13 = .ok (.lstore 4, 2) := by decide +kernel
theorem de_V_fillByFigures_15 : decode by_V_fillByFigures 15 = .ok (.iload_n 1, 1) := by decide +kernel
theorem de_V_fillByFigures_16 : decode by_V_fillByFigures 16 = .ok (.tableswitch 86 4 6 #[28, 53, 80], 28) := by decide +kernel
theorem de_V_fillByFigures_44 : decode by_V_fillByFigures 44 = .ok (.aload_n 0, 1) := by decide +kernel
theorem de_V_fillByFigures_45 : decode by_V_fillByFigures 45 = .ok (.lload_n 2, 1) := by decide +kernel
theorem de_V_fillByFigures_46 : decode by_V_fillByFigures 46 = .ok (.ldc2_w 114, 3) := by decide +kernel
theorem de_V_fillByFigures_49 : decode by_V_fillByFigures 49 = .ok (.lload 4, 2) := by decide +kernel
theorem de_V_fillByFigures_51 : decode by_V_fillByFigures 51 = .ok (.lsub, 1) := by decide +kernel
theorem de_V_fillByFigures_52 : decode by_V_fillByFigures 52 = .ok (.lmul, 1) := by decide +kernel
theorem de_V_fillByFigures_53 : decode by_V_fillByFigures 53 = .ok (.ldc2_w 114, 3) := by decide +kernel
theorem de_V_fillByFigures_56 : decode by_V_fillByFigures 56 = .ok (.ldiv, 1) := by decide +kernel
theorem de_V_fillByFigures_57 : decode by_V_fillByFigures 57 = .ok (.aload_n 0, 1) := by decide +kernel
theorem de_V_fillByFigures_58 : decode by_V_fillByFigures 58 = .ok (.getfield 25, 3) := by decide +kernel
theorem de_V_fillByFigures_61 : decode by_V_fillByFigures 61 = .ok (.invokevirtual 213, 3) := by decide +kernel
theorem de_V_fillByFigures_64 : decode by_V_fillByFigures 64 = .ok (.lsub, 1) := by decide +kernel
theorem de_V_fillByFigures_65 : decode by_V_fillByFigures 65 = .ok (.invokevirtual 264, 3) := by decide +kernel
theorem de_V_fillByFigures_68 : decode by_V_fillByFigures 68 = .ok (.ireturn, 1) := by decide +kernel
theorem de_V_fillByFigures_69 : decode by_V_fillByFigures 69 = .ok (.aload_n 0, 1) := by decide +kernel
theorem de_V_fillByFigures_70 : decode by_V_fillByFigures 70 = .ok (.lload_n 2, 1) := by decide +kernel
theorem de_V_fillByFigures_71 : decode by_V_fillByFigures 71 = .ok (.ldc2_w 114, 3) := by decide +kernel
theorem de_V_fillByFigures_74 : decode by_V_fillByFigures 74 = .ok (.lload 4, 2) := by decide +kernel
theorem de_V_fillByFigures_76 : decode by_V_fillByFigures 76 = .ok (.ladd, 1) := by decide +kernel
theorem de_V_fillByFigures_77 : decode by_V_fillByFigures 77 = .ok (.lmul, 1) := by decide +kernel
theorem de_V_fillByFigures_78 : decode by_V_fillByFigures 78 = .ok (.ldc2_w 114, 3) := by decide +kernel
theorem de_V_fillByFigures_81 : decode by_V_fillByFigures 81 = .ok (.invokestatic 268, 3) := by decide +kernel
theorem de_V_fillByFigures_84 : decode by_V_fillByFigures 84 = .ok (.aload_n 0, 1) := by decide +kernel
theorem de_V_fillByFigures_85 : decode by_V_fillByFigures 85 = .ok (.getfield 21, 3) := by decide +kernel
theorem de_V_fillByFigures_88 : decode by_V_fillByFigures 88 = .ok (.invokevirtual 213, 3) := by decide +kernel
theorem de_V_fillByFigures_91 : decode by_V_fillByFigures 91 = .ok (.ladd, 1) := by decide +kernel
theorem de_V_fillByFigures_92 : decode by_V_fillByFigures 92 = .ok (.invokevirtual 264, 3) := by decide +kernel
theorem de_V_fillByFigures_95 : decode by_V_fillByFigures 95 = .ok (.ireturn, 1) := by decide +kernel
theorem de_V_fillByFigures_96 : decode by_V_fillByFigures 96 = .ok (.aload_n 0, 1) := by decide +kernel
theorem de_V_fillByFigures_97 : decode by_V_fillByFigures 97 = .ok (.lload_n 2, 1) := by decide +kernel
theorem de_V_fillByFigures_98 : decode by_V_fillByFigures 98 = .ok (.invokevirtual 264, 3) := by decide +kernel
theorem de_V_fillByFigures_101 : decode by_V_fillByFigures 101 = .ok (.ireturn, 1) := by decide +kernel
theorem de_V_fillByFigures_102 : decode by_V_fillByFigures 102 = .ok (.aload_n 0, 1) := by decide +kernel
theorem de_V_fillByFigures_103 : decode by_V_fillByFigures 103 = .ok (.lload_n 2, 1) := by decide +kernel
theorem de_V_fillByFigures_104 : decode by_V_fillByFigures 104 = .ok (.lload 4, 2) := by decide +kernel
theorem de_V_fillByFigures_106 : decode by_V_fillByFigures 106 = .ok (.invokevirtual 272, 3) := by decide +kernel
theorem de_V_fillByFigures_109 : decode by_V_fillByFigures 109 = .ok (.ireturn, 1) := by decide +kernel
theorem de_V_fillByWeights_0 : decode by_V_fillByWeights 0 = .ok (.iconst 0, 1) := by decide +kernel
theorem de_V_fillByWeights_1 : decode by_V_fillByWeights 1 = .ok (.istore 5, 2) := by decide +kernel
theorem de_V_fillByWeights_3 : decode by_V_fillByWeights 3 = .ok (.iload 5, 2) := by decide +kernel
theorem de_V_fillByWeights_5 : decode by_V_fillByWeights 5 = .ok (.aload_n 0, 1) := by decide +kernel
theorem de_V_fillByWeights_6 : decode by_V_fillByWeights 6 = .ok (.getfield 10, 3) := by decide +kernel
theorem de_V_fillByWeights_9 : decode by_V_fillByWeights 9 = .ok (.invokevirtual 193, 3) := by decide +kernel
theorem de_V_fillByWeights_12 : decode by_V_fillByWeights 12 = .ok (.if_icmp .ge 31, 3) := by decide +kernel
theorem de_V_fillByWeights_15 : decode by_V_fillByWeights 15 = .ok (.aload_n 0, 1) := by decide +kernel
theorem de_V_fillByWeights_16 : decode by_V_fillByWeights 16 = .ok (.getfield 56, 3) := by decide +kernel
theorem de_V_fillByWeights_19 : decode by_V_fillByWeights 19 = .ok (.iload 5, 2) := by decide +kernel
theorem de_V_fillByWeights_21 : decode by_V_fillByWeights 21 = .ok (.aload_n 0, 1) := by decide +kernel
theorem de_V_fillByWeights_22 : decode by_V_fillByWeights 22 = .ok (.getfield 10, 3) := by decide +kernel
theorem de_V_fillByWeights_25 : decode by_V_fillByWeights 25 = .ok (.iload 5, 2) := by decide +kernel
theorem de_V_fillByWeights_27 : decode by_V_fillByWeights 27 = .ok (.invokevirtual 190, 3) := by decide +kernel
theorem de_V_fillByWeights_30 : decode by_V_fillByWeights 30 = .ok (.lload_n 1, 1) := by decide +kernel
theorem de_V_fillByWeights_31 : decode by_V_fillByWeights 31 = .ok (.lmul, 1) := by decide +kernel
theorem de_V_fillByWeights_32 : decode by_V_fillByWeights 32 = .ok (.lload_n 3, 1) := by decide +kernel
theorem de_V_fillByWeights_33 : decode by_V_fillByWeights 33 = .ok (.invokestatic 268, 3) := by decide +kernel
theorem de_V_fillByWeights_36 : decode by_V_fillByWeights 36 = .ok (.lastore, 1) := by decide +kernel
theorem de_V_fillByWeights_37 : decode by_V_fillByWeights 37 = .ok (.iinc 5 1, 3) := by decide +kernel
theorem de_V_fillByWeights_40 : decode by_V_fillByWeights 40 = .ok (.goto (-37), 3) := by decide +kernel
theorem de_V_fillByWeights_43 : decode by_V_fillByWeights 43 = .ok (.iconst 1, 1) := by decide +kernel
theorem de_V_fillByWeights_44 : decode by_V_fillByWeights 44 = .ok (.ireturn, 1) := by decide +kernel
theorem de_V_fillShared_0 : decode by_V_fillShared 0 = .ok (.lload_n 1, 1) := by decide +kernel
theorem de_V_fillShared_1 : decode by_V_fillShared 1 = .ok (.lconst 0, 1) := by decide +kernel
theorem de_V_fillShared_2 : decode by_V_fillShared 2 = .ok (.lcmp, 1) := by decide +kernel
theorem de_V_fillShared_3 : decode by_V_fillShared 3 = .ok (.ifCond .ge 5, 3) := by decide +kernel
theorem de_V_fillShared_6 : decode by_V_fillShared 6 = .ok (.iconst 0, 1) := by decide +kernel
theorem de_V_fillShared_7 : decode by_V_fillShared 7 = .ok (.ireturn, 1) := by decide +kernel
theorem de_V_fillShared_8 : decode by_V_fillShared 8 = .ok (.aload_n 0, 1) := by decide +kernel
theorem de_V_fillShared_9 : decode by_V_fillShared 9 = .ok (.getfield 10, 3) := by decide +kernel
theorem de_V_fillShared_12 : decode by_V_fillShared 12 = .ok (.lload_n 1, 1) := by decide +kernel
theorem de_V_fillShared_13 : decode by_V_fillShared 13 = .ok (.iconst 0, 1) := by decide +kernel
theorem de_V_fillShared_14 : decode by_V_fillShared 14 = .ok (.invokevirtual 173, 3) := by decide +kernel
theorem de_V_fillShared_17 : decode by_V_fillShared 17 = .ok (.iconst 0, 1) := by decide +kernel
theorem de_V_fillShared_18 : decode by_V_fillShared 18 = .ok (.istore_n 3, 1) := by decide +kernel
theorem de_V_fillShared_19 : decode by_V_fillShared 19 = .ok (.iload_n 3, 1) := by decide +kernel
theorem de_V_fillShared_20 : decode by_V_fillShared 20 = .ok (.aload_n 0, 1) := by decide +kernel
theorem de_V_fillShared_21 : decode by_V_fillShared 21 = .ok (.getfield 10, 3) := by decide +kernel
theorem de_V_fillShared_24 : decode by_V_fillShared 24 = .ok (.invokevirtual 193, 3) := by decide +kernel
theorem de_V_fillShared_27 : decode by_V_fillShared 27 = .ok (.if_icmp .ge 23, 3) := by decide +kernel
theorem de_V_fillShared_30 : decode by_V_fillShared 30 = .ok (.aload_n 0, 1) := by decide +kernel
theorem de_V_fillShared_31 : decode by_V_fillShared 31 = .ok (.getfield 56, 3) := by decide +kernel
theorem de_V_fillShared_34 : decode by_V_fillShared 34 = .ok (.iload_n 3, 1) := by decide +kernel
theorem de_V_fillShared_35 : decode by_V_fillShared 35 = .ok (.aload_n 0, 1) := by decide +kernel
theorem de_V_fillShared_36 : decode by_V_fillShared 36 = .ok (.getfield 10, 3) := by decide +kernel
theorem de_V_fillShared_39 : decode by_V_fillShared 39 = .ok (.iload_n 3, 1) := by decide +kernel
theorem de_V_fillShared_40 : decode by_V_fillShared 40 = .ok (.invokevirtual 177, 3) := by decide +kernel
theorem de_V_fillShared_43 : decode by_V_fillShared 43 = .ok (.lastore, 1) := by decide +kernel
theorem de_V_fillShared_44 : decode by_V_fillShared 44 = .ok (.iinc 3 1, 3) := by decide +kernel
theorem de_V_fillShared_47 : decode by_V_fillShared 47 = .ok (.goto (-28), 3) := by decide +kernel
theorem de_V_fillShared_50 : decode by_V_fillShared 50 = .ok (.iconst 1, 1) := by decide +kernel
theorem de_V_fillShared_51 : decode by_V_fillShared 51 = .ok (.ireturn, 1) := by decide +kernel
theorem de_V_figuresCanBe_0 : decode by_V_figuresCanBe 0 = .ok (.iload_n 0, 1) := by decide +kernel
theorem de_V_figuresCanBe_1 : decode by_V_figuresCanBe 1 = .ok (.iconst 2, 1) := by decide +kernel
theorem de_V_figuresCanBe_2 : decode by_V_figuresCanBe 2 = .ok (.if_icmp .eq 8, 3) := by decide +kernel
theorem de_V_figuresCanBe_5 : decode by_V_figuresCanBe 5 = .ok (.iload_n 0, 1) := by decide +kernel
theorem de_V_figuresCanBe_6 : decode by_V_figuresCanBe 6 = .ok (.iconst 3, 1) := by decide +kernel
theorem de_V_figuresCanBe_7 : decode by_V_figuresCanBe 7 = .ok (.if_icmp .ne 31, 3) := by decide +kernel
theorem de_V_figuresCanBe_10 : decode by_V_figuresCanBe 10 = .ok (.lload_n 1, 1) := by decide +kernel
theorem de_V_figuresCanBe_11 : decode by_V_figuresCanBe 11 = .ok (.lconst 0, 1) := by decide +kernel
theorem de_V_figuresCanBe_12 : decode by_V_figuresCanBe 12 = .ok (.ldc2_w 276, 3) := by decide +kernel
theorem de_V_figuresCanBe_15 : decode by_V_figuresCanBe 15 = .ok (.invokestatic 74, 3) := by decide +kernel
theorem de_V_figuresCanBe_18 : decode by_V_figuresCanBe 18 = .ok (.ifCond .eq 18, 3) := by decide +kernel
theorem de_V_figuresCanBe_21 : decode by_V_figuresCanBe 21 = .ok (.lload_n 3, 1) := by decide +kernel
theorem de_V_figuresCanBe_22 : decode by_V_figuresCanBe 22 = .ok (.lconst 1, 1) := by decide +kernel
theorem de_V_figuresCanBe_23 : decode by_V_figuresCanBe 23 = .ok (.ldc2_w 102, 3) := by decide +kernel
theorem de_V_figuresCanBe_26 : decode by_V_figuresCanBe 26 = .ok (.invokestatic 74, 3) := by decide +kernel
theorem de_V_figuresCanBe_29 : decode by_V_figuresCanBe 29 = .ok (.ifCond .eq 7, 3) := by decide +kernel
theorem de_V_figuresCanBe_32 : decode by_V_figuresCanBe 32 = .ok (.iconst 1, 1) := by decide +kernel
theorem de_V_figuresCanBe_33 : decode by_V_figuresCanBe 33 = .ok (.goto 4, 3) := by decide +kernel
theorem de_V_figuresCanBe_36 : decode by_V_figuresCanBe 36 = .ok (.iconst 0, 1) := by decide +kernel
theorem de_V_figuresCanBe_37 : decode by_V_figuresCanBe 37 = .ok (.ireturn, 1) := by decide +kernel
theorem de_V_figuresCanBe_38 : decode by_V_figuresCanBe 38 = .ok (.lload_n 1, 1) := by decide +kernel
theorem de_V_figuresCanBe_39 : decode by_V_figuresCanBe 39 = .ok (.lconst 0, 1) := by decide +kernel
theorem de_V_figuresCanBe_40 : decode by_V_figuresCanBe 40 = .ok (.ldc2_w 102, 3) := by decide +kernel
theorem de_V_figuresCanBe_43 : decode by_V_figuresCanBe 43 = .ok (.invokestatic 74, 3) := by decide +kernel
theorem de_V_figuresCanBe_46 : decode by_V_figuresCanBe 46 = .ok (.ifCond .eq 18, 3) := by decide +kernel
theorem de_V_figuresCanBe_49 : decode by_V_figuresCanBe 49 = .ok (.lload_n 3, 1) := by decide +kernel
theorem de_V_figuresCanBe_50 : decode by_V_figuresCanBe 50 = .ok (.lconst 0, 1) := by decide +kernel
theorem de_V_figuresCanBe_51 : decode by_V_figuresCanBe 51 = .ok (.ldc2_w 114, 3) := by decide +kernel
theorem de_V_figuresCanBe_54 : decode by_V_figuresCanBe 54 = .ok (.invokestatic 74, 3) := by decide +kernel
theorem de_V_figuresCanBe_57 : decode by_V_figuresCanBe 57 = .ok (.ifCond .eq 7, 3) := by decide +kernel
theorem de_V_figuresCanBe_60 : decode by_V_figuresCanBe 60 = .ok (.iconst 1, 1) := by decide +kernel
theorem de_V_figuresCanBe_61 : decode by_V_figuresCanBe 61 = .ok (.goto 4, 3) := by decide +kernel
theorem de_V_figuresCanBe_64 : decode by_V_figuresCanBe 64 = .ok (.iconst 0, 1) := by decide +kernel
theorem de_V_figuresCanBe_65 : decode by_V_figuresCanBe 65 = .ok (.ireturn, 1) := by decide +kernel
theorem de_V_valueSum_0 : decode by_V_valueSum 0 = .ok (.lconst 0, 1) := by decide +kernel
theorem de_V_valueSum_1 : decode by_V_valueSum 1 = .ok (.lstore_n 1, 1) := by decide +kernel
theorem de_V_valueSum_2 : decode by_V_valueSum 2 = .ok (.iconst 0, 1) := by decide +kernel
theorem de_V_valueSum_3 : decode by_V_valueSum 3 = .ok (.istore_n 3, 1) := by decide +kernel
theorem de_V_valueSum_4 : decode by_V_valueSum 4 = .ok (.iload_n 3, 1) := by decide +kernel
theorem de_V_valueSum_5 : decode by_V_valueSum 5 = .ok (.aload_n 0, 1) := by decide +kernel
theorem de_V_valueSum_6 : decode by_V_valueSum 6 = .ok (.getfield 10, 3) := by decide +kernel
theorem de_V_valueSum_9 : decode by_V_valueSum 9 = .ok (.invokevirtual 193, 3) := by decide +kernel
theorem de_V_valueSum_12 : decode by_V_valueSum 12 = .ok (.if_icmp .ge 18, 3) := by decide +kernel
theorem de_V_valueSum_15 : decode by_V_valueSum 15 = .ok (.lload_n 1, 1) := by decide +kernel
theorem de_V_valueSum_16 : decode by_V_valueSum 16 = .ok (.aload_n 0, 1) := by decide +kernel
theorem de_V_valueSum_17 : decode by_V_valueSum 17 = .ok (.getfield 56, 3) := by decide +kernel
theorem de_V_valueSum_20 : decode by_V_valueSum 20 = .ok (.iload_n 3, 1) := by decide +kernel
theorem de_V_valueSum_21 : decode by_V_valueSum 21 = .ok (.laload, 1) := by decide +kernel
theorem de_V_valueSum_22 : decode by_V_valueSum 22 = .ok (.ladd, 1) := by decide +kernel
theorem de_V_valueSum_23 : decode by_V_valueSum 23 = .ok (.lstore_n 1, 1) := by decide +kernel
theorem de_V_valueSum_24 : decode by_V_valueSum 24 = .ok (.iinc 3 1, 3) := by decide +kernel
theorem de_V_valueSum_27 : decode by_V_valueSum 27 = .ok (.goto (-23), 3) := by decide +kernel
theorem de_V_valueSum_30 : decode by_V_valueSum 30 = .ok (.lload_n 1, 1) := by decide +kernel
theorem de_V_valueSum_31 : decode by_V_valueSum 31 = .ok (.lreturn, 1) := by decide +kernel
theorem de_V_discountCents_0 : decode by_V_discountCents 0 = .ok (.aload_n 0, 1) := by decide +kernel
theorem de_V_discountCents_1 : decode by_V_discountCents 1 = .ok (.getfield 10, 3) := by decide +kernel
theorem de_V_discountCents_4 : decode by_V_discountCents 4 = .ok (.invokevirtual 210, 3) := by decide +kernel
theorem de_V_discountCents_7 : decode by_V_discountCents 7 = .ok (.aload_n 0, 1) := by decide +kernel
theorem de_V_discountCents_8 : decode by_V_discountCents 8 = .ok (.getfield 31, 3) := by decide +kernel
theorem de_V_discountCents_11 : decode by_V_discountCents 11 = .ok (.aload_n 0, 1) := by decide +kernel
theorem de_V_discountCents_12 : decode by_V_discountCents 12 = .ok (.getfield 59, 3) := by decide +kernel
theorem de_V_discountCents_15 : decode by_V_discountCents 15 = .ok (.aload_n 0, 1) := by decide +kernel
theorem de_V_discountCents_16 : decode by_V_discountCents 16 = .ok (.getfield 63, 3) := by decide +kernel
theorem de_V_discountCents_19 : decode by_V_discountCents 19 = .ok (.invokevirtual 202, 3) := by decide +kernel
theorem de_V_discountCents_22 : decode by_V_discountCents 22 = .ok (.i2l, 1) := by decide +kernel
theorem de_V_discountCents_23 : decode by_V_discountCents 23 = .ok (.lmul, 1) := by decide +kernel
theorem de_V_discountCents_24 : decode by_V_discountCents 24 = .ok (.ldc2_w 114, 3) := by decide +kernel
theorem de_V_discountCents_27 : decode by_V_discountCents 27 = .ok (.invokestatic 268, 3) := by decide +kernel
theorem de_V_discountCents_30 : decode by_V_discountCents 30 = .ok (.lreturn, 1) := by decide +kernel
theorem de_V_period_0 : decode by_V_period 0 = .ok (.aload_n 0, 1) := by decide +kernel
theorem de_V_period_1 : decode by_V_period 1 = .ok (.getfield 59, 3) := by decide +kernel
theorem de_V_period_4 : decode by_V_period 4 = .ok (.bipush 30, 2) := by decide +kernel
theorem de_V_period_6 : decode by_V_period 6 = .ok (.idiv, 1) := by decide +kernel
theorem de_V_period_7 : decode by_V_period 7 = .ok (.ireturn, 1) := by decide +kernel
theorem de_V_ownSum_0 : decode by_V_ownSum 0 = .ok (.aload_n 0, 1) := by decide +kernel
theorem de_V_ownSum_1 : decode by_V_ownSum 1 = .ok (.invokevirtual 222, 3) := by decide +kernel
theorem de_V_ownSum_4 : decode by_V_ownSum 4 = .ok (.aload_n 0, 1) := by decide +kernel
theorem de_V_ownSum_5 : decode by_V_ownSum 5 = .ok (.iload_n 1, 1) := by decide +kernel
theorem de_V_ownSum_6 : decode by_V_ownSum 6 = .ok (.invokevirtual 278, 3) := by decide +kernel
theorem de_V_ownSum_9 : decode by_V_ownSum 9 = .ok (.lmul, 1) := by decide +kernel
theorem de_V_ownSum_10 : decode by_V_ownSum 10 = .ok (.aload_n 0, 1) := by decide +kernel
theorem de_V_ownSum_11 : decode by_V_ownSum 11 = .ok (.iload_n 1, 1) := by decide +kernel
theorem de_V_ownSum_12 : decode by_V_ownSum 12 = .ok (.invokevirtual 281, 3) := by decide +kernel
theorem de_V_ownSum_15 : decode by_V_ownSum 15 = .ok (.invokestatic 268, 3) := by decide +kernel
theorem de_V_ownSum_18 : decode by_V_ownSum 18 = .ok (.lreturn, 1) := by decide +kernel
theorem de_V_ownValue_0 : decode by_V_ownValue 0 = .ok (.aload_n 0, 1) := by decide +kernel
theorem de_V_ownValue_1 : decode by_V_ownValue 1 = .ok (.getfield 10, 3) := by decide +kernel
theorem de_V_ownValue_4 : decode by_V_ownValue 4 = .ok (.aload_n 0, 1) := by decide +kernel
theorem de_V_ownValue_5 : decode by_V_ownValue 5 = .ok (.getfield 56, 3) := by decide +kernel
theorem de_V_ownValue_8 : decode by_V_ownValue 8 = .ok (.aload_n 0, 1) := by decide +kernel
theorem de_V_ownValue_9 : decode by_V_ownValue 9 = .ok (.iload_n 2, 1) := by decide +kernel
theorem de_V_ownValue_10 : decode by_V_ownValue 10 = .ok (.invokevirtual 278, 3) := by decide +kernel
theorem de_V_ownValue_13 : decode by_V_ownValue 13 = .ok (.aload_n 0, 1) := by decide +kernel
theorem de_V_ownValue_14 : decode by_V_ownValue 14 = .ok (.iload_n 2, 1) := by decide +kernel
theorem de_V_ownValue_15 : decode by_V_ownValue 15 = .ok (.invokevirtual 281, 3) := by decide +kernel
theorem de_V_ownValue_18 : decode by_V_ownValue 18 = .ok (.aload_n 0, 1) := by decide +kernel
theorem de_V_ownValue_19 : decode by_V_ownValue 19 = .ok (.iload_n 2, 1) := by decide +kernel
theorem de_V_ownValue_20 : decode by_V_ownValue 20 = .ok (.invokevirtual 219, 3) := by decide +kernel
theorem de_V_ownValue_23 : decode by_V_ownValue 23 = .ok (.invokevirtual 284, 3) := by decide +kernel
theorem de_V_ownValue_26 : decode by_V_ownValue 26 = .ok (.aload_n 0, 1) := by decide +kernel
theorem de_V_ownValue_27 : decode by_V_ownValue 27 = .ok (.getfield 10, 3) := by decide +kernel
theorem de_V_ownValue_30 : decode by_V_ownValue 30 = .ok (.iload_n 1, 1) := by decide +kernel
theorem de_V_ownValue_31 : decode by_V_ownValue 31 = .ok (.invokevirtual 177, 3) := by decide +kernel
theorem de_V_ownValue_34 : decode by_V_ownValue 34 = .ok (.lreturn, 1) := by decide +kernel
theorem de_V_upOf_0 : decode by_V_upOf 0 = .ok (.iload_n 1, 1) := by decide +kernel
theorem de_V_upOf_1 : decode by_V_upOf 1 = .ok (.invokestatic 288, 3) := by decide +kernel
theorem de_V_upOf_4 : decode by_V_upOf 4 = .ok (.ifCond .eq 7, 3) := by decide +kernel
theorem de_V_upOf_7 : decode by_V_upOf 7 = .ok (.lconst 1, 1) := by decide +kernel
theorem de_V_upOf_8 : decode by_V_upOf 8 = .ok (.goto 14, 3) := by decide +kernel
theorem de_V_upOf_11 : decode by_V_upOf 11 = .ok (.aload_n 0, 1) := by decide +kernel
theorem de_V_upOf_12 : decode by_V_upOf 12 = .ok (.getfield 38, 3) := by decide +kernel
theorem de_V_upOf_15 : decode by_V_upOf 15 = .ok (.aload_n 0, 1) := by decide +kernel
theorem de_V_upOf_16 : decode by_V_upOf 16 = .ok (.invokevirtual 199, 3) := by decide +kernel
theorem de_V_upOf_19 : decode by_V_upOf 19 = .ok (.invokevirtual 291, 3) := by decide +kernel
theorem de_V_upOf_22 : decode by_V_upOf 22 = .ok (.lreturn, 1) := by decide +kernel
theorem de_V_downOf_0 : decode by_V_downOf 0 = .ok (.iload_n 1, 1) := by decide +kernel
theorem de_V_downOf_1 : decode by_V_downOf 1 = .ok (.invokestatic 288, 3) := by decide +kernel
theorem de_V_downOf_4 : decode by_V_downOf 4 = .ok (.ifCond .eq 7, 3) := by decide +kernel
theorem de_V_downOf_7 : decode by_V_downOf 7 = .ok (.lconst 1, 1) := by decide +kernel
theorem de_V_downOf_8 : decode by_V_downOf 8 = .ok (.goto 14, 3) := by decide +kernel
theorem de_V_downOf_11 : decode by_V_downOf 11 = .ok (.aload_n 0, 1) := by decide +kernel
theorem de_V_downOf_12 : decode by_V_downOf 12 = .ok (.getfield 38, 3) := by decide +kernel
theorem de_V_downOf_15 : decode by_V_downOf 15 = .ok (.aload_n 0, 1) := by decide +kernel
theorem de_V_downOf_16 : decode by_V_downOf 16 = .ok (.invokevirtual 199, 3) := by decide +kernel
theorem de_V_downOf_19 : decode by_V_downOf 19 = .ok (.invokevirtual 294, 3) := by decide +kernel
theorem de_V_downOf_22 : decode by_V_downOf 22 = .ok (.lreturn, 1) := by decide +kernel
theorem de_V_isInOwnCurrency_0 : decode by_V_isInOwnCurrency 0 = .ok (.iload_n 0, 1) := by decide +kernel
theorem de_V_isInOwnCurrency_1 : decode by_V_isInOwnCurrency 1 = .ok (.iconst 4, 1) := by decide +kernel
theorem de_V_isInOwnCurrency_2 : decode by_V_isInOwnCurrency 2 = .ok (.if_icmp .eq 8, 3) := by decide +kernel
theorem de_V_isInOwnCurrency_5 : decode by_V_isInOwnCurrency 5 = .ok (.iload_n 0, 1) := by decide +kernel
theorem de_V_isInOwnCurrency_6 : decode by_V_isInOwnCurrency 6 = .ok (.iconst 5, 1) := by decide +kernel
theorem de_V_isInOwnCurrency_7 : decode by_V_isInOwnCurrency 7 = .ok (.if_icmp .ne 7, 3) := by decide +kernel
theorem de_V_isInOwnCurrency_10 : decode by_V_isInOwnCurrency 10 = .ok (.iconst 1, 1) := by decide +kernel
theorem de_V_isInOwnCurrency_11 : decode by_V_isInOwnCurrency 11 = .ok (.goto 4, 3) := by decide +kernel
theorem de_V_isInOwnCurrency_14 : decode by_V_isInOwnCurrency 14 = .ok (.iconst 0, 1) := by decide +kernel
theorem de_V_isInOwnCurrency_15 : decode by_V_isInOwnCurrency 15 = .ok (.ireturn, 1) := by decide +kernel
theorem de_V_within_0 : decode by_V_within 0 = .ok (.lload_n 0, 1) := by decide +kernel
theorem de_V_within_1 : decode by_V_within 1 = .ok (.lload_n 2, 1) := by decide +kernel
theorem de_V_within_2 : decode by_V_within 2 = .ok (.lcmp, 1) := by decide +kernel
theorem de_V_within_3 : decode by_V_within 3 = .ok (.ifCond .lt 14, 3) := by decide +kernel
theorem de_V_within_6 : decode by_V_within 6 = .ok (.lload_n 0, 1) := by decide +kernel
theorem de_V_within_7 : decode by_V_within 7 = .ok (.lload 4, 2) := by decide +kernel
theorem de_V_within_9 : decode by_V_within 9 = .ok (.lcmp, 1) := by decide +kernel
theorem de_V_within_10 : decode by_V_within 10 = .ok (.ifCond .gt 7, 3) := by decide +kernel
theorem de_V_within_13 : decode by_V_within 13 = .ok (.iconst 1, 1) := by decide +kernel
theorem de_V_within_14 : decode by_V_within 14 = .ok (.goto 4, 3) := by decide +kernel
theorem de_V_within_17 : decode by_V_within 17 = .ok (.iconst 0, 1) := by decide +kernel
theorem de_V_within_18 : decode by_V_within 18 = .ok (.ireturn, 1) := by decide +kernel
theorem de_V_near_0 : decode by_V_near 0 = .ok (.lload_n 2, 1) := by decide +kernel
theorem de_V_near_1 : decode by_V_near 1 = .ok (.lconst 0, 1) := by decide +kernel
theorem de_V_near_2 : decode by_V_near 2 = .ok (.lcmp, 1) := by decide +kernel
theorem de_V_near_3 : decode by_V_near 3 = .ok (.ifCond .gt 5, 3) := by decide +kernel
theorem de_V_near_6 : decode by_V_near 6 = .ok (.lconst 0, 1) := by decide +kernel
theorem de_V_near_7 : decode by_V_near 7 = .ok (.lreturn, 1) := by decide +kernel
theorem de_V_near_8 : decode by_V_near 8 = .ok (.lload_n 0, 1) := by decide +kernel
theorem de_V_near_9 : decode by_V_near 9 = .ok (.lload_n 2, 1) := by decide +kernel
theorem de_V_near_10 : decode by_V_near 10 = .ok (.lrem, 1) := by decide +kernel
theorem de_V_near_11 : decode by_V_near 11 = .ok (.lstore 4, 2) := by decide +kernel
theorem de_V_near_13 : decode by_V_near 13 = .ok (.lload_n 0, 1) := by decide +kernel
theorem de_V_near_14 : decode by_V_near 14 = .ok (.lload_n 2, 1) := by decide +kernel
theorem de_V_near_15 : decode by_V_near 15 = .ok (.ldiv, 1) := by decide +kernel
theorem de_V_near_16 : decode by_V_near 16 = .ok (.lload 4, 2) := by decide +kernel
theorem de_V_near_18 : decode by_V_near 18 = .ok (.lload_n 2, 1) := by decide +kernel
theorem de_V_near_19 : decode by_V_near 19 = .ok (.lload 4, 2) := by decide +kernel
theorem de_V_near_21 : decode by_V_near 21 = .ok (.lsub, 1) := by decide +kernel
theorem de_V_near_22 : decode by_V_near 22 = .ok (.lcmp, 1) := by decide +kernel
theorem de_V_near_23 : decode by_V_near 23 = .ok (.ifCond .lt 7, 3) := by decide +kernel
theorem de_V_near_26 : decode by_V_near 26 = .ok (.iconst 1, 1) := by decide +kernel
theorem de_V_near_27 : decode by_V_near 27 = .ok (.goto 4, 3) := by decide +kernel
theorem de_V_near_30 : decode by_V_near 30 = .ok (.iconst 0, 1) := by decide +kernel
theorem de_V_near_31 : decode by_V_near 31 = .ok (.i2l, 1) := by decide +kernel
theorem de_V_near_32 : decode by_V_near 32 = .ok (.ladd, 1) := by decide +kernel
theorem de_V_near_33 : decode by_V_near 33 = .ok (.lreturn, 1) := by decide +kernel
theorem de_C_init_0 : decode by_C_init 0 = .ok (.aload_n 0, 1) := by decide +kernel
theorem de_C_init_1 : decode by_C_init 1 = .ok (.invokespecial 1, 3) := by decide +kernel
theorem de_C_init_4 : decode by_C_init 4 = .ok (.aload_n 0, 1) := by decide +kernel
theorem de_C_init_5 : decode by_C_init 5 = .ok (.iload_n 1, 1) := by decide +kernel
theorem de_C_init_6 : decode by_C_init 6 = .ok (.newarray .long, 2) := by decide +kernel
theorem de_C_init_8 : decode by_C_init 8 = .ok (.putfield 7, 3) := by decide +kernel
theorem de_C_init_11 : decode by_C_init 11 = .ok (.aload_n 0, 1) := by decide +kernel
theorem de_C_init_12 : decode by_C_init 12 = .ok (.iload_n 1, 1) := by decide +kernel
theorem de_C_init_13 : decode by_C_init 13 = .ok (.newarray .boolean, 2) := by decide +kernel
theorem de_C_init_15 : decode by_C_init 15 = .ok (.putfield 13, 3) := by decide +kernel
theorem de_C_init_18 : decode by_C_init 18 = .ok (.aload_n 0, 1) := by decide +kernel
theorem de_C_init_19 : decode by_C_init 19 = .ok (.iload_n 1, 1) := by decide +kernel
theorem de_C_init_20 : decode by_C_init 20 = .ok (.newarray .boolean, 2) := by decide +kernel
theorem de_C_init_22 : decode by_C_init 22 = .ok (.putfield 17, 3) := by decide +kernel
theorem de_C_init_25 : decode by_C_init 25 = .ok (.return_, 1) := by decide +kernel
theorem de_C_kinds_0 : decode by_C_kinds 0 = .ok (.aload_n 0, 1) := by decide +kernel
theorem de_C_kinds_1 : decode by_C_kinds 1 = .ok (.getfield 7, 3) := by decide +kernel
theorem de_C_kinds_4 : decode by_C_kinds 4 = .ok (.arraylength, 1) := by decide +kernel
theorem de_C_kinds_5 : decode by_C_kinds 5 = .ok (.ireturn, 1) := by decide +kernel
theorem de_C_hasKind_0 : decode by_C_hasKind 0 = .ok (.iload_n 1, 1) := by decide +kernel
theorem de_C_hasKind_1 : decode by_C_hasKind 1 = .ok (.ifCond .lt 16, 3) := by decide +kernel
theorem de_C_hasKind_4 : decode by_C_hasKind 4 = .ok (.iload_n 1, 1) := by decide +kernel
theorem de_C_hasKind_5 : decode by_C_hasKind 5 = .ok (.aload_n 0, 1) := by decide +kernel
theorem de_C_hasKind_6 : decode by_C_hasKind 6 = .ok (.getfield 7, 3) := by decide +kernel
theorem de_C_hasKind_9 : decode by_C_hasKind 9 = .ok (.arraylength, 1) := by decide +kernel
theorem de_C_hasKind_10 : decode by_C_hasKind 10 = .ok (.if_icmp .ge 7, 3) := by decide +kernel
theorem de_C_hasKind_13 : decode by_C_hasKind 13 = .ok (.iconst 1, 1) := by decide +kernel
theorem de_C_hasKind_14 : decode by_C_hasKind 14 = .ok (.goto 4, 3) := by decide +kernel
theorem de_C_hasKind_17 : decode by_C_hasKind 17 = .ok (.iconst 0, 1) := by decide +kernel
theorem de_C_hasKind_18 : decode by_C_hasKind 18 = .ok (.ireturn, 1) := by decide +kernel
theorem de_C_tell_0 : decode by_C_tell 0 = .ok (.aload_n 0, 1) := by decide +kernel
theorem de_C_tell_1 : decode by_C_tell 1 = .ok (.getfield 17, 3) := by decide +kernel
theorem de_C_tell_4 : decode by_C_tell 4 = .ok (.iload_n 1, 1) := by decide +kernel
theorem de_C_tell_5 : decode by_C_tell 5 = .ok (.baload, 1) := by decide +kernel
theorem de_C_tell_6 : decode by_C_tell 6 = .ok (.ifCond .eq 5, 3) := by decide +kernel
theorem de_C_tell_9 : decode by_C_tell 9 = .ok (.iconst 0, 1) := by decide +kernel
theorem de_C_tell_10 : decode by_C_tell 10 = .ok (.ireturn, 1) := by decide +kernel
theorem de_C_tell_11 : decode by_C_tell 11 = .ok (.aload_n 0, 1) := by decide +kernel
theorem de_C_tell_12 : decode by_C_tell 12 = .ok (.getfield 17, 3) := by decide +kernel
theorem de_C_tell_15 : decode by_C_tell 15 = .ok (.iload_n 1, 1) := by decide +kernel
theorem de_C_tell_16 : decode by_C_tell 16 = .ok (.iconst 1, 1) := by decide +kernel
theorem de_C_tell_17 : decode by_C_tell 17 = .ok (.bastore, 1) := by decide +kernel
theorem de_C_tell_18 : decode by_C_tell 18 = .ok (.aload_n 0, 1) := by decide +kernel
theorem de_C_tell_19 : decode by_C_tell 19 = .ok (.getfield 7, 3) := by decide +kernel
theorem de_C_tell_22 : decode by_C_tell 22 = .ok (.iload_n 1, 1) := by decide +kernel
theorem de_C_tell_23 : decode by_C_tell 23 = .ok (.lload_n 2, 1) := by decide +kernel
theorem de_C_tell_24 : decode by_C_tell 24 = .ok (.lastore, 1) := by decide +kernel
theorem de_C_tell_25 : decode by_C_tell 25 = .ok (.aload_n 0, 1) := by decide +kernel
theorem de_C_tell_26 : decode by_C_tell 26 = .ok (.getfield 13, 3) := by decide +kernel
theorem de_C_tell_29 : decode by_C_tell 29 = .ok (.iload_n 1, 1) := by decide +kernel
theorem de_C_tell_30 : decode by_C_tell 30 = .ok (.iload 4, 2) := by decide +kernel
theorem de_C_tell_32 : decode by_C_tell 32 = .ok (.bastore, 1) := by decide +kernel
theorem de_C_tell_33 : decode by_C_tell 33 = .ok (.aload_n 0, 1) := by decide +kernel
theorem de_C_tell_34 : decode by_C_tell 34 = .ok (.dup, 1) := by decide +kernel
theorem de_C_tell_35 : decode by_C_tell 35 = .ok (.getfield 20, 3) := by decide +kernel
theorem de_C_tell_38 : decode by_C_tell 38 = .ok (.iconst 1, 1) := by decide +kernel
theorem de_C_tell_39 : decode by_C_tell 39 = .ok (.iadd, 1) := by decide +kernel
theorem de_C_tell_40 : decode by_C_tell 40 = .ok (.putfield 20, 3) := by decide +kernel
theorem de_C_tell_43 : decode by_C_tell 43 = .ok (.aload_n 0, 1) := by decide +kernel
theorem de_C_tell_44 : decode by_C_tell 44 = .ok (.dup, 1) := by decide +kernel
theorem de_C_tell_45 : decode by_C_tell 45 = .ok (.getfield 24, 3) := by decide +kernel
theorem de_C_tell_48 : decode by_C_tell 48 = .ok (.lload_n 2, 1) := by decide +kernel
theorem de_C_tell_49 : decode by_C_tell 49 = .ok (.ladd, 1) := by decide +kernel
theorem de_C_tell_50 : decode by_C_tell 50 = .ok (.putfield 24, 3) := by decide +kernel
theorem de_C_tell_53 : decode by_C_tell 53 = .ok (.iconst 1, 1) := by decide +kernel
theorem de_C_tell_54 : decode by_C_tell 54 = .ok (.ireturn, 1) := by decide +kernel
theorem de_C_centsOf_0 : decode by_C_centsOf 0 = .ok (.aload_n 0, 1) := by decide +kernel
theorem de_C_centsOf_1 : decode by_C_centsOf 1 = .ok (.getfield 7, 3) := by decide +kernel
theorem de_C_centsOf_4 : decode by_C_centsOf 4 = .ok (.iload_n 1, 1) := by decide +kernel
theorem de_C_centsOf_5 : decode by_C_centsOf 5 = .ok (.laload, 1) := by decide +kernel
theorem de_C_centsOf_6 : decode by_C_centsOf 6 = .ok (.lreturn, 1) := by decide +kernel
theorem de_C_goesByWeight_0 : decode by_C_goesByWeight 0 = .ok (.aload_n 0, 1) := by decide +kernel
theorem de_C_goesByWeight_1 : decode by_C_goesByWeight 1 = .ok (.getfield 13, 3) := by decide +kernel
theorem de_C_goesByWeight_4 : decode by_C_goesByWeight 4 = .ok (.iload_n 1, 1) := by decide +kernel
theorem de_C_goesByWeight_5 : decode by_C_goesByWeight 5 = .ok (.baload, 1) := by decide +kernel
theorem de_C_goesByWeight_6 : decode by_C_goesByWeight 6 = .ok (.ireturn, 1) := by decide +kernel
theorem de_C_toldKinds_0 : decode by_C_toldKinds 0 = .ok (.aload_n 0, 1) := by decide +kernel
theorem de_C_toldKinds_1 : decode by_C_toldKinds 1 = .ok (.getfield 20, 3) := by decide +kernel
theorem de_C_toldKinds_4 : decode by_C_toldKinds 4 = .ok (.ireturn, 1) := by decide +kernel
theorem de_C_total_0 : decode by_C_total 0 = .ok (.aload_n 0, 1) := by decide +kernel
theorem de_C_total_1 : decode by_C_total 1 = .ok (.getfield 24, 3) := by decide +kernel
theorem de_C_total_4 : decode by_C_total 4 = .ok (.lreturn, 1) := by decide +kernel
theorem de_D_init_0 : decode by_D_init 0 = .ok (.aload_n 0, 1) := by decide +kernel
theorem de_D_init_1 : decode by_D_init 1 = .ok (.invokespecial 1, 3) := by decide +kernel
theorem de_D_init_4 : decode by_D_init 4 = .ok (.aload_n 0, 1) := by decide +kernel
theorem de_D_init_5 : decode by_D_init 5 = .ok (.bipush 10, 2) := by decide +kernel
theorem de_D_init_7 : decode by_D_init 7 = .ok (.newarray .int, 2) := by decide +kernel
theorem de_D_init_9 : decode by_D_init 9 = .ok (.putfield 9, 3) := by decide +kernel
theorem de_D_init_12 : decode by_D_init 12 = .ok (.aload_n 0, 1) := by decide +kernel
theorem de_D_init_13 : decode by_D_init 13 = .ok (.bipush 10, 2) := by decide +kernel
theorem de_D_init_15 : decode by_D_init 15 = .ok (.newarray .int, 2) := by decide +kernel
theorem de_D_init_17 : decode by_D_init 17 = .ok (.putfield 13, 3) := by decide +kernel
theorem de_D_init_20 : decode by_D_init 20 = .ok (.return_, 1) := by decide +kernel
theorem de_D_isFull_0 : decode by_D_isFull 0 = .ok (.aload_n 0, 1) := by decide +kernel
theorem de_D_isFull_1 : decode by_D_isFull 1 = .ok (.getfield 16, 3) := by decide +kernel
theorem de_D_isFull_4 : decode by_D_isFull 4 = .ok (.bipush 10, 2) := by decide +kernel
theorem de_D_isFull_6 : decode by_D_isFull 6 = .ok (.if_icmp .lt 7, 3) := by decide +kernel
theorem de_D_isFull_9 : decode by_D_isFull 9 = .ok (.iconst 1, 1) := by decide +kernel
theorem de_D_isFull_10 : decode by_D_isFull 10 = .ok (.goto 4, 3) := by decide +kernel
theorem de_D_isFull_13 : decode by_D_isFull 13 = .ok (.iconst 0, 1) := by decide +kernel
theorem de_D_isFull_14 : decode by_D_isFull 14 = .ok (.ireturn, 1) := by decide +kernel
theorem de_D_size_0 : decode by_D_size 0 = .ok (.aload_n 0, 1) := by decide +kernel
theorem de_D_size_1 : decode by_D_size 1 = .ok (.getfield 16, 3) := by decide +kernel
theorem de_D_size_4 : decode by_D_size 4 = .ok (.ireturn, 1) := by decide +kernel
theorem de_D_tell_0 : decode by_D_tell 0 = .ok (.aload_n 0, 1) := by decide +kernel
theorem de_D_tell_1 : decode by_D_tell 1 = .ok (.getfield 16, 3) := by decide +kernel
theorem de_D_tell_4 : decode by_D_tell 4 = .ok (.ifCond .le 20, 3) := by decide +kernel
theorem de_D_tell_7 : decode by_D_tell 7 = .ok (.iload_n 1, 1) := by decide +kernel
theorem de_D_tell_8 : decode by_D_tell 8 = .ok (.aload_n 0, 1) := by decide +kernel
theorem de_D_tell_9 : decode by_D_tell 9 = .ok (.getfield 9, 3) := by decide +kernel
theorem de_D_tell_12 : decode by_D_tell 12 = .ok (.aload_n 0, 1) := by decide +kernel
theorem de_D_tell_13 : decode by_D_tell 13 = .ok (.getfield 16, 3) := by decide +kernel
theorem de_D_tell_16 : decode by_D_tell 16 = .ok (.iconst 1, 1) := by decide +kernel
theorem de_D_tell_17 : decode by_D_tell 17 = .ok (.isub, 1) := by decide +kernel
theorem de_D_tell_18 : decode by_D_tell 18 = .ok (.iaload, 1) := by decide +kernel
theorem de_D_tell_19 : decode by_D_tell 19 = .ok (.if_icmp .gt 5, 3) := by decide +kernel
theorem de_D_tell_22 : decode by_D_tell 22 = .ok (.iconst 0, 1) := by decide +kernel
theorem de_D_tell_23 : decode by_D_tell 23 = .ok (.ireturn, 1) := by decide +kernel
theorem de_D_tell_24 : decode by_D_tell 24 = .ok (.aload_n 0, 1) := by decide +kernel
theorem de_D_tell_25 : decode by_D_tell 25 = .ok (.getfield 9, 3) := by decide +kernel
theorem de_D_tell_28 : decode by_D_tell 28 = .ok (.aload_n 0, 1) := by decide +kernel
theorem de_D_tell_29 : decode by_D_tell 29 = .ok (.getfield 16, 3) := by decide +kernel
theorem de_D_tell_32 : decode by_D_tell 32 = .ok (.iload_n 1, 1) := by decide +kernel
theorem de_D_tell_33 : decode by_D_tell 33 = .ok (.iastore, 1) := by decide +kernel
theorem de_D_tell_34 : decode by_D_tell 34 = .ok (.aload_n 0, 1) := by decide +kernel
theorem de_D_tell_35 : decode by_D_tell 35 = .ok (.getfield 13, 3) := by decide +kernel
theorem de_D_tell_38 : decode by_D_tell 38 = .ok (.aload_n 0, 1) := by decide +kernel
theorem de_D_tell_39 : decode by_D_tell 39 = .ok (.getfield 16, 3) := by decide +kernel
theorem de_D_tell_42 : decode by_D_tell 42 = .ok (.iload_n 2, 1) := by decide +kernel
theorem de_D_tell_43 : decode by_D_tell 43 = .ok (.iastore, 1) := by decide +kernel
theorem de_D_tell_44 : decode by_D_tell 44 = .ok (.aload_n 0, 1) := by decide +kernel
theorem de_D_tell_45 : decode by_D_tell 45 = .ok (.dup, 1) := by decide +kernel
theorem de_D_tell_46 : decode by_D_tell 46 = .ok (.getfield 16, 3) := by decide +kernel
theorem de_D_tell_49 : decode by_D_tell 49 = .ok (.iconst 1, 1) := by decide +kernel
theorem de_D_tell_50 : decode by_D_tell 50 = .ok (.iadd, 1) := by decide +kernel
theorem de_D_tell_51 : decode by_D_tell 51 = .ok (.putfield 16, 3) := by decide +kernel
theorem de_D_tell_54 : decode by_D_tell 54 = .ok (.iconst 1, 1) := by decide +kernel
theorem de_D_tell_55 : decode by_D_tell 55 = .ok (.ireturn, 1) := by decide +kernel
theorem de_D_thousandthsOn_0 : decode by_D_thousandthsOn 0 = .ok (.iconst 0, 1) := by decide +kernel
theorem de_D_thousandthsOn_1 : decode by_D_thousandthsOn 1 = .ok (.istore_n 3, 1) := by decide +kernel
theorem de_D_thousandthsOn_2 : decode by_D_thousandthsOn 2 = .ok (.iconst 0, 1) := by decide +kernel
theorem de_D_thousandthsOn_3 : decode by_D_thousandthsOn 3 = .ok (.istore 4, 2) := by decide +kernel
theorem de_D_thousandthsOn_5 : decode by_D_thousandthsOn 5 = .ok (.iload 4, 2) := by decide +kernel
theorem de_D_thousandthsOn_7 : decode by_D_thousandthsOn 7 = .ok (.aload_n 0, 1) := by decide +kernel
theorem de_D_thousandthsOn_8 : decode by_D_thousandthsOn 8 = .ok (.getfield 16, 3) := by decide +kernel
theorem de_D_thousandthsOn_11 : decode by_D_thousandthsOn 11 = .ok (.if_icmp .ge 41, 3) := by decide +kernel
theorem de_D_thousandthsOn_14 : decode by_D_thousandthsOn 14 = .ok (.iload_n 2, 1) := by decide +kernel
theorem de_D_thousandthsOn_15 : decode by_D_thousandthsOn 15 = .ok (.iload_n 1, 1) := by decide +kernel
theorem de_D_thousandthsOn_16 : decode by_D_thousandthsOn 16 = .ok (.aload_n 0, 1) := by decide +kernel
theorem de_D_thousandthsOn_17 : decode by_D_thousandthsOn 17 = .ok (.getfield 9, 3) := by decide +kernel
theorem de_D_thousandthsOn_20 : decode by_D_thousandthsOn 20 = .ok (.iload 4, 2) := by decide +kernel
theorem de_D_thousandthsOn_22 : decode by_D_thousandthsOn 22 = .ok (.iaload, 1) := by decide +kernel
theorem de_D_thousandthsOn_23 : decode by_D_thousandthsOn 23 = .ok (.iadd, 1) := by decide +kernel
theorem de_D_thousandthsOn_24 : decode by_D_thousandthsOn 24 = .ok (.if_icmp .gt 22, 3) := by decide +kernel
theorem de_D_thousandthsOn_27 : decode by_D_thousandthsOn 27 = .ok (.aload_n 0, 1) := by decide +kernel
theorem de_D_thousandthsOn_28 : decode by_D_thousandthsOn 28 = .ok (.getfield 13, 3) := by decide +kernel
theorem de_D_thousandthsOn_31 : decode by_D_thousandthsOn 31 = .ok (.iload 4, 2) := by decide +kernel
theorem de_D_thousandthsOn_33 : decode by_D_thousandthsOn 33 = .ok (.iaload, 1) := by decide +kernel
theorem de_D_thousandthsOn_34 : decode by_D_thousandthsOn 34 = .ok (.iload_n 3, 1) := by decide +kernel
theorem de_D_thousandthsOn_35 : decode by_D_thousandthsOn 35 = .ok (.if_icmp .le 11, 3) := by decide +kernel
theorem de_D_thousandthsOn_38 : decode by_D_thousandthsOn 38 = .ok (.aload_n 0, 1) := by decide +kernel
theorem de_D_thousandthsOn_39 : decode by_D_thousandthsOn 39 = .ok (.getfield 13, 3) := by decide +kernel
theorem de_D_thousandthsOn_42 : decode by_D_thousandthsOn 42 = .ok (.iload 4, 2) := by decide +kernel
theorem de_D_thousandthsOn_44 : decode by_D_thousandthsOn 44 = .ok (.iaload, 1) := by decide +kernel
theorem de_D_thousandthsOn_45 : decode by_D_thousandthsOn 45 = .ok (.istore_n 3, 1) := by decide +kernel
theorem de_D_thousandthsOn_46 : decode by_D_thousandthsOn 46 = .ok (.iinc 4 1, 3) := by decide +kernel
theorem de_D_thousandthsOn_49 : decode by_D_thousandthsOn 49 = .ok (.goto (-44), 3) := by decide +kernel
theorem de_D_thousandthsOn_52 : decode by_D_thousandthsOn 52 = .ok (.iload_n 3, 1) := by decide +kernel
theorem de_D_thousandthsOn_53 : decode by_D_thousandthsOn 53 = .ok (.ireturn, 1) := by decide +kernel
theorem de_L_init_0 : decode by_L_init 0 = .ok (.aload_n 0, 1) := by decide +kernel
theorem de_L_init_1 : decode by_L_init 1 = .ok (.invokespecial 3, 3) := by decide +kernel
theorem de_L_init_4 : decode by_L_init 4 = .ok (.aload_n 0, 1) := by decide +kernel
theorem de_L_init_5 : decode by_L_init 5 = .ok (.bipush 40, 2) := by decide +kernel
theorem de_L_init_7 : decode by_L_init 7 = .ok (.newarray .long, 2) := by decide +kernel
theorem de_L_init_9 : decode by_L_init 9 = .ok (.putfield 9, 3) := by decide +kernel
theorem de_L_init_12 : decode by_L_init 12 = .ok (.aload_n 0, 1) := by decide +kernel
theorem de_L_init_13 : decode by_L_init 13 = .ok (.bipush 40, 2) := by decide +kernel
theorem de_L_init_15 : decode by_L_init 15 = .ok (.newarray .long, 2) := by decide +kernel
theorem de_L_init_17 : decode by_L_init 17 = .ok (.putfield 15, 3) := by decide +kernel
theorem de_L_init_20 : decode by_L_init 20 = .ok (.aload_n 0, 1) := by decide +kernel
theorem de_L_init_21 : decode by_L_init 21 = .ok (.bipush 40, 2) := by decide +kernel
theorem de_L_init_23 : decode by_L_init 23 = .ok (.newarray .long, 2) := by decide +kernel
theorem de_L_init_25 : decode by_L_init 25 = .ok (.putfield 18, 3) := by decide +kernel
theorem de_L_init_28 : decode by_L_init 28 = .ok (.aload_n 0, 1) := by decide +kernel
theorem de_L_init_29 : decode by_L_init 29 = .ok (.bipush 40, 2) := by decide +kernel
theorem de_L_init_31 : decode by_L_init 31 = .ok (.newarray .long, 2) := by decide +kernel
theorem de_L_init_33 : decode by_L_init 33 = .ok (.putfield 21, 3) := by decide +kernel
theorem de_L_init_36 : decode by_L_init 36 = .ok (.aload_n 0, 1) := by decide +kernel
theorem de_L_init_37 : decode by_L_init 37 = .ok (.bipush 40, 2) := by decide +kernel
theorem de_L_init_39 : decode by_L_init 39 = .ok (.newarray .long, 2) := by decide +kernel
theorem de_L_init_41 : decode by_L_init 41 = .ok (.putfield 24, 3) := by decide +kernel
theorem de_L_init_44 : decode by_L_init 44 = .ok (.return_, 1) := by decide +kernel
theorem de_L_isFull_0 : decode by_L_isFull 0 = .ok (.aload_n 0, 1) := by decide +kernel
theorem de_L_isFull_1 : decode by_L_isFull 1 = .ok (.getfield 27, 3) := by decide +kernel
theorem de_L_isFull_4 : decode by_L_isFull 4 = .ok (.bipush 40, 2) := by decide +kernel
theorem de_L_isFull_6 : decode by_L_isFull 6 = .ok (.if_icmp .lt 7, 3) := by decide +kernel
theorem de_L_isFull_9 : decode by_L_isFull 9 = .ok (.iconst 1, 1) := by decide +kernel
theorem de_L_isFull_10 : decode by_L_isFull 10 = .ok (.goto 4, 3) := by decide +kernel
theorem de_L_isFull_13 : decode by_L_isFull 13 = .ok (.iconst 0, 1) := by decide +kernel
theorem de_L_isFull_14 : decode by_L_isFull 14 = .ok (.ireturn, 1) := by decide +kernel
theorem de_L_append_0 : decode by_L_append 0 = .ok (.aload_n 0, 1) := by decide +kernel
theorem de_L_append_1 : decode by_L_append 1 = .ok (.getfield 9, 3) := by decide +kernel
theorem de_L_append_4 : decode by_L_append 4 = .ok (.aload_n 0, 1) := by decide +kernel
theorem de_L_append_5 : decode by_L_append 5 = .ok (.getfield 27, 3) := by decide +kernel
theorem de_L_append_8 : decode by_L_append 8 = .ok (.lload_n 1, 1) := by decide +kernel
theorem de_L_append_9 : decode by_L_append 9 = .ok (.lastore, 1) := by decide +kernel
theorem de_L_append_10 : decode by_L_append 10 = .ok (.aload_n 0, 1) := by decide +kernel
theorem de_L_append_11 : decode by_L_append 11 = .ok (.getfield 15, 3) := by decide +kernel
theorem de_L_append_14 : decode by_L_append 14 = .ok (.aload_n 0, 1) := by decide +kernel
theorem de_L_append_15 : decode by_L_append 15 = .ok (.getfield 27, 3) := by decide +kernel
theorem de_L_append_18 : decode by_L_append 18 = .ok (.lload_n 3, 1) := by decide +kernel
theorem de_L_append_19 : decode by_L_append 19 = .ok (.lastore, 1) := by decide +kernel
theorem de_L_append_20 : decode by_L_append 20 = .ok (.aload_n 0, 1) := by decide +kernel
theorem de_L_append_21 : decode by_L_append 21 = .ok (.getfield 18, 3) := by decide +kernel
theorem de_L_append_24 : decode by_L_append 24 = .ok (.aload_n 0, 1) := by decide +kernel
theorem de_L_append_25 : decode by_L_append 25 = .ok (.getfield 27, 3) := by decide +kernel
theorem de_L_append_28 : decode by_L_append 28 = .ok (.lconst 1, 1) := by decide +kernel
theorem de_L_append_29 : decode by_L_append 29 = .ok (.lastore, 1) := by decide +kernel
theorem de_L_append_30 : decode by_L_append 30 = .ok (.aload_n 0, 1) := by decide +kernel
theorem de_L_append_31 : decode by_L_append 31 = .ok (.dup, 1) := by decide +kernel
theorem de_L_append_32 : decode by_L_append 32 = .ok (.getfield 31, 3) := by decide +kernel
theorem de_L_append_35 : decode by_L_append 35 = .ok (.lload_n 1, 1) := by decide +kernel
theorem de_L_append_36 : decode by_L_append 36 = .ok (.ladd, 1) := by decide +kernel
theorem de_L_append_37 : decode by_L_append 37 = .ok (.putfield 31, 3) := by decide +kernel
theorem de_L_append_40 : decode by_L_append 40 = .ok (.aload_n 0, 1) := by decide +kernel
theorem de_L_append_41 : decode by_L_append 41 = .ok (.dup, 1) := by decide +kernel
theorem de_L_append_42 : decode by_L_append 42 = .ok (.getfield 35, 3) := by decide +kernel
theorem de_L_append_45 : decode by_L_append 45 = .ok (.lload_n 3, 1) := by decide +kernel
theorem de_L_append_46 : decode by_L_append 46 = .ok (.ladd, 1) := by decide +kernel
theorem de_L_append_47 : decode by_L_append 47 = .ok (.putfield 35, 3) := by decide +kernel
theorem de_L_append_50 : decode by_L_append 50 = .ok (.aload_n 0, 1) := by decide +kernel
theorem de_L_append_51 : decode by_L_append 51 = .ok (.dup, 1) := by decide +kernel
theorem de_L_append_52 : decode by_L_append 52 = .ok (.getfield 27, 3) := by decide +kernel
theorem de_L_append_55 : decode by_L_append 55 = .ok (.iconst 1, 1) := by decide +kernel
theorem de_L_append_56 : decode by_L_append 56 = .ok (.iadd, 1) := by decide +kernel
theorem de_L_append_57 : decode by_L_append 57 = .ok (.putfield 27, 3) := by decide +kernel
theorem de_L_append_60 : decode by_L_append 60 = .ok (.aload_n 0, 1) := by decide +kernel
theorem de_L_append_61 : decode by_L_append 61 = .ok (.getfield 27, 3) := by decide +kernel
theorem de_L_append_64 : decode by_L_append 64 = .ok (.iconst 1, 1) := by decide +kernel
theorem de_L_append_65 : decode by_L_append 65 = .ok (.isub, 1) := by decide +kernel
theorem de_L_append_66 : decode by_L_append 66 = .ok (.ireturn, 1) := by decide +kernel
theorem de_L_has_0 : decode by_L_has 0 = .ok (.iload_n 1, 1) := by decide +kernel
theorem de_L_has_1 : decode by_L_has 1 = .ok (.ifCond .lt 15, 3) := by decide +kernel
theorem de_L_has_4 : decode by_L_has 4 = .ok (.iload_n 1, 1) := by decide +kernel
theorem de_L_has_5 : decode by_L_has 5 = .ok (.aload_n 0, 1) := by decide +kernel
theorem de_L_has_6 : decode by_L_has 6 = .ok (.getfield 27, 3) := by decide +kernel
theorem de_L_has_9 : decode by_L_has 9 = .ok (.if_icmp .ge 7, 3) := by decide +kernel
theorem de_L_has_12 : decode by_L_has 12 = .ok (.iconst 1, 1) := by decide +kernel
theorem de_L_has_13 : decode by_L_has 13 = .ok (.goto 4, 3) := by decide +kernel
theorem de_L_has_16 : decode by_L_has 16 = .ok (.iconst 0, 1) := by decide +kernel
theorem de_L_has_17 : decode by_L_has 17 = .ok (.ireturn, 1) := by decide +kernel
theorem de_L_size_0 : decode by_L_size 0 = .ok (.aload_n 0, 1) := by decide +kernel
theorem de_L_size_1 : decode by_L_size 1 = .ok (.getfield 27, 3) := by decide +kernel
theorem de_L_size_4 : decode by_L_size 4 = .ok (.ireturn, 1) := by decide +kernel
theorem de_L_weightOf_0 : decode by_L_weightOf 0 = .ok (.aload_n 0, 1) := by decide +kernel
theorem de_L_weightOf_1 : decode by_L_weightOf 1 = .ok (.getfield 9, 3) := by decide +kernel
theorem de_L_weightOf_4 : decode by_L_weightOf 4 = .ok (.iload_n 1, 1) := by decide +kernel
theorem de_L_weightOf_5 : decode by_L_weightOf 5 = .ok (.laload, 1) := by decide +kernel
theorem de_L_weightOf_6 : decode by_L_weightOf 6 = .ok (.lreturn, 1) := by decide +kernel
theorem de_L_priceOf_0 : decode by_L_priceOf 0 = .ok (.aload_n 0, 1) := by decide +kernel
theorem de_L_priceOf_1 : decode by_L_priceOf 1 = .ok (.getfield 15, 3) := by decide +kernel
theorem de_L_priceOf_4 : decode by_L_priceOf 4 = .ok (.iload_n 1, 1) := by decide +kernel
theorem de_L_priceOf_5 : decode by_L_priceOf 5 = .ok (.laload, 1) := by decide +kernel
theorem de_L_priceOf_6 : decode by_L_priceOf 6 = .ok (.lreturn, 1) := by decide +kernel
theorem de_L_weightSum_0 : decode by_L_weightSum 0 = .ok (.aload_n 0, 1) := by decide +kernel
theorem de_L_weightSum_1 : decode by_L_weightSum 1 = .ok (.getfield 31, 3) := by decide +kernel
theorem de_L_weightSum_4 : decode by_L_weightSum 4 = .ok (.lreturn, 1) := by decide +kernel
theorem de_L_priceSum_0 : decode by_L_priceSum 0 = .ok (.aload_n 0, 1) := by decide +kernel
theorem de_L_priceSum_1 : decode by_L_priceSum 1 = .ok (.getfield 35, 3) := by decide +kernel
theorem de_L_priceSum_4 : decode by_L_priceSum 4 = .ok (.lreturn, 1) := by decide +kernel
theorem de_L_partOf_0 : decode by_L_partOf 0 = .ok (.aload_n 0, 1) := by decide +kernel
theorem de_L_partOf_1 : decode by_L_partOf 1 = .ok (.getfield 21, 3) := by decide +kernel
theorem de_L_partOf_4 : decode by_L_partOf 4 = .ok (.iload_n 1, 1) := by decide +kernel
theorem de_L_partOf_5 : decode by_L_partOf 5 = .ok (.laload, 1) := by decide +kernel
theorem de_L_partOf_6 : decode by_L_partOf 6 = .ok (.lreturn, 1) := by decide +kernel
theorem de_L_shareOut_0 : decode by_L_shareOut 0 = .ok (.iload_n 3, 1) := by decide +kernel
theorem de_L_shareOut_1 : decode by_L_shareOut 1 = .ok (.ifCond .eq 30, 3) := by decide +kernel
theorem de_L_shareOut_4 : decode by_L_shareOut 4 = .ok (.aload_n 0, 1) := by decide +kernel
theorem de_L_shareOut_5 : decode by_L_shareOut 5 = .ok (.getfield 31, 3) := by decide +kernel
theorem de_L_shareOut_8 : decode by_L_shareOut 8 = .ok (.lconst 0, 1) := by decide +kernel
theorem de_L_shareOut_9 : decode by_L_shareOut 9 = .ok (.lcmp, 1) := by decide +kernel
theorem de_L_shareOut_10 : decode by_L_shareOut 10 = .ok (.ifCond .le 21, 3) := by decide +kernel
theorem de_L_shareOut_13 : decode by_L_shareOut 13 = .ok (.aload_n 0, 1) := by decide +kernel
theorem de_L_shareOut_14 : decode by_L_shareOut 14 = .ok (.aload_n 0, 1) := by decide +kernel
theorem de_L_shareOut_15 : decode by_L_shareOut 15 = .ok (.getfield 9, 3) := by decide +kernel
theorem de_L_shareOut_18 : decode by_L_shareOut 18 = .ok (.lload_n 1, 1) := by decide +kernel
theorem de_L_shareOut_19 : decode by_L_shareOut 19 = .ok (.aload_n 0, 1) := by decide +kernel
theorem de_L_shareOut_20 : decode by_L_shareOut 20 = .ok (.getfield 31, 3) := by decide +kernel
theorem de_L_shareOut_23 : decode by_L_shareOut 23 = .ok (.invokevirtual 38, 3) := by decide +kernel
theorem de_L_shareOut_26 : decode by_L_shareOut 26 = .ok (.lstore 4, 2) := by decide +kernel
theorem de_L_shareOut_28 : decode by_L_shareOut 28 = .ok (.goto 46, 3) := by decide +kernel
theorem de_L_shareOut_31 : decode by_L_shareOut 31 = .ok (.aload_n 0, 1) := by decide +kernel
theorem de_L_shareOut_32 : decode by_L_shareOut 32 = .ok (.getfield 35, 3) := by decide +kernel
theorem de_L_shareOut_35 : decode by_L_shareOut 35 = .ok (.lconst 0, 1) := by decide +kernel
theorem de_L_shareOut_36 : decode by_L_shareOut 36 = .ok (.lcmp, 1) := by decide +kernel
theorem de_L_shareOut_37 : decode by_L_shareOut 37 = .ok (.ifCond .le 21, 3) := by decide +kernel
theorem de_L_shareOut_40 : decode by_L_shareOut 40 = .ok (.aload_n 0, 1) := by decide +kernel
theorem de_L_shareOut_41 : decode by_L_shareOut 41 = .ok (.aload_n 0, 1) := by decide +kernel
theorem de_L_shareOut_42 : decode by_L_shareOut 42 = .ok (.getfield 15, 3) := by decide +kernel
theorem de_L_shareOut_45 : decode by_L_shareOut 45 = .ok (.lload_n 1, 1) := by decide +kernel
theorem de_L_shareOut_46 : decode by_L_shareOut 46 = .ok (.aload_n 0, 1) := by decide +kernel
theorem de_L_shareOut_47 : decode by_L_shareOut 47 = .ok (.getfield 35, 3) := by decide +kernel
theorem de_L_shareOut_50 : decode by_L_shareOut 50 = .ok (.invokevirtual 38, 3) := by decide +kernel
theorem de_L_shareOut_53 : decode by_L_shareOut 53 = .ok (.lstore 4, 2) := by decide +kernel
theorem de_L_shareOut_55 : decode by_L_shareOut 55 = .ok (.goto 19, 3) := by decide +kernel
theorem de_L_shareOut_58 : decode by_L_shareOut 58 = .ok (.aload_n 0, 1) := by decide +kernel
theorem de_L_shareOut_59 : decode by_L_shareOut 59 = .ok (.aload_n 0, 1) := by decide +kernel
theorem de_L_shareOut_60 : decode by_L_shareOut 60 = .ok (.getfield 18, 3) := by decide +kernel
theorem de_L_shareOut_63 : decode by_L_shareOut 63 = .ok (.lload_n 1, 1) := by decide +kernel
theorem de_L_shareOut_64 : decode by_L_shareOut 64 = .ok (.aload_n 0, 1) := by decide +kernel
theorem de_L_shareOut_65 : decode by_L_shareOut 65 = .ok (.getfield 27, 3) := by decide +kernel
theorem de_L_shareOut_68 : decode by_L_shareOut 68 = .ok (.i2l, 1) := by decide +kernel
theorem de_L_shareOut_69 : decode by_L_shareOut 69 = .ok (.invokevirtual 38, 3) := by decide +kernel
theorem de_L_shareOut_72 : decode by_L_shareOut 72 = .ok (.lstore 4, 2) := by decide +kernel
theorem de_L_shareOut_74 : decode by_L_shareOut 74 = .ok (.aload_n 0, 1) := by decide +kernel
theorem de_L_shareOut_75 : decode by_L_shareOut 75 = .ok (.lload_n 1, 1) := by decide +kernel
theorem de_L_shareOut_76 : decode by_L_shareOut 76 = .ok (.lload 4, 2) := by decide +kernel
theorem de_L_shareOut_78 : decode by_L_shareOut 78 = .ok (.lsub, 1) := by decide +kernel
theorem de_L_shareOut_79 : decode by_L_shareOut 79 = .ok (.invokevirtual 42, 3) := by decide +kernel
theorem de_L_shareOut_82 : decode by_L_shareOut 82 = .ok (.return_, 1) := by decide +kernel
theorem de_L_convert_0 : decode by_L_convert 0 = .ok (.aload_n 0, 1) := by decide +kernel
theorem de_L_convert_1 : decode by_L_convert 1 = .ok (.aload_n 1, 1) := by decide +kernel
theorem de_L_convert_2 : decode by_L_convert 2 = .ok (.lload_n 2, 1) := by decide +kernel
theorem de_L_convert_3 : decode by_L_convert 3 = .ok (.lload 4, 2) := by decide +kernel
theorem de_L_convert_5 : decode by_L_convert 5 = .ok (.invokevirtual 38, 3) := by decide +kernel
theorem de_L_convert_8 : decode by_L_convert 8 = .ok (.lstore 8, 2) := by decide +kernel
theorem de_L_convert_10 : decode by_L_convert 10 = .ok (.aload_n 0, 1) := by decide +kernel
theorem de_L_convert_11 : decode by_L_convert 11 = .ok (.lload 6, 2) := by decide +kernel
theorem de_L_convert_13 : decode by_L_convert 13 = .ok (.lload 8, 2) := by decide +kernel
theorem de_L_convert_15 : decode by_L_convert 15 = .ok (.lsub, 1) := by decide +kernel
theorem de_L_convert_16 : decode by_L_convert 16 = .ok (.invokevirtual 42, 3) := by decide +kernel
theorem de_L_convert_19 : decode by_L_convert 19 = .ok (.return_, 1) := by decide +kernel
theorem de_L_floorParts_0 : decode by_L_floorParts 0 = .ok (.lload 4, 2) := by decide +kernel
theorem de_L_floorParts_2 : decode by_L_floorParts 2 = .ok (.lconst 0, 1) := by decide +kernel
theorem de_L_floorParts_3 : decode by_L_floorParts 3 = .ok (.lcmp, 1) := by decide +kernel
theorem de_L_floorParts_4 : decode by_L_floorParts 4 = .ok (.ifCond .gt 5, 3) := by decide +kernel
theorem de_L_floorParts_7 : decode by_L_floorParts 7 = .ok (.lconst 0, 1) := by decide +kernel
theorem de_L_floorParts_8 : decode by_L_floorParts 8 = .ok (.lreturn, 1) := by decide +kernel
theorem de_L_floorParts_9 : decode by_L_floorParts 9 = .ok (.lconst 0, 1) := by decide +kernel
theorem de_L_floorParts_10 : decode by_L_floorParts 10 = .ok (.lstore 6, 2) := by decide +kernel
theorem de_L_floorParts_12 : decode by_L_floorParts 12 = .ok (.iconst 0, 1) := by decide +kernel
theorem de_L_floorParts_13 : decode by_L_floorParts 13 = .ok (.istore 8, 2) := by decide +kernel
theorem de_L_floorParts_15 : decode by_L_floorParts 15 = .ok (.iload 8, 2) := by decide +kernel
theorem de_L_floorParts_17 : decode by_L_floorParts 17 = .ok (.aload_n 0, 1) := by decide +kernel
theorem de_L_floorParts_18 : decode by_L_floorParts 18 = .ok (.getfield 27, 3) := by decide +kernel
theorem de_L_floorParts_21 : decode by_L_floorParts 21 = .ok (.if_icmp .ge 53, 3) := by decide +kernel
theorem de_L_floorParts_24 : decode by_L_floorParts 24 = .ok (.aload_n 1, 1) := by decide +kernel
theorem de_L_floorParts_25 : decode by_L_floorParts 25 = .ok (.iload 8, 2) := by decide +kernel
theorem de_L_floorParts_27 : decode by_L_floorParts 27 = .ok (.laload, 1) := by decide +kernel
theorem de_L_floorParts_28 : decode by_L_floorParts 28 = .ok (.lload_n 2, 1) := by decide +kernel
theorem de_L_floorParts_29 : decode by_L_floorParts 29 = .ok (.lmul, 1) := by decide +kernel
theorem de_L_floorParts_30 : decode by_L_floorParts 30 = .ok (.lstore 9, 2) := by decide +kernel
theorem de_L_floorParts_32 : decode by_L_floorParts 32 = .ok (.aload_n 0, 1) := by decide +kernel
theorem de_L_floorParts_33 : decode by_L_floorParts 33 = .ok (.getfield 21, 3) := by decide +kernel
theorem de_L_floorParts_36 : decode by_L_floorParts 36 = .ok (.iload 8, 2) := by decide +kernel
theorem de_L_floorParts_38 : decode by_L_floorParts 38 = .ok (.lload 9, 2) := by decide +kernel
theorem de_L_floorParts_40 : decode by_L_floorParts 40 = .ok (.lload 4, 2) := by decide +kernel
theorem de_L_floorParts_42 : decode by_L_floorParts 42 = .ok (.ldiv, 1) := by decide +kernel
theorem de_L_floorParts_43 : decode by_L_floorParts 43 = .ok (.lastore, 1) := by decide +kernel
theorem de_L_floorParts_44 : decode by_L_floorParts 44 = .ok (.aload_n 0, 1) := by decide +kernel
theorem de_L_floorParts_45 : decode by_L_floorParts 45 = .ok (.getfield 24, 3) := by decide +kernel
theorem de_L_floorParts_48 : decode by_L_floorParts 48 = .ok (.iload 8, 2) := by decide +kernel
theorem de_L_floorParts_50 : decode by_L_floorParts 50 = .ok (.lload 9, 2) := by decide +kernel
theorem de_L_floorParts_52 : decode by_L_floorParts 52 = .ok (.lload 4, 2) := by decide +kernel
theorem de_L_floorParts_54 : decode by_L_floorParts 54 = .ok (.lrem, 1) := by decide +kernel
theorem de_L_floorParts_55 : decode by_L_floorParts 55 = .ok (.lastore, 1) := by decide +kernel
theorem de_L_floorParts_56 : decode by_L_floorParts 56 = .ok (.lload 6, 2) := by decide +kernel
theorem de_L_floorParts_58 : decode by_L_floorParts 58 = .ok (.aload_n 0, 1) := by decide +kernel
theorem de_L_floorParts_59 : decode by_L_floorParts 59 = .ok (.getfield 21, 3) := by decide +kernel
theorem de_L_floorParts_62 : decode by_L_floorParts 62 = .ok (.iload 8, 2) := by decide +kernel
theorem de_L_floorParts_64 : decode by_L_floorParts 64 = .ok (.laload, 1) := by decide +kernel
theorem de_L_floorParts_65 : decode by_L_floorParts 65 = .ok (.ladd, 1) := by decide +kernel
theorem de_L_floorParts_66 : decode by_L_floorParts 66 = .ok (.lstore 6, 2) := by decide +kernel
theorem de_L_floorParts_68 : decode by_L_floorParts 68 = .ok (.iinc 8 1, 3) := by decide +kernel
theorem de_L_floorParts_71 : decode by_L_floorParts 71 = .ok (.goto (-56), 3) := by decide +kernel
theorem de_L_floorParts_74 : decode by_L_floorParts 74 = .ok (.lload 6, 2) := by decide +kernel
theorem de_L_floorParts_76 : decode by_L_floorParts 76 = .ok (.lreturn, 1) := by decide +kernel
theorem de_L_handOut_0 : decode by_L_handOut 0 = .ok (.iconst 0, 1) := by decide +kernel
theorem de_L_handOut_1 : decode by_L_handOut 1 = .ok (.istore_n 3, 1) := by decide +kernel
theorem de_L_handOut_2 : decode by_L_handOut 2 = .ok (.iload_n 3, 1) := by decide +kernel
theorem de_L_handOut_3 : decode by_L_handOut 3 = .ok (.i2l, 1) := by decide +kernel
theorem de_L_handOut_4 : decode by_L_handOut 4 = .ok (.lload_n 1, 1) := by decide +kernel
theorem de_L_handOut_5 : decode by_L_handOut 5 = .ok (.lcmp, 1) := by decide +kernel
theorem de_L_handOut_6 : decode by_L_handOut 6 = .ok (.ifCond .ge 81, 3) := by decide +kernel
theorem de_L_handOut_9 : decode by_L_handOut 9 = .ok (.iload_n 3, 1) := by decide +kernel
theorem de_L_handOut_10 : decode by_L_handOut 10 = .ok (.aload_n 0, 1) := by decide +kernel
theorem de_L_handOut_11 : decode by_L_handOut 11 = .ok (.getfield 27, 3) := by decide +kernel
theorem de_L_handOut_14 : decode by_L_handOut 14 = .ok (.if_icmp .ge 73, 3) := by decide +kernel
theorem de_L_handOut_17 : decode by_L_handOut 17 = .ok (.iconst 0, 1) := by decide +kernel
theorem de_L_handOut_18 : decode by_L_handOut 18 = .ok (.istore 4, 2) := by decide +kernel
theorem de_L_handOut_20 : decode by_L_handOut 20 = .ok (.iconst 1, 1) := by decide +kernel
theorem de_L_handOut_21 : decode by_L_handOut 21 = .ok (.istore 5, 2) := by decide +kernel
theorem de_L_handOut_23 : decode by_L_handOut 23 = .ok (.iload 5, 2) := by decide +kernel
theorem de_L_handOut_25 : decode by_L_handOut 25 = .ok (.aload_n 0, 1) := by decide +kernel
theorem de_L_handOut_26 : decode by_L_handOut 26 = .ok (.getfield 27, 3) := by decide +kernel
theorem de_L_handOut_29 : decode by_L_handOut 29 = .ok (.if_icmp .ge 31, 3) := by decide +kernel
theorem de_L_handOut_32 : decode by_L_handOut 32 = .ok (.aload_n 0, 1) := by decide +kernel
theorem de_L_handOut_33 : decode by_L_handOut 33 = .ok (.getfield 24, 3) := by decide +kernel
theorem de_L_handOut_36 : decode by_L_handOut 36 = .ok (.iload 5, 2) := by decide +kernel
theorem de_L_handOut_38 : decode by_L_handOut 38 = .ok (.laload, 1) := by decide +kernel
theorem de_L_handOut_39 : decode by_L_handOut 39 = .ok (.aload_n 0, 1) := by decide +kernel
theorem de_L_handOut_40 : decode by_L_handOut 40 = .ok (.getfield 24, 3) := by decide +kernel
theorem de_L_handOut_43 : decode by_L_handOut 43 = .ok (.iload 4, 2) := by decide +kernel
theorem de_L_handOut_45 : decode by_L_handOut 45 = .ok (.laload, 1) := by decide +kernel
theorem de_L_handOut_46 : decode by_L_handOut 46 = .ok (.lcmp, 1) := by decide +kernel
theorem de_L_handOut_47 : decode by_L_handOut 47 = .ok (.ifCond .le 7, 3) := by decide +kernel
theorem de_L_handOut_50 : decode by_L_handOut 50 = .ok (.iload 5, 2) := by decide +kernel
theorem de_L_handOut_52 : decode by_L_handOut 52 = .ok (.istore 4, 2) := by decide +kernel
theorem de_L_handOut_54 : decode by_L_handOut 54 = .ok (.iinc 5 1, 3) := by decide +kernel
theorem de_L_handOut_57 : decode by_L_handOut 57 = .ok (.goto (-34), 3) := by decide +kernel
theorem de_L_handOut_60 : decode by_L_handOut 60 = .ok (.aload_n 0, 1) := by decide +kernel
theorem de_L_handOut_61 : decode by_L_handOut 61 = .ok (.getfield 21, 3) := by decide +kernel
theorem de_L_handOut_64 : decode by_L_handOut 64 = .ok (.iload 4, 2) := by decide +kernel
theorem de_L_handOut_66 : decode by_L_handOut 66 = .ok (.dup2, 1) := by decide +kernel
theorem de_L_handOut_67 : decode by_L_handOut 67 = .ok (.laload, 1) := by decide +kernel
theorem de_L_handOut_68 : decode by_L_handOut 68 = .ok (.lconst 1, 1) := by decide +kernel
theorem de_L_handOut_69 : decode by_L_handOut 69 = .ok (.ladd, 1) := by decide +kernel
theorem de_L_handOut_70 : decode by_L_handOut 70 = .ok (.lastore, 1) := by decide +kernel
theorem de_L_handOut_71 : decode by_L_handOut 71 = .ok (.aload_n 0, 1) := by decide +kernel
theorem de_L_handOut_72 : decode by_L_handOut 72 = .ok (.getfield 24, 3) := by decide +kernel
theorem de_L_handOut_75 : decode by_L_handOut 75 = .ok (.iload 4, 2) := by decide +kernel
theorem de_L_handOut_77 : decode by_L_handOut 77 = .ok (.ldc2_w 46, 3) := by decide +kernel
theorem de_L_handOut_80 : decode by_L_handOut 80 = .ok (.lastore, 1) := by decide +kernel
theorem de_L_handOut_81 : decode by_L_handOut 81 = .ok (.iinc 3 1, 3) := by decide +kernel
theorem de_L_handOut_84 : decode by_L_handOut 84 = .ok (.goto (-82), 3) := by decide +kernel
theorem de_L_handOut_87 : decode by_L_handOut 87 = .ok (.return_, 1) := by decide +kernel
theorem de_R_init_0 : decode by_R_init 0 = .ok (.aload_n 0, 1) := by decide +kernel
theorem de_R_init_1 : decode by_R_init 1 = .ok (.invokespecial 1, 3) := by decide +kernel
theorem de_R_init_4 : decode by_R_init 4 = .ok (.aload_n 0, 1) := by decide +kernel
theorem de_R_init_5 : decode by_R_init 5 = .ok (.bipush 12, 2) := by decide +kernel
theorem de_R_init_7 : decode by_R_init 7 = .ok (.newarray .int, 2) := by decide +kernel
theorem de_R_init_9 : decode by_R_init 9 = .ok (.putfield 9, 3) := by decide +kernel
theorem de_R_init_12 : decode by_R_init 12 = .ok (.aload_n 0, 1) := by decide +kernel
theorem de_R_init_13 : decode by_R_init 13 = .ok (.bipush 12, 2) := by decide +kernel
theorem de_R_init_15 : decode by_R_init 15 = .ok (.newarray .int, 2) := by decide +kernel
theorem de_R_init_17 : decode by_R_init 17 = .ok (.putfield 13, 3) := by decide +kernel
theorem de_R_init_20 : decode by_R_init 20 = .ok (.return_, 1) := by decide +kernel
theorem de_R_tell_0 : decode by_R_tell 0 = .ok (.iload_n 1, 1) := by decide +kernel
theorem de_R_tell_1 : decode by_R_tell 1 = .ok (.ifCond .lt 18, 3) := by decide +kernel
theorem de_R_tell_4 : decode by_R_tell 4 = .ok (.iload_n 1, 1) := by decide +kernel
theorem de_R_tell_5 : decode by_R_tell 5 = .ok (.bipush 12, 2) := by decide +kernel
theorem de_R_tell_7 : decode by_R_tell 7 = .ok (.if_icmp .ge 12, 3) := by decide +kernel
theorem de_R_tell_10 : decode by_R_tell 10 = .ok (.aload_n 0, 1) := by decide +kernel
theorem de_R_tell_11 : decode by_R_tell 11 = .ok (.getfield 9, 3) := by decide +kernel
theorem de_R_tell_14 : decode by_R_tell 14 = .ok (.iload_n 1, 1) := by decide +kernel
theorem de_R_tell_15 : decode by_R_tell 15 = .ok (.iaload, 1) := by decide +kernel
theorem de_R_tell_16 : decode by_R_tell 16 = .ok (.ifCond .eq 5, 3) := by decide +kernel
theorem de_R_tell_19 : decode by_R_tell 19 = .ok (.iconst 0, 1) := by decide +kernel
theorem de_R_tell_20 : decode by_R_tell 20 = .ok (.ireturn, 1) := by decide +kernel
theorem de_R_tell_21 : decode by_R_tell 21 = .ok (.iload_n 2, 1) := by decide +kernel
theorem de_R_tell_22 : decode by_R_tell 22 = .ok (.iconst 1, 1) := by decide +kernel
theorem de_R_tell_23 : decode by_R_tell 23 = .ok (.if_icmp .lt 22, 3) := by decide +kernel
theorem de_R_tell_26 : decode by_R_tell 26 = .ok (.iload_n 2, 1) := by decide +kernel
theorem de_R_tell_27 : decode by_R_tell 27 = .ok (.sipush 10000, 3) := by decide +kernel
theorem de_R_tell_30 : decode by_R_tell 30 = .ok (.if_icmp .gt 15, 3) := by decide +kernel
theorem de_R_tell_33 : decode by_R_tell 33 = .ok (.iload_n 3, 1) := by decide +kernel
theorem de_R_tell_34 : decode by_R_tell 34 = .ok (.iconst 1, 1) := by decide +kernel
theorem de_R_tell_35 : decode by_R_tell 35 = .ok (.if_icmp .lt 10, 3) := by decide +kernel
theorem de_R_tell_38 : decode by_R_tell 38 = .ok (.iload_n 3, 1) := by decide +kernel
theorem de_R_tell_39 : decode by_R_tell 39 = .ok (.sipush 10000, 3) := by decide +kernel
theorem de_R_tell_42 : decode by_R_tell 42 = .ok (.if_icmp .le 5, 3) := by decide +kernel
theorem de_R_tell_45 : decode by_R_tell 45 = .ok (.iconst 0, 1) := by decide +kernel
theorem de_R_tell_46 : decode by_R_tell 46 = .ok (.ireturn, 1) := by decide +kernel
theorem de_R_tell_47 : decode by_R_tell 47 = .ok (.aload_n 0, 1) := by decide +kernel
theorem de_R_tell_48 : decode by_R_tell 48 = .ok (.getfield 9, 3) := by decide +kernel
theorem de_R_tell_51 : decode by_R_tell 51 = .ok (.iload_n 1, 1) := by decide +kernel
theorem de_R_tell_52 : decode by_R_tell 52 = .ok (.iload_n 2, 1) := by decide +kernel
theorem de_R_tell_53 : decode by_R_tell 53 = .ok (.iastore, 1) := by decide +kernel
theorem de_R_tell_54 : decode by_R_tell 54 = .ok (.aload_n 0, 1) := by decide +kernel
theorem de_R_tell_55 : decode by_R_tell 55 = .ok (.getfield 13, 3) := by decide +kernel
theorem de_R_tell_58 : decode by_R_tell 58 = .ok (.iload_n 1, 1) := by decide +kernel
theorem de_R_tell_59 : decode by_R_tell 59 = .ok (.iload_n 3, 1) := by decide +kernel
theorem de_R_tell_60 : decode by_R_tell 60 = .ok (.iastore, 1) := by decide +kernel
theorem de_R_tell_61 : decode by_R_tell 61 = .ok (.iconst 1, 1) := by decide +kernel
theorem de_R_tell_62 : decode by_R_tell 62 = .ok (.ireturn, 1) := by decide +kernel
theorem de_R_upIn_0 : decode by_R_upIn 0 = .ok (.aload_n 0, 1) := by decide +kernel
theorem de_R_upIn_1 : decode by_R_upIn 1 = .ok (.getfield 9, 3) := by decide +kernel
theorem de_R_upIn_4 : decode by_R_upIn 4 = .ok (.iload_n 1, 1) := by decide +kernel
theorem de_R_upIn_5 : decode by_R_upIn 5 = .ok (.iaload, 1) := by decide +kernel
theorem de_R_upIn_6 : decode by_R_upIn 6 = .ok (.ifCond .ne 7, 3) := by decide +kernel
theorem de_R_upIn_9 : decode by_R_upIn 9 = .ok (.lconst 1, 1) := by decide +kernel
theorem de_R_upIn_10 : decode by_R_upIn 10 = .ok (.goto 10, 3) := by decide +kernel
theorem de_R_upIn_13 : decode by_R_upIn 13 = .ok (.aload_n 0, 1) := by decide +kernel
theorem de_R_upIn_14 : decode by_R_upIn 14 = .ok (.getfield 9, 3) := by decide +kernel
theorem de_R_upIn_17 : decode by_R_upIn 17 = .ok (.iload_n 1, 1) := by decide +kernel
theorem de_R_upIn_18 : decode by_R_upIn 18 = .ok (.iaload, 1) := by decide +kernel
theorem de_R_upIn_19 : decode by_R_upIn 19 = .ok (.i2l, 1) := by decide +kernel
theorem de_R_upIn_20 : decode by_R_upIn 20 = .ok (.lreturn, 1) := by decide +kernel
theorem de_R_downIn_0 : decode by_R_downIn 0 = .ok (.aload_n 0, 1) := by decide +kernel
theorem de_R_downIn_1 : decode by_R_downIn 1 = .ok (.getfield 13, 3) := by decide +kernel
theorem de_R_downIn_4 : decode by_R_downIn 4 = .ok (.iload_n 1, 1) := by decide +kernel
theorem de_R_downIn_5 : decode by_R_downIn 5 = .ok (.iaload, 1) := by decide +kernel
theorem de_R_downIn_6 : decode by_R_downIn 6 = .ok (.ifCond .ne 7, 3) := by decide +kernel
theorem de_R_downIn_9 : decode by_R_downIn 9 = .ok (.lconst 1, 1) := by decide +kernel
theorem de_R_downIn_10 : decode by_R_downIn 10 = .ok (.goto 10, 3) := by decide +kernel
theorem de_R_downIn_13 : decode by_R_downIn 13 = .ok (.aload_n 0, 1) := by decide +kernel
theorem de_R_downIn_14 : decode by_R_downIn 14 = .ok (.getfield 13, 3) := by decide +kernel
theorem de_R_downIn_17 : decode by_R_downIn 17 = .ok (.iload_n 1, 1) := by decide +kernel
theorem de_R_downIn_18 : decode by_R_downIn 18 = .ok (.iaload, 1) := by decide +kernel
theorem de_R_downIn_19 : decode by_R_downIn 19 = .ok (.i2l, 1) := by decide +kernel
theorem de_R_downIn_20 : decode by_R_downIn 20 = .ok (.lreturn, 1) := by decide +kernel
theorem de_W_line_0 : decode by_W_line 0 = .ok (.aload 5, 2) := by decide +kernel
theorem de_W_line_2 : decode by_W_line 2 = .ok (.iconst 0, 1) := by decide +kernel
theorem de_W_line_3 : decode by_W_line 3 = .ok (.aload_n 0, 1) := by decide +kernel
theorem de_W_line_4 : decode by_W_line 4 = .ok (.lload_n 1, 1) := by decide +kernel
theorem de_W_line_5 : decode by_W_line 5 = .ok (.lload_n 3, 1) := by decide +kernel
theorem de_W_line_6 : decode by_W_line 6 = .ok (.invokevirtual 7, 3) := by decide +kernel
theorem de_W_line_9 : decode by_W_line 9 = .ok (.i2l, 1) := by decide +kernel
theorem de_W_line_10 : decode by_W_line 10 = .ok (.lastore, 1) := by decide +kernel
theorem de_W_line_11 : decode by_W_line 11 = .ok (.goto 11, 3) := by decide +kernel
theorem de_W_line_14 : decode by_W_line 14 = .ok (.astore 6, 2) := by decide +kernel
theorem de_W_line_16 : decode by_W_line 16 = .ok (.iconst 1, 1) := by decide +kernel
theorem de_W_line_17 : decode by_W_line 17 = .ok (.ireturn, 1) := by decide +kernel
theorem de_W_line_18 : decode by_W_line 18 = .ok (.astore 6, 2) := by decide +kernel
theorem de_W_line_20 : decode by_W_line 20 = .ok (.iconst 2, 1) := by decide +kernel
theorem de_W_line_21 : decode by_W_line 21 = .ok (.ireturn, 1) := by decide +kernel
theorem de_W_line_22 : decode by_W_line 22 = .ok (.iconst 0, 1) := by decide +kernel
theorem de_W_line_23 : decode by_W_line 23 = .ok (.ireturn, 1) := by decide +kernel
theorem de_W_add_0 : decode by_W_add 0 = .ok (.aload 5, 2) := by decide +kernel
theorem de_W_add_2 : decode by_W_add 2 = .ok (.iconst 0, 1) := by decide +kernel
theorem de_W_add_3 : decode by_W_add 3 = .ok (.aload_n 0, 1) := by decide +kernel
theorem de_W_add_4 : decode by_W_add 4 = .ok (.iload_n 1, 1) := by decide +kernel
theorem de_W_add_5 : decode by_W_add 5 = .ok (.lload_n 2, 1) := by decide +kernel
theorem de_W_add_6 : decode by_W_add 6 = .ok (.iload 4, 2) := by decide +kernel
theorem de_W_add_8 : decode by_W_add 8 = .ok (.invokevirtual 17, 3) := by decide +kernel
theorem de_W_add_11 : decode by_W_add 11 = .ok (.ifCond .eq 7, 3) := by decide +kernel
theorem de_W_add_14 : decode by_W_add 14 = .ok (.lconst 1, 1) := by decide +kernel
theorem de_W_add_15 : decode by_W_add 15 = .ok (.goto 4, 3) := by decide +kernel
theorem de_W_add_18 : decode by_W_add 18 = .ok (.lconst 0, 1) := by decide +kernel
theorem de_W_add_19 : decode by_W_add 19 = .ok (.lastore, 1) := by decide +kernel
theorem de_W_add_20 : decode by_W_add 20 = .ok (.goto 7, 3) := by decide +kernel
theorem de_W_add_23 : decode by_W_add 23 = .ok (.astore 6, 2) := by decide +kernel
theorem de_W_add_25 : decode by_W_add 25 = .ok (.iconst 1, 1) := by decide +kernel
theorem de_W_add_26 : decode by_W_add 26 = .ok (.ireturn, 1) := by decide +kernel
theorem de_W_add_27 : decode by_W_add 27 = .ok (.iconst 0, 1) := by decide +kernel
theorem de_W_add_28 : decode by_W_add 28 = .ok (.ireturn, 1) := by decide +kernel
theorem de_W_less_0 : decode by_W_less 0 = .ok (.aload 5, 2) := by decide +kernel
theorem de_W_less_2 : decode by_W_less 2 = .ok (.iconst 0, 1) := by decide +kernel
theorem de_W_less_3 : decode by_W_less 3 = .ok (.aload_n 0, 1) := by decide +kernel
theorem de_W_less_4 : decode by_W_less 4 = .ok (.iload_n 1, 1) := by decide +kernel
theorem de_W_less_5 : decode by_W_less 5 = .ok (.lload_n 2, 1) := by decide +kernel
theorem de_W_less_6 : decode by_W_less 6 = .ok (.iload 4, 2) := by decide +kernel
theorem de_W_less_8 : decode by_W_less 8 = .ok (.invokevirtual 21, 3) := by decide +kernel
theorem de_W_less_11 : decode by_W_less 11 = .ok (.ifCond .eq 7, 3) := by decide +kernel
theorem de_W_less_14 : decode by_W_less 14 = .ok (.lconst 1, 1) := by decide +kernel
theorem de_W_less_15 : decode by_W_less 15 = .ok (.goto 4, 3) := by decide +kernel
theorem de_W_less_18 : decode by_W_less 18 = .ok (.lconst 0, 1) := by decide +kernel
theorem de_W_less_19 : decode by_W_less 19 = .ok (.lastore, 1) := by decide +kernel
theorem de_W_less_20 : decode by_W_less 20 = .ok (.goto 7, 3) := by decide +kernel
theorem de_W_less_23 : decode by_W_less 23 = .ok (.astore 6, 2) := by decide +kernel
theorem de_W_less_25 : decode by_W_less 25 = .ok (.iconst 1, 1) := by decide +kernel
theorem de_W_less_26 : decode by_W_less 26 = .ok (.ireturn, 1) := by decide +kernel
theorem de_W_less_27 : decode by_W_less 27 = .ok (.iconst 0, 1) := by decide +kernel
theorem de_W_less_28 : decode by_W_less 28 = .ok (.ireturn, 1) := by decide +kernel
theorem de_W_discount_0 : decode by_W_discount 0 = .ok (.aload_n 3, 1) := by decide +kernel
theorem de_W_discount_1 : decode by_W_discount 1 = .ok (.iconst 0, 1) := by decide +kernel
theorem de_W_discount_2 : decode by_W_discount 2 = .ok (.aload_n 0, 1) := by decide +kernel
theorem de_W_discount_3 : decode by_W_discount 3 = .ok (.iload_n 1, 1) := by decide +kernel
theorem de_W_discount_4 : decode by_W_discount 4 = .ok (.iload_n 2, 1) := by decide +kernel
theorem de_W_discount_5 : decode by_W_discount 5 = .ok (.invokevirtual 24, 3) := by decide +kernel
theorem de_W_discount_8 : decode by_W_discount 8 = .ok (.ifCond .eq 7, 3) := by decide +kernel
theorem de_W_discount_11 : decode by_W_discount 11 = .ok (.lconst 1, 1) := by decide +kernel
theorem de_W_discount_12 : decode by_W_discount 12 = .ok (.goto 4, 3) := by decide +kernel
theorem de_W_discount_15 : decode by_W_discount 15 = .ok (.lconst 0, 1) := by decide +kernel
theorem de_W_discount_16 : decode by_W_discount 16 = .ok (.lastore, 1) := by decide +kernel
theorem de_W_discount_17 : decode by_W_discount 17 = .ok (.goto 11, 3) := by decide +kernel
theorem de_W_discount_20 : decode by_W_discount 20 = .ok (.astore 4, 2) := by decide +kernel
theorem de_W_discount_22 : decode by_W_discount 22 = .ok (.iconst 1, 1) := by decide +kernel
theorem de_W_discount_23 : decode by_W_discount 23 = .ok (.ireturn, 1) := by decide +kernel
theorem de_W_discount_24 : decode by_W_discount 24 = .ok (.astore 4, 2) := by decide +kernel
theorem de_W_discount_26 : decode by_W_discount 26 = .ok (.iconst 2, 1) := by decide +kernel
theorem de_W_discount_27 : decode by_W_discount 27 = .ok (.ireturn, 1) := by decide +kernel
theorem de_W_discount_28 : decode by_W_discount 28 = .ok (.iconst 0, 1) := by decide +kernel
theorem de_W_discount_29 : decode by_W_discount 29 = .ok (.ireturn, 1) := by decide +kernel
theorem de_W_value_0 : decode by_W_value 0 = .ok (.aload_n 3, 1) := by decide +kernel
theorem de_W_value_1 : decode by_W_value 1 = .ok (.iconst 0, 1) := by decide +kernel
theorem de_W_value_2 : decode by_W_value 2 = .ok (.aload_n 0, 1) := by decide +kernel
theorem de_W_value_3 : decode by_W_value 3 = .ok (.iload_n 1, 1) := by decide +kernel
theorem de_W_value_4 : decode by_W_value 4 = .ok (.iload_n 2, 1) := by decide +kernel
theorem de_W_value_5 : decode by_W_value 5 = .ok (.invokevirtual 28, 3) := by decide +kernel
theorem de_W_value_8 : decode by_W_value 8 = .ok (.lastore, 1) := by decide +kernel
theorem de_W_value_9 : decode by_W_value 9 = .ok (.goto 11, 3) := by decide +kernel
theorem de_W_value_12 : decode by_W_value 12 = .ok (.astore 4, 2) := by decide +kernel
theorem de_W_value_14 : decode by_W_value 14 = .ok (.iconst 1, 1) := by decide +kernel
theorem de_W_value_15 : decode by_W_value 15 = .ok (.ireturn, 1) := by decide +kernel
theorem de_W_value_16 : decode by_W_value 16 = .ok (.astore 4, 2) := by decide +kernel
theorem de_W_value_18 : decode by_W_value 18 = .ok (.iconst 2, 1) := by decide +kernel
theorem de_W_value_19 : decode by_W_value 19 = .ok (.ireturn, 1) := by decide +kernel
theorem de_W_value_20 : decode by_W_value 20 = .ok (.iconst 0, 1) := by decide +kernel
theorem de_W_value_21 : decode by_W_value 21 = .ok (.ireturn, 1) := by decide +kernel
theorem de_W_transaction_0 : decode by_W_transaction 0 = .ok (.aload_n 2, 1) := by decide +kernel
theorem de_W_transaction_1 : decode by_W_transaction 1 = .ok (.iconst 0, 1) := by decide +kernel
theorem de_W_transaction_2 : decode by_W_transaction 2 = .ok (.aload_n 0, 1) := by decide +kernel
theorem de_W_transaction_3 : decode by_W_transaction 3 = .ok (.iload_n 1, 1) := by decide +kernel
theorem de_W_transaction_4 : decode by_W_transaction 4 = .ok (.invokevirtual 36, 3) := by decide +kernel
theorem de_W_transaction_7 : decode by_W_transaction 7 = .ok (.lastore, 1) := by decide +kernel
theorem de_W_transaction_8 : decode by_W_transaction 8 = .ok (.goto 6, 3) := by decide +kernel
theorem de_W_transaction_11 : decode by_W_transaction 11 = .ok (.astore_n 3, 1) := by decide +kernel
theorem de_W_transaction_12 : decode by_W_transaction 12 = .ok (.iconst 1, 1) := by decide +kernel
theorem de_W_transaction_13 : decode by_W_transaction 13 = .ok (.ireturn, 1) := by decide +kernel
theorem de_W_transaction_14 : decode by_W_transaction 14 = .ok (.iconst 0, 1) := by decide +kernel
theorem de_W_transaction_15 : decode by_W_transaction 15 = .ok (.ireturn, 1) := by decide +kernel
theorem de_W_share_0 : decode by_W_share 0 = .ok (.aload 5, 2) := by decide +kernel
theorem de_W_share_2 : decode by_W_share 2 = .ok (.iconst 0, 1) := by decide +kernel
theorem de_W_share_3 : decode by_W_share 3 = .ok (.aload_n 0, 1) := by decide +kernel
theorem de_W_share_4 : decode by_W_share 4 = .ok (.lload_n 1, 1) := by decide +kernel
theorem de_W_share_5 : decode by_W_share 5 = .ok (.iload_n 3, 1) := by decide +kernel
theorem de_W_share_6 : decode by_W_share 6 = .ok (.iload 4, 2) := by decide +kernel
theorem de_W_share_8 : decode by_W_share 8 = .ok (.invokevirtual 40, 3) := by decide +kernel
theorem de_W_share_11 : decode by_W_share 11 = .ok (.lastore, 1) := by decide +kernel
theorem de_W_share_12 : decode by_W_share 12 = .ok (.goto 11, 3) := by decide +kernel
theorem de_W_share_15 : decode by_W_share 15 = .ok (.astore 6, 2) := by decide +kernel
theorem de_W_share_17 : decode by_W_share 17 = .ok (.iconst 1, 1) := by decide +kernel
theorem de_W_share_18 : decode by_W_share 18 = .ok (.ireturn, 1) := by decide +kernel
theorem de_W_share_19 : decode by_W_share 19 = .ok (.astore 6, 2) := by decide +kernel
theorem de_W_share_21 : decode by_W_share 21 = .ok (.iconst 2, 1) := by decide +kernel
theorem de_W_share_22 : decode by_W_share 22 = .ok (.ireturn, 1) := by decide +kernel
theorem de_W_share_23 : decode by_W_share 23 = .ok (.iconst 0, 1) := by decide +kernel
theorem de_W_share_24 : decode by_W_share 24 = .ok (.ireturn, 1) := by decide +kernel
theorem de_W_plain_0 : decode by_W_plain 0 = .ok (.aload 4, 2) := by decide +kernel
theorem de_W_plain_2 : decode by_W_plain 2 = .ok (.iconst 0, 1) := by decide +kernel
theorem de_W_plain_3 : decode by_W_plain 3 = .ok (.aload_n 0, 1) := by decide +kernel
theorem de_W_plain_4 : decode by_W_plain 4 = .ok (.lload_n 1, 1) := by decide +kernel
theorem de_W_plain_5 : decode by_W_plain 5 = .ok (.iload_n 3, 1) := by decide +kernel
theorem de_W_plain_6 : decode by_W_plain 6 = .ok (.invokevirtual 44, 3) := by decide +kernel
theorem de_W_plain_9 : decode by_W_plain 9 = .ok (.lastore, 1) := by decide +kernel
theorem de_W_plain_10 : decode by_W_plain 10 = .ok (.goto 15, 3) := by decide +kernel
theorem de_W_plain_13 : decode by_W_plain 13 = .ok (.astore 5, 2) := by decide +kernel
theorem de_W_plain_15 : decode by_W_plain 15 = .ok (.iconst 1, 1) := by decide +kernel
theorem de_W_plain_16 : decode by_W_plain 16 = .ok (.ireturn, 1) := by decide +kernel
theorem de_W_plain_17 : decode by_W_plain 17 = .ok (.astore 5, 2) := by decide +kernel
theorem de_W_plain_19 : decode by_W_plain 19 = .ok (.iconst 2, 1) := by decide +kernel
theorem de_W_plain_20 : decode by_W_plain 20 = .ok (.ireturn, 1) := by decide +kernel
theorem de_W_plain_21 : decode by_W_plain 21 = .ok (.astore 5, 2) := by decide +kernel
theorem de_W_plain_23 : decode by_W_plain 23 = .ok (.iconst 3, 1) := by decide +kernel
theorem de_W_plain_24 : decode by_W_plain 24 = .ok (.ireturn, 1) := by decide +kernel
theorem de_W_plain_25 : decode by_W_plain 25 = .ok (.iconst 0, 1) := by decide +kernel
theorem de_W_plain_26 : decode by_W_plain 26 = .ok (.ireturn, 1) := by decide +kernel
