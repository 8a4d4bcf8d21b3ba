theorem dX0_init_0 : decode cX0_init 0 = .ok (.aload_n 0, 1) := by decide +kernel
theorem dX0_init_1 : decode cX0_init 1 = .ok (.invokespecial 3, 3) := by decide +kernel
theorem dX0_init_4 : decode cX0_init 4 = .ok (.aload_n 0, 1) := by decide +kernel
theorem dX0_init_5 : decode cX0_init 5 = .ok (.iconst (-1), 1) := by decide +kernel
theorem dX0_init_6 : decode cX0_init 6 = .ok (.putfield 9, 3) := by decide +kernel
theorem dX0_init_9 : decode cX0_init 9 = .ok (.aload_n 0, 1) := by decide +kernel
theorem dX0_init_10 : decode cX0_init 10 = .ok (.iconst (-1), 1) := by decide +kernel
theorem dX0_init_11 : decode cX0_init 11 = .ok (.putfield 15, 3) := by decide +kernel
theorem dX0_init_14 : decode cX0_init 14 = .ok (.aload_n 0, 1) := by decide +kernel
theorem dX0_init_15 : decode cX0_init 15 = .ok (.iload_n 1, 1) := by decide +kernel
theorem dX0_init_16 : decode cX0_init 16 = .ok (.putfield 18, 3) := by decide +kernel
theorem dX0_init_19 : decode cX0_init 19 = .ok (.aload_n 0, 1) := by decide +kernel
theorem dX0_init_20 : decode cX0_init 20 = .ok (.iload_n 2, 1) := by decide +kernel
theorem dX0_init_21 : decode cX0_init 21 = .ok (.putfield 21, 3) := by decide +kernel
theorem dX0_init_24 : decode cX0_init 24 = .ok (.aload_n 0, 1) := by decide +kernel
theorem dX0_init_25 : decode cX0_init 25 = .ok (.aload_n 3, 1) := by decide +kernel
theorem dX0_init_26 : decode cX0_init 26 = .ok (.putfield 24, 3) := by decide +kernel
theorem dX0_init_29 : decode cX0_init 29 = .ok (.aload_n 0, 1) := by decide +kernel
theorem dX0_init_30 : decode cX0_init 30 = .ok (.iload 4, 2) := by decide +kernel
theorem dX0_init_32 : decode cX0_init 32 = .ok (.putfield 28, 3) := by decide +kernel
theorem dX0_init_35 : decode cX0_init 35 = .ok (.aload_n 0, 1) := by decide +kernel
theorem dX0_init_36 : decode cX0_init 36 = .ok (.iload 5, 2) := by decide +kernel
theorem dX0_init_38 : decode cX0_init 38 = .ok (.putfield 31, 3) := by decide +kernel
theorem dX0_init_41 : decode cX0_init 41 = .ok (.aload_n 0, 1) := by decide +kernel
theorem dX0_init_42 : decode cX0_init 42 = .ok (.iload 6, 2) := by decide +kernel
theorem dX0_init_44 : decode cX0_init 44 = .ok (.putfield 34, 3) := by decide +kernel
theorem dX0_init_47 : decode cX0_init 47 = .ok (.aload_n 0, 1) := by decide +kernel
theorem dX0_init_48 : decode cX0_init 48 = .ok (.iload 7, 2) := by decide +kernel
theorem dX0_init_50 : decode cX0_init 50 = .ok (.putfield 37, 3) := by decide +kernel
theorem dX0_init_53 : decode cX0_init 53 = .ok (.return_, 1) := by decide +kernel
theorem dX1_init_0 : decode cX1_init 0 = .ok (.aload_n 0, 1) := by decide +kernel
theorem dX1_init_1 : decode cX1_init 1 = .ok (.invokespecial 3, 3) := by decide +kernel
theorem dX1_init_4 : decode cX1_init 4 = .ok (.aload_n 0, 1) := by decide +kernel
theorem dX1_init_5 : decode cX1_init 5 = .ok (.bipush 10, 2) := by decide +kernel
theorem dX1_init_7 : decode cX1_init 7 = .ok (.putfield 9, 3) := by decide +kernel
theorem dX1_init_10 : decode cX1_init 10 = .ok (.aload_n 0, 1) := by decide +kernel
theorem dX1_init_11 : decode cX1_init 11 = .ok (.iconst 0, 1) := by decide +kernel
theorem dX1_init_12 : decode cX1_init 12 = .ok (.putfield 15, 3) := by decide +kernel
theorem dX1_init_15 : decode cX1_init 15 = .ok (.aload_n 0, 1) := by decide +kernel
theorem dX1_init_16 : decode cX1_init 16 = .ok (.iconst 0, 1) := by decide +kernel
theorem dX1_init_17 : decode cX1_init 17 = .ok (.putfield 18, 3) := by decide +kernel
theorem dX1_init_20 : decode cX1_init 20 = .ok (.aload_n 0, 1) := by decide +kernel
theorem dX1_init_21 : decode cX1_init 21 = .ok (.iconst (-1), 1) := by decide +kernel
theorem dX1_init_22 : decode cX1_init 22 = .ok (.putfield 21, 3) := by decide +kernel
theorem dX1_init_25 : decode cX1_init 25 = .ok (.aload_n 0, 1) := by decide +kernel
theorem dX1_init_26 : decode cX1_init 26 = .ok (.iload_n 1, 1) := by decide +kernel
theorem dX1_init_27 : decode cX1_init 27 = .ok (.putfield 24, 3) := by decide +kernel
theorem dX1_init_30 : decode cX1_init 30 = .ok (.return_, 1) := by decide +kernel
theorem dX2_init_0 : decode cX2_init 0 = .ok (.aload_n 0, 1) := by decide +kernel
theorem dX2_init_1 : decode cX2_init 1 = .ok (.invokespecial 1, 3) := by decide +kernel
theorem dX2_init_4 : decode cX2_init 4 = .ok (.aload_n 0, 1) := by decide +kernel
theorem dX2_init_5 : decode cX2_init 5 = .ok (.iload_n 1, 1) := by decide +kernel
theorem dX2_init_6 : decode cX2_init 6 = .ok (.putfield 7, 3) := by decide +kernel
theorem dX2_init_9 : decode cX2_init 9 = .ok (.aload_n 0, 1) := by decide +kernel
theorem dX2_init_10 : decode cX2_init 10 = .ok (.iload_n 2, 1) := by decide +kernel
theorem dX2_init_11 : decode cX2_init 11 = .ok (.putfield 13, 3) := by decide +kernel
theorem dX2_init_14 : decode cX2_init 14 = .ok (.aload_n 0, 1) := by decide +kernel
theorem dX2_init_15 : decode cX2_init 15 = .ok (.aload_n 3, 1) := by decide +kernel
theorem dX2_init_16 : decode cX2_init 16 = .ok (.putfield 16, 3) := by decide +kernel
theorem dX2_init_19 : decode cX2_init 19 = .ok (.return_, 1) := by decide +kernel
theorem dX3_init_0 : decode cX3_init 0 = .ok (.aload_n 0, 1) := by decide +kernel
theorem dX3_init_1 : decode cX3_init 1 = .ok (.invokespecial 3, 3) := by decide +kernel
theorem dX3_init_4 : decode cX3_init 4 = .ok (.aload_n 0, 1) := by decide +kernel
theorem dX3_init_5 : decode cX3_init 5 = .ok (.iconst 0, 1) := by decide +kernel
theorem dX3_init_6 : decode cX3_init 6 = .ok (.putfield 9, 3) := by decide +kernel
theorem dX3_init_9 : decode cX3_init 9 = .ok (.aload_n 0, 1) := by decide +kernel
theorem dX3_init_10 : decode cX3_init 10 = .ok (.iconst (-1), 1) := by decide +kernel
theorem dX3_init_11 : decode cX3_init 11 = .ok (.putfield 15, 3) := by decide +kernel
theorem dX3_init_14 : decode cX3_init 14 = .ok (.aload_n 0, 1) := by decide +kernel
theorem dX3_init_15 : decode cX3_init 15 = .ok (.iconst (-1), 1) := by decide +kernel
theorem dX3_init_16 : decode cX3_init 16 = .ok (.putfield 18, 3) := by decide +kernel
theorem dX3_init_19 : decode cX3_init 19 = .ok (.aload_n 0, 1) := by decide +kernel
theorem dX3_init_20 : decode cX3_init 20 = .ok (.iload_n 1, 1) := by decide +kernel
theorem dX3_init_21 : decode cX3_init 21 = .ok (.putfield 21, 3) := by decide +kernel
theorem dX3_init_24 : decode cX3_init 24 = .ok (.aload_n 0, 1) := by decide +kernel
theorem dX3_init_25 : decode cX3_init 25 = .ok (.iload_n 2, 1) := by decide +kernel
theorem dX3_init_26 : decode cX3_init 26 = .ok (.putfield 24, 3) := by decide +kernel
theorem dX3_init_29 : decode cX3_init 29 = .ok (.aload_n 0, 1) := by decide +kernel
theorem dX3_init_30 : decode cX3_init 30 = .ok (.iload_n 3, 1) := by decide +kernel
theorem dX3_init_31 : decode cX3_init 31 = .ok (.putfield 27, 3) := by decide +kernel
theorem dX3_init_34 : decode cX3_init 34 = .ok (.return_, 1) := by decide +kernel
theorem dX4_init_0 : decode cX4_init 0 = .ok (.aload_n 0, 1) := by decide +kernel
theorem dX4_init_1 : decode cX4_init 1 = .ok (.invokespecial 1, 3) := by decide +kernel
theorem dX4_init_4 : decode cX4_init 4 = .ok (.aload_n 0, 1) := by decide +kernel
theorem dX4_init_5 : decode cX4_init 5 = .ok (.bipush 36, 2) := by decide +kernel
theorem dX4_init_7 : decode cX4_init 7 = .ok (.anewarray 9, 3) := by decide +kernel
theorem dX4_init_10 : decode cX4_init 10 = .ok (.putfield 11, 3) := by decide +kernel
theorem dX4_init_13 : decode cX4_init 13 = .ok (.aload_n 0, 1) := by decide +kernel
theorem dX4_init_14 : decode cX4_init 14 = .ok (.iconst 3, 1) := by decide +kernel
theorem dX4_init_15 : decode cX4_init 15 = .ok (.anewarray 15, 3) := by decide +kernel
theorem dX4_init_18 : decode cX4_init 18 = .ok (.putfield 17, 3) := by decide +kernel
theorem dX4_init_21 : decode cX4_init 21 = .ok (.aload_n 0, 1) := by decide +kernel
theorem dX4_init_22 : decode cX4_init 22 = .ok (.bipush 24, 2) := by decide +kernel
theorem dX4_init_24 : decode cX4_init 24 = .ok (.anewarray 21, 3) := by decide +kernel
theorem dX4_init_27 : decode cX4_init 27 = .ok (.putfield 23, 3) := by decide +kernel
theorem dX4_init_30 : decode cX4_init 30 = .ok (.aload_n 0, 1) := by decide +kernel
theorem dX4_init_31 : decode cX4_init 31 = .ok (.iconst 4, 1) := by decide +kernel
theorem dX4_init_32 : decode cX4_init 32 = .ok (.anewarray 27, 3) := by decide +kernel
theorem dX4_init_35 : decode cX4_init 35 = .ok (.putfield 29, 3) := by decide +kernel
theorem dX4_init_38 : decode cX4_init 38 = .ok (.iconst 0, 1) := by decide +kernel
theorem dX4_init_39 : decode cX4_init 39 = .ok (.istore_n 1, 1) := by decide +kernel
theorem dX4_init_40 : decode cX4_init 40 = .ok (.iload_n 1, 1) := by decide +kernel
theorem dX4_init_41 : decode cX4_init 41 = .ok (.aload_n 0, 1) := by decide +kernel
theorem dX4_init_42 : decode cX4_init 42 = .ok (.getfield 11, 3) := by decide +kernel
theorem dX4_init_45 : decode cX4_init 45 = .ok (.arraylength, 1) := by decide +kernel
theorem dX4_init_46 : decode cX4_init 46 = .ok (.if_icmp .ge 23, 3) := by decide +kernel
theorem dX4_init_49 : decode cX4_init 49 = .ok (.aload_n 0, 1) := by decide +kernel
theorem dX4_init_50 : decode cX4_init 50 = .ok (.getfield 11, 3) := by decide +kernel
theorem dX4_init_53 : decode cX4_init 53 = .ok (.iload_n 1, 1) := by decide +kernel
theorem dX4_init_54 : decode cX4_init 54 = .ok (.new 9, 3) := by decide +kernel
theorem dX4_init_57 : decode cX4_init 57 = .ok (.dup, 1) := by decide +kernel
theorem dX4_init_58 : decode cX4_init 58 = .ok (.iload_n 1, 1) := by decide +kernel
theorem dX4_init_59 : decode cX4_init 59 = .ok (.invokespecial 33, 3) := by decide +kernel
theorem dX4_init_62 : decode cX4_init 62 = .ok (.aastore, 1) := by decide +kernel
theorem dX4_init_63 : decode cX4_init 63 = .ok (.iinc 1 1, 3) := by decide +kernel
theorem dX4_init_66 : decode cX4_init 66 = .ok (.goto (-26), 3) := by decide +kernel
theorem dX4_init_69 : decode cX4_init 69 = .ok (.aload_n 0, 1) := by decide +kernel
theorem dX4_init_70 : decode cX4_init 70 = .ok (.getfield 17, 3) := by decide +kernel
theorem dX4_init_73 : decode cX4_init 73 = .ok (.iconst 0, 1) := by decide +kernel
theorem dX4_init_74 : decode cX4_init 74 = .ok (.new 15, 3) := by decide +kernel
theorem dX4_init_77 : decode cX4_init 77 = .ok (.dup, 1) := by decide +kernel
theorem dX4_init_78 : decode cX4_init 78 = .ok (.iconst 0, 1) := by decide +kernel
theorem dX4_init_79 : decode cX4_init 79 = .ok (.iconst 5, 1) := by decide +kernel
theorem dX4_init_80 : decode cX4_init 80 = .ok (.aconst_null, 1) := by decide +kernel
theorem dX4_init_81 : decode cX4_init 81 = .ok (.invokespecial 36, 3) := by decide +kernel
theorem dX4_init_84 : decode cX4_init 84 = .ok (.aastore, 1) := by decide +kernel
theorem dX4_init_85 : decode cX4_init 85 = .ok (.aload_n 0, 1) := by decide +kernel
theorem dX4_init_86 : decode cX4_init 86 = .ok (.getfield 17, 3) := by decide +kernel
theorem dX4_init_89 : decode cX4_init 89 = .ok (.iconst 1, 1) := by decide +kernel
theorem dX4_init_90 : decode cX4_init 90 = .ok (.new 15, 3) := by decide +kernel
theorem dX4_init_93 : decode cX4_init 93 = .ok (.dup, 1) := by decide +kernel
theorem dX4_init_94 : decode cX4_init 94 = .ok (.iconst 0, 1) := by decide +kernel
theorem dX4_init_95 : decode cX4_init 95 = .ok (.bipush 20, 2) := by decide +kernel
theorem dX4_init_97 : decode cX4_init 97 = .ok (.aconst_null, 1) := by decide +kernel
theorem dX4_init_98 : decode cX4_init 98 = .ok (.invokespecial 36, 3) := by decide +kernel
theorem dX4_init_101 : decode cX4_init 101 = .ok (.aastore, 1) := by decide +kernel
theorem dX4_init_102 : decode cX4_init 102 = .ok (.aload_n 0, 1) := by decide +kernel
theorem dX4_init_103 : decode cX4_init 103 = .ok (.getfield 17, 3) := by decide +kernel
theorem dX4_init_106 : decode cX4_init 106 = .ok (.iconst 2, 1) := by decide +kernel
theorem dX4_init_107 : decode cX4_init 107 = .ok (.new 15, 3) := by decide +kernel
theorem dX4_init_110 : decode cX4_init 110 = .ok (.dup, 1) := by decide +kernel
theorem dX4_init_111 : decode cX4_init 111 = .ok (.iconst 0, 1) := by decide +kernel
theorem dX4_init_112 : decode cX4_init 112 = .ok (.bipush 30, 2) := by decide +kernel
theorem dX4_init_114 : decode cX4_init 114 = .ok (.aconst_null, 1) := by decide +kernel
theorem dX4_init_115 : decode cX4_init 115 = .ok (.invokespecial 36, 3) := by decide +kernel
theorem dX4_init_118 : decode cX4_init 118 = .ok (.aastore, 1) := by decide +kernel
theorem dX4_init_119 : decode cX4_init 119 = .ok (.return_, 1) := by decide +kernel
theorem dX4_plot_0 : decode cX4_plot 0 = .ok (.aload_n 0, 1) := by decide +kernel
theorem dX4_plot_1 : decode cX4_plot 1 = .ok (.iload_n 1, 1) := by decide +kernel
theorem dX4_plot_2 : decode cX4_plot 2 = .ok (.invokevirtual 39, 3) := by decide +kernel
theorem dX4_plot_5 : decode cX4_plot 5 = .ok (.astore 4, 2) := by decide +kernel
theorem dX4_plot_7 : decode cX4_plot 7 = .ok (.aload 4, 2) := by decide +kernel
theorem dX4_plot_9 : decode cX4_plot 9 = .ok (.ifnonnull 13, 3) := by decide +kernel
theorem dX4_plot_12 : decode cX4_plot 12 = .ok (.new 43, 3) := by decide +kernel
theorem dX4_plot_15 : decode cX4_plot 15 = .ok (.dup, 1) := by decide +kernel
theorem dX4_plot_16 : decode cX4_plot 16 = .ok (.ldc 45, 2) := by decide +kernel
theorem dX4_plot_18 : decode cX4_plot 18 = .ok (.invokespecial 47, 3) := by decide +kernel
theorem dX4_plot_21 : decode cX4_plot 21 = .ok (.athrow, 1) := by decide +kernel
theorem dX4_plot_22 : decode cX4_plot 22 = .ok (.iload_n 2, 1) := by decide +kernel
theorem dX4_plot_23 : decode cX4_plot 23 = .ok (.iconst 1, 1) := by decide +kernel
theorem dX4_plot_24 : decode cX4_plot 24 = .ok (.bipush 100, 2) := by decide +kernel
theorem dX4_plot_26 : decode cX4_plot 26 = .ok (.invokestatic 50, 3) := by decide +kernel
theorem dX4_plot_29 : decode cX4_plot 29 = .ok (.ifCond .eq 10, 3) := by decide +kernel
theorem dX4_plot_32 : decode cX4_plot 32 = .ok (.iload_n 3, 1) := by decide +kernel
theorem dX4_plot_33 : decode cX4_plot 33 = .ok (.invokestatic 54, 3) := by decide +kernel
theorem dX4_plot_36 : decode cX4_plot 36 = .ok (.ifCond .ne 13, 3) := by decide +kernel
theorem dX4_plot_39 : decode cX4_plot 39 = .ok (.new 58, 3) := by decide +kernel
theorem dX4_plot_42 : decode cX4_plot 42 = .ok (.dup, 1) := by decide +kernel
theorem dX4_plot_43 : decode cX4_plot 43 = .ok (.ldc 60, 2) := by decide +kernel
theorem dX4_plot_45 : decode cX4_plot 45 = .ok (.invokespecial 62, 3) := by decide +kernel
theorem dX4_plot_48 : decode cX4_plot 48 = .ok (.athrow, 1) := by decide +kernel
theorem dX4_plot_49 : decode cX4_plot 49 = .ok (.aload 4, 2) := by decide +kernel
theorem dX4_plot_51 : decode cX4_plot 51 = .ok (.getfield 63, 3) := by decide +kernel
theorem dX4_plot_54 : decode cX4_plot 54 = .ok (.ifCond .ne 11, 3) := by decide +kernel
theorem dX4_plot_57 : decode cX4_plot 57 = .ok (.aload 4, 2) := by decide +kernel
theorem dX4_plot_59 : decode cX4_plot 59 = .ok (.invokestatic 67, 3) := by decide +kernel
theorem dX4_plot_62 : decode cX4_plot 62 = .ok (.ifCond .eq 13, 3) := by decide +kernel
theorem dX4_plot_65 : decode cX4_plot 65 = .ok (.new 71, 3) := by decide +kernel
theorem dX4_plot_68 : decode cX4_plot 68 = .ok (.dup, 1) := by decide +kernel
theorem dX4_plot_69 : decode cX4_plot 69 = .ok (.ldc 73, 2) := by decide +kernel
theorem dX4_plot_71 : decode cX4_plot 71 = .ok (.invokespecial 75, 3) := by decide +kernel
theorem dX4_plot_74 : decode cX4_plot 74 = .ok (.athrow, 1) := by decide +kernel
theorem dX4_plot_75 : decode cX4_plot 75 = .ok (.aload 4, 2) := by decide +kernel
theorem dX4_plot_77 : decode cX4_plot 77 = .ok (.getfield 76, 3) := by decide +kernel
theorem dX4_plot_80 : decode cX4_plot 80 = .ok (.istore 5, 2) := by decide +kernel
theorem dX4_plot_82 : decode cX4_plot 82 = .ok (.aload 4, 2) := by decide +kernel
theorem dX4_plot_84 : decode cX4_plot 84 = .ok (.iload_n 2, 1) := by decide +kernel
theorem dX4_plot_85 : decode cX4_plot 85 = .ok (.putfield 76, 3) := by decide +kernel
theorem dX4_plot_88 : decode cX4_plot 88 = .ok (.aload 4, 2) := by decide +kernel
theorem dX4_plot_90 : decode cX4_plot 90 = .ok (.iload_n 3, 1) := by decide +kernel
theorem dX4_plot_91 : decode cX4_plot 91 = .ok (.putfield 79, 3) := by decide +kernel
theorem dX4_plot_94 : decode cX4_plot 94 = .ok (.iload 5, 2) := by decide +kernel
theorem dX4_plot_96 : decode cX4_plot 96 = .ok (.ireturn, 1) := by decide +kernel
theorem dX4_price_0 : decode cX4_price 0 = .ok (.iload_n 1, 1) := by decide +kernel
theorem dX4_price_1 : decode cX4_price 1 = .ok (.ifCond .lt 23, 3) := by decide +kernel
theorem dX4_price_4 : decode cX4_price 4 = .ok (.iload_n 1, 1) := by decide +kernel
theorem dX4_price_5 : decode cX4_price 5 = .ok (.aload_n 0, 1) := by decide +kernel
theorem dX4_price_6 : decode cX4_price 6 = .ok (.getfield 17, 3) := by decide +kernel
theorem dX4_price_9 : decode cX4_price 9 = .ok (.arraylength, 1) := by decide +kernel
theorem dX4_price_10 : decode cX4_price 10 = .ok (.if_icmp .ge 14, 3) := by decide +kernel
theorem dX4_price_13 : decode cX4_price 13 = .ok (.iload_n 2, 1) := by decide +kernel
theorem dX4_price_14 : decode cX4_price 14 = .ok (.iconst 0, 1) := by decide +kernel
theorem dX4_price_15 : decode cX4_price 15 = .ok (.sipush 1000, 3) := by decide +kernel
theorem dX4_price_18 : decode cX4_price 18 = .ok (.invokestatic 50, 3) := by decide +kernel
theorem dX4_price_21 : decode cX4_price 21 = .ok (.ifCond .ne 13, 3) := by decide +kernel
theorem dX4_price_24 : decode cX4_price 24 = .ok (.new 58, 3) := by decide +kernel
theorem dX4_price_27 : decode cX4_price 27 = .ok (.dup, 1) := by decide +kernel
theorem dX4_price_28 : decode cX4_price 28 = .ok (.ldc 82, 2) := by decide +kernel
theorem dX4_price_30 : decode cX4_price 30 = .ok (.invokespecial 62, 3) := by decide +kernel
theorem dX4_price_33 : decode cX4_price 33 = .ok (.athrow, 1) := by decide +kernel
theorem dX4_price_34 : decode cX4_price 34 = .ok (.aload_n 0, 1) := by decide +kernel
theorem dX4_price_35 : decode cX4_price 35 = .ok (.iload_n 1, 1) := by decide +kernel
theorem dX4_price_36 : decode cX4_price 36 = .ok (.aload_n 0, 1) := by decide +kernel
theorem dX4_price_37 : decode cX4_price 37 = .ok (.getfield 84, 3) := by decide +kernel
theorem dX4_price_40 : decode cX4_price 40 = .ok (.invokevirtual 87, 3) := by decide +kernel
theorem dX4_price_43 : decode cX4_price 43 = .ok (.invokestatic 91, 3) := by decide +kernel
theorem dX4_price_46 : decode cX4_price 46 = .ok (.istore_n 3, 1) := by decide +kernel
theorem dX4_price_47 : decode cX4_price 47 = .ok (.aload_n 0, 1) := by decide +kernel
theorem dX4_price_48 : decode cX4_price 48 = .ok (.getfield 17, 3) := by decide +kernel
theorem dX4_price_51 : decode cX4_price 51 = .ok (.iload_n 1, 1) := by decide +kernel
theorem dX4_price_52 : decode cX4_price 52 = .ok (.new 15, 3) := by decide +kernel
theorem dX4_price_55 : decode cX4_price 55 = .ok (.dup, 1) := by decide +kernel
theorem dX4_price_56 : decode cX4_price 56 = .ok (.aload_n 0, 1) := by decide +kernel
theorem dX4_price_57 : decode cX4_price 57 = .ok (.getfield 84, 3) := by decide +kernel
theorem dX4_price_60 : decode cX4_price 60 = .ok (.iload_n 2, 1) := by decide +kernel
theorem dX4_price_61 : decode cX4_price 61 = .ok (.aload_n 0, 1) := by decide +kernel
theorem dX4_price_62 : decode cX4_price 62 = .ok (.iload_n 1, 1) := by decide +kernel
theorem dX4_price_63 : decode cX4_price 63 = .ok (.aload_n 0, 1) := by decide +kernel
theorem dX4_price_64 : decode cX4_price 64 = .ok (.getfield 84, 3) := by decide +kernel
theorem dX4_price_67 : decode cX4_price 67 = .ok (.iconst 1, 1) := by decide +kernel
theorem dX4_price_68 : decode cX4_price 68 = .ok (.isub, 1) := by decide +kernel
theorem dX4_price_69 : decode cX4_price 69 = .ok (.invokevirtual 87, 3) := by decide +kernel
theorem dX4_price_72 : decode cX4_price 72 = .ok (.invokespecial 36, 3) := by decide +kernel
theorem dX4_price_75 : decode cX4_price 75 = .ok (.aastore, 1) := by decide +kernel
theorem dX4_price_76 : decode cX4_price 76 = .ok (.iload_n 3, 1) := by decide +kernel
theorem dX4_price_77 : decode cX4_price 77 = .ok (.ireturn, 1) := by decide +kernel
theorem dX4_worth_0 : decode cX4_worth 0 = .ok (.aload_n 0, 1) := by decide +kernel
theorem dX4_worth_1 : decode cX4_worth 1 = .ok (.iload_n 1, 1) := by decide +kernel
theorem dX4_worth_2 : decode cX4_worth 2 = .ok (.invokevirtual 39, 3) := by decide +kernel
theorem dX4_worth_5 : decode cX4_worth 5 = .ok (.astore_n 3, 1) := by decide +kernel
theorem dX4_worth_6 : decode cX4_worth 6 = .ok (.aload_n 3, 1) := by decide +kernel
theorem dX4_worth_7 : decode cX4_worth 7 = .ok (.ifnonnull 13, 3) := by decide +kernel
theorem dX4_worth_10 : decode cX4_worth 10 = .ok (.new 43, 3) := by decide +kernel
theorem dX4_worth_13 : decode cX4_worth 13 = .ok (.dup, 1) := by decide +kernel
theorem dX4_worth_14 : decode cX4_worth 14 = .ok (.ldc 45, 2) := by decide +kernel
theorem dX4_worth_16 : decode cX4_worth 16 = .ok (.invokespecial 47, 3) := by decide +kernel
theorem dX4_worth_19 : decode cX4_worth 19 = .ok (.athrow, 1) := by decide +kernel
theorem dX4_worth_20 : decode cX4_worth 20 = .ok (.iload_n 2, 1) := by decide +kernel
theorem dX4_worth_21 : decode cX4_worth 21 = .ok (.iconst 0, 1) := by decide +kernel
theorem dX4_worth_22 : decode cX4_worth 22 = .ok (.aload_n 0, 1) := by decide +kernel
theorem dX4_worth_23 : decode cX4_worth 23 = .ok (.getfield 84, 3) := by decide +kernel
theorem dX4_worth_26 : decode cX4_worth 26 = .ok (.invokestatic 50, 3) := by decide +kernel
theorem dX4_worth_29 : decode cX4_worth 29 = .ok (.ifCond .ne 13, 3) := by decide +kernel
theorem dX4_worth_32 : decode cX4_worth 32 = .ok (.new 58, 3) := by decide +kernel
theorem dX4_worth_35 : decode cX4_worth 35 = .ok (.dup, 1) := by decide +kernel
theorem dX4_worth_36 : decode cX4_worth 36 = .ok (.ldc 95, 2) := by decide +kernel
theorem dX4_worth_38 : decode cX4_worth 38 = .ok (.invokespecial 62, 3) := by decide +kernel
theorem dX4_worth_41 : decode cX4_worth 41 = .ok (.athrow, 1) := by decide +kernel
theorem dX4_worth_42 : decode cX4_worth 42 = .ok (.aload_n 3, 1) := by decide +kernel
theorem dX4_worth_43 : decode cX4_worth 43 = .ok (.aload_n 0, 1) := by decide +kernel
theorem dX4_worth_44 : decode cX4_worth 44 = .ok (.aload_n 3, 1) := by decide +kernel
theorem dX4_worth_45 : decode cX4_worth 45 = .ok (.getfield 79, 3) := by decide +kernel
theorem dX4_worth_48 : decode cX4_worth 48 = .ok (.iload_n 2, 1) := by decide +kernel
theorem dX4_worth_49 : decode cX4_worth 49 = .ok (.invokevirtual 87, 3) := by decide +kernel
theorem dX4_worth_52 : decode cX4_worth 52 = .ok (.invokestatic 97, 3) := by decide +kernel
theorem dX4_worth_55 : decode cX4_worth 55 = .ok (.ireturn, 1) := by decide +kernel
theorem dX4_market_0 : decode cX4_market 0 = .ok (.aload_n 0, 1) := by decide +kernel
theorem dX4_market_1 : decode cX4_market 1 = .ok (.iload_n 1, 1) := by decide +kernel
theorem dX4_market_2 : decode cX4_market 2 = .ok (.invokevirtual 39, 3) := by decide +kernel
theorem dX4_market_5 : decode cX4_market 5 = .ok (.astore_n 2, 1) := by decide +kernel
theorem dX4_market_6 : decode cX4_market 6 = .ok (.aload_n 2, 1) := by decide +kernel
theorem dX4_market_7 : decode cX4_market 7 = .ok (.ifnonnull 13, 3) := by decide +kernel
theorem dX4_market_10 : decode cX4_market 10 = .ok (.new 43, 3) := by decide +kernel
theorem dX4_market_13 : decode cX4_market 13 = .ok (.dup, 1) := by decide +kernel
theorem dX4_market_14 : decode cX4_market 14 = .ok (.ldc 45, 2) := by decide +kernel
theorem dX4_market_16 : decode cX4_market 16 = .ok (.invokespecial 47, 3) := by decide +kernel
theorem dX4_market_19 : decode cX4_market 19 = .ok (.athrow, 1) := by decide +kernel
theorem dX4_market_20 : decode cX4_market 20 = .ok (.aload_n 0, 1) := by decide +kernel
theorem dX4_market_21 : decode cX4_market 21 = .ok (.aload_n 2, 1) := by decide +kernel
theorem dX4_market_22 : decode cX4_market 22 = .ok (.invokevirtual 101, 3) := by decide +kernel
theorem dX4_market_25 : decode cX4_market 25 = .ok (.istore_n 3, 1) := by decide +kernel
theorem dX4_market_26 : decode cX4_market 26 = .ok (.aload_n 2, 1) := by decide +kernel
theorem dX4_market_27 : decode cX4_market 27 = .ok (.getfield 63, 3) := by decide +kernel
theorem dX4_market_30 : decode cX4_market 30 = .ok (.ifCond .eq 5, 3) := by decide +kernel
theorem dX4_market_33 : decode cX4_market 33 = .ok (.iload_n 3, 1) := by decide +kernel
theorem dX4_market_34 : decode cX4_market 34 = .ok (.ireturn, 1) := by decide +kernel
theorem dX4_market_35 : decode cX4_market 35 = .ok (.aload_n 2, 1) := by decide +kernel
theorem dX4_market_36 : decode cX4_market 36 = .ok (.invokestatic 67, 3) := by decide +kernel
theorem dX4_market_39 : decode cX4_market 39 = .ok (.ifCond .eq 10, 3) := by decide +kernel
theorem dX4_market_42 : decode cX4_market 42 = .ok (.iload_n 3, 1) := by decide +kernel
theorem dX4_market_43 : decode cX4_market 43 = .ok (.bipush 70, 2) := by decide +kernel
theorem dX4_market_45 : decode cX4_market 45 = .ok (.invokestatic 105, 3) := by decide +kernel
theorem dX4_market_48 : decode cX4_market 48 = .ok (.ireturn, 1) := by decide +kernel
theorem dX4_market_49 : decode cX4_market 49 = .ok (.aload_n 0, 1) := by decide +kernel
theorem dX4_market_50 : decode cX4_market 50 = .ok (.aload_n 2, 1) := by decide +kernel
theorem dX4_market_51 : decode cX4_market 51 = .ok (.getfield 109, 3) := by decide +kernel
theorem dX4_market_54 : decode cX4_market 54 = .ok (.invokevirtual 112, 3) := by decide +kernel
theorem dX4_market_57 : decode cX4_market 57 = .ok (.ifCond .eq 12, 3) := by decide +kernel
theorem dX4_market_60 : decode cX4_market 60 = .ok (.iload_n 3, 1) := by decide +kernel
theorem dX4_market_61 : decode cX4_market 61 = .ok (.bipush 90, 2) := by decide +kernel
theorem dX4_market_63 : decode cX4_market 63 = .ok (.invokestatic 105, 3) := by decide +kernel
theorem dX4_market_66 : decode cX4_market 66 = .ok (.goto 4, 3) := by decide +kernel
theorem dX4_market_69 : decode cX4_market 69 = .ok (.iload_n 3, 1) := by decide +kernel
theorem dX4_market_70 : decode cX4_market 70 = .ok (.ireturn, 1) := by decide +kernel
theorem dX4_plotOf_0 : decode cX4_plotOf 0 = .ok (.aload_n 0, 1) := by decide +kernel
theorem dX4_plotOf_1 : decode cX4_plotOf 1 = .ok (.iload_n 1, 1) := by decide +kernel
theorem dX4_plotOf_2 : decode cX4_plotOf 2 = .ok (.invokevirtual 39, 3) := by decide +kernel
theorem dX4_plotOf_5 : decode cX4_plotOf 5 = .ok (.astore_n 3, 1) := by decide +kernel
theorem dX4_plotOf_6 : decode cX4_plotOf 6 = .ok (.aload_n 3, 1) := by decide +kernel
theorem dX4_plotOf_7 : decode cX4_plotOf 7 = .ok (.ifnonnull 13, 3) := by decide +kernel
theorem dX4_plotOf_10 : decode cX4_plotOf 10 = .ok (.new 43, 3) := by decide +kernel
theorem dX4_plotOf_13 : decode cX4_plotOf 13 = .ok (.dup, 1) := by decide +kernel
theorem dX4_plotOf_14 : decode cX4_plotOf 14 = .ok (.ldc 45, 2) := by decide +kernel
theorem dX4_plotOf_16 : decode cX4_plotOf 16 = .ok (.invokespecial 47, 3) := by decide +kernel
theorem dX4_plotOf_19 : decode cX4_plotOf 19 = .ok (.athrow, 1) := by decide +kernel
theorem dX4_plotOf_20 : decode cX4_plotOf 20 = .ok (.iload_n 2, 1) := by decide +kernel
theorem dX4_plotOf_21 : decode cX4_plotOf 21 = .ok (.tableswitch 110 0 8 #[51, 56, 61, 66, 74, 79, 84, 97, 105], 51) := by decide +kernel
theorem dX4_plotOf_72 : decode cX4_plotOf 72 = .ok (.aload_n 3, 1) := by decide +kernel
theorem dX4_plotOf_73 : decode cX4_plotOf 73 = .ok (.getfield 76, 3) := by decide +kernel
theorem dX4_plotOf_76 : decode cX4_plotOf 76 = .ok (.ireturn, 1) := by decide +kernel
theorem dX4_plotOf_77 : decode cX4_plotOf 77 = .ok (.aload_n 3, 1) := by decide +kernel
theorem dX4_plotOf_78 : decode cX4_plotOf 78 = .ok (.getfield 79, 3) := by decide +kernel
theorem dX4_plotOf_81 : decode cX4_plotOf 81 = .ok (.ireturn, 1) := by decide +kernel
theorem dX4_plotOf_82 : decode cX4_plotOf 82 = .ok (.aload_n 3, 1) := by decide +kernel
theorem dX4_plotOf_83 : decode cX4_plotOf 83 = .ok (.getfield 63, 3) := by decide +kernel
theorem dX4_plotOf_86 : decode cX4_plotOf 86 = .ok (.ireturn, 1) := by decide +kernel
theorem dX4_plotOf_87 : decode cX4_plotOf 87 = .ok (.aload_n 3, 1) := by decide +kernel
theorem dX4_plotOf_88 : decode cX4_plotOf 88 = .ok (.invokestatic 115, 3) := by decide +kernel
theorem dX4_plotOf_91 : decode cX4_plotOf 91 = .ok (.invokestatic 119, 3) := by decide +kernel
theorem dX4_plotOf_94 : decode cX4_plotOf 94 = .ok (.ireturn, 1) := by decide +kernel
theorem dX4_plotOf_95 : decode cX4_plotOf 95 = .ok (.aload_n 3, 1) := by decide +kernel
theorem dX4_plotOf_96 : decode cX4_plotOf 96 = .ok (.getfield 123, 3) := by decide +kernel
theorem dX4_plotOf_99 : decode cX4_plotOf 99 = .ok (.ireturn, 1) := by decide +kernel
theorem dX4_plotOf_100 : decode cX4_plotOf 100 = .ok (.aload_n 3, 1) := by decide +kernel
theorem dX4_plotOf_101 : decode cX4_plotOf 101 = .ok (.getfield 126, 3) := by decide +kernel
theorem dX4_plotOf_104 : decode cX4_plotOf 104 = .ok (.ireturn, 1) := by decide +kernel
theorem dX4_plotOf_105 : decode cX4_plotOf 105 = .ok (.aload_n 3, 1) := by decide +kernel
theorem dX4_plotOf_106 : decode cX4_plotOf 106 = .ok (.getfield 129, 3) := by decide +kernel
theorem dX4_plotOf_109 : decode cX4_plotOf 109 = .ok (.ifCond .eq 7, 3) := by decide +kernel
theorem dX4_plotOf_112 : decode cX4_plotOf 112 = .ok (.iconst 1, 1) := by decide +kernel
theorem dX4_plotOf_113 : decode cX4_plotOf 113 = .ok (.goto 4, 3) := by decide +kernel
theorem dX4_plotOf_116 : decode cX4_plotOf 116 = .ok (.iconst 0, 1) := by decide +kernel
theorem dX4_plotOf_117 : decode cX4_plotOf 117 = .ok (.ireturn, 1) := by decide +kernel
theorem dX4_plotOf_118 : decode cX4_plotOf 118 = .ok (.aload_n 3, 1) := by decide +kernel
theorem dX4_plotOf_119 : decode cX4_plotOf 119 = .ok (.getfield 133, 3) := by decide +kernel
theorem dX4_plotOf_122 : decode cX4_plotOf 122 = .ok (.invokestatic 137, 3) := by decide +kernel
theorem dX4_plotOf_125 : decode cX4_plotOf 125 = .ok (.ireturn, 1) := by decide +kernel
theorem dX4_plotOf_126 : decode cX4_plotOf 126 = .ok (.aload_n 3, 1) := by decide +kernel
theorem dX4_plotOf_127 : decode cX4_plotOf 127 = .ok (.getfield 140, 3) := by decide +kernel
theorem dX4_plotOf_130 : decode cX4_plotOf 130 = .ok (.ireturn, 1) := by decide +kernel
theorem dX4_plotOf_131 : decode cX4_plotOf 131 = .ok (.new 58, 3) := by decide +kernel
theorem dX4_plotOf_134 : decode cX4_plotOf 134 = .ok (.dup, 1) := by decide +kernel
theorem dX4_plotOf_135 : decode cX4_plotOf 135 = .ok (.ldc 143, 2) := by decide +kernel
theorem dX4_plotOf_137 : decode cX4_plotOf 137 = .ok (.invokespecial 62, 3) := by decide +kernel
theorem dX4_plotOf_140 : decode cX4_plotOf 140 = .ok (.athrow, 1) := by decide +kernel
theorem dX4_own_0 : decode cX4_own 0 = .ok (.aload_n 0, 1) := by decide +kernel
theorem dX4_own_1 : decode cX4_own 1 = .ok (.iload_n 1, 1) := by decide +kernel
theorem dX4_own_2 : decode cX4_own 2 = .ok (.invokevirtual 39, 3) := by decide +kernel
theorem dX4_own_5 : decode cX4_own 5 = .ok (.astore 4, 2) := by decide +kernel
theorem dX4_own_7 : decode cX4_own 7 = .ok (.aload 4, 2) := by decide +kernel
theorem dX4_own_9 : decode cX4_own 9 = .ok (.ifnull 10, 3) := by decide +kernel
theorem dX4_own_12 : decode cX4_own 12 = .ok (.iload_n 2, 1) := by decide +kernel
theorem dX4_own_13 : decode cX4_own 13 = .ok (.invokestatic 145, 3) := by decide +kernel
theorem dX4_own_16 : decode cX4_own 16 = .ok (.ifCond .ne 13, 3) := by decide +kernel
theorem dX4_own_19 : decode cX4_own 19 = .ok (.new 43, 3) := by decide +kernel
theorem dX4_own_22 : decode cX4_own 22 = .ok (.dup, 1) := by decide +kernel
theorem dX4_own_23 : decode cX4_own 23 = .ok (.ldc 148, 2) := by decide +kernel
theorem dX4_own_25 : decode cX4_own 25 = .ok (.invokespecial 47, 3) := by decide +kernel
theorem dX4_own_28 : decode cX4_own 28 = .ok (.athrow, 1) := by decide +kernel
theorem dX4_own_29 : decode cX4_own 29 = .ok (.iload_n 3, 1) := by decide +kernel
theorem dX4_own_30 : decode cX4_own 30 = .ok (.iconst 1, 1) := by decide +kernel
theorem dX4_own_31 : decode cX4_own 31 = .ok (.bipush 100, 2) := by decide +kernel
theorem dX4_own_33 : decode cX4_own 33 = .ok (.invokestatic 50, 3) := by decide +kernel
theorem dX4_own_36 : decode cX4_own 36 = .ok (.ifCond .eq 16, 3) := by decide +kernel
theorem dX4_own_39 : decode cX4_own 39 = .ok (.aload_n 0, 1) := by decide +kernel
theorem dX4_own_40 : decode cX4_own 40 = .ok (.aload 4, 2) := by decide +kernel
theorem dX4_own_42 : decode cX4_own 42 = .ok (.invokevirtual 150, 3) := by decide +kernel
theorem dX4_own_45 : decode cX4_own 45 = .ok (.iload_n 3, 1) := by decide +kernel
theorem dX4_own_46 : decode cX4_own 46 = .ok (.iadd, 1) := by decide +kernel
theorem dX4_own_47 : decode cX4_own 47 = .ok (.bipush 100, 2) := by decide +kernel
theorem dX4_own_49 : decode cX4_own 49 = .ok (.if_icmp .le 13, 3) := by decide +kernel
theorem dX4_own_52 : decode cX4_own 52 = .ok (.new 58, 3) := by decide +kernel
theorem dX4_own_55 : decode cX4_own 55 = .ok (.dup, 1) := by decide +kernel
theorem dX4_own_56 : decode cX4_own 56 = .ok (.ldc 153, 2) := by decide +kernel
theorem dX4_own_58 : decode cX4_own 58 = .ok (.invokespecial 62, 3) := by decide +kernel
theorem dX4_own_61 : decode cX4_own 61 = .ok (.athrow, 1) := by decide +kernel
theorem dX4_own_62 : decode cX4_own 62 = .ok (.aload_n 0, 1) := by decide +kernel
theorem dX4_own_63 : decode cX4_own 63 = .ok (.aload 4, 2) := by decide +kernel
theorem dX4_own_65 : decode cX4_own 65 = .ok (.invokevirtual 155, 3) := by decide +kernel
theorem dX4_own_68 : decode cX4_own 68 = .ok (.ifCond .ne 13, 3) := by decide +kernel
theorem dX4_own_71 : decode cX4_own 71 = .ok (.new 71, 3) := by decide +kernel
theorem dX4_own_74 : decode cX4_own 74 = .ok (.dup, 1) := by decide +kernel
theorem dX4_own_75 : decode cX4_own 75 = .ok (.ldc 158, 2) := by decide +kernel
theorem dX4_own_77 : decode cX4_own 77 = .ok (.invokespecial 75, 3) := by decide +kernel
theorem dX4_own_80 : decode cX4_own 80 = .ok (.athrow, 1) := by decide +kernel
theorem dX4_own_81 : decode cX4_own 81 = .ok (.aload_n 0, 1) := by decide +kernel
theorem dX4_own_82 : decode cX4_own 82 = .ok (.iconst 0, 1) := by decide +kernel
theorem dX4_own_83 : decode cX4_own 83 = .ok (.aload 4, 2) := by decide +kernel
theorem dX4_own_85 : decode cX4_own 85 = .ok (.iload_n 2, 1) := by decide +kernel
theorem dX4_own_86 : decode cX4_own 86 = .ok (.iload_n 3, 1) := by decide +kernel
theorem dX4_own_87 : decode cX4_own 87 = .ok (.iconst 0, 1) := by decide +kernel
theorem dX4_own_88 : decode cX4_own 88 = .ok (.invokevirtual 160, 3) := by decide +kernel
theorem dX4_own_91 : decode cX4_own 91 = .ok (.ireturn, 1) := by decide +kernel
theorem dX4_lease_0 : decode cX4_lease 0 = .ok (.aload_n 0, 1) := by decide +kernel
theorem dX4_lease_1 : decode cX4_lease 1 = .ok (.iload_n 1, 1) := by decide +kernel
theorem dX4_lease_2 : decode cX4_lease 2 = .ok (.invokevirtual 39, 3) := by decide +kernel
theorem dX4_lease_5 : decode cX4_lease 5 = .ok (.astore 5, 2) := by decide +kernel
theorem dX4_lease_7 : decode cX4_lease 7 = .ok (.aload 5, 2) := by decide +kernel
theorem dX4_lease_9 : decode cX4_lease 9 = .ok (.ifnull 10, 3) := by decide +kernel
theorem dX4_lease_12 : decode cX4_lease 12 = .ok (.iload_n 2, 1) := by decide +kernel
theorem dX4_lease_13 : decode cX4_lease 13 = .ok (.invokestatic 145, 3) := by decide +kernel
theorem dX4_lease_16 : decode cX4_lease 16 = .ok (.ifCond .ne 13, 3) := by decide +kernel
theorem dX4_lease_19 : decode cX4_lease 19 = .ok (.new 43, 3) := by decide +kernel
theorem dX4_lease_22 : decode cX4_lease 22 = .ok (.dup, 1) := by decide +kernel
theorem dX4_lease_23 : decode cX4_lease 23 = .ok (.ldc 148, 2) := by decide +kernel
theorem dX4_lease_25 : decode cX4_lease 25 = .ok (.invokespecial 47, 3) := by decide +kernel
theorem dX4_lease_28 : decode cX4_lease 28 = .ok (.athrow, 1) := by decide +kernel
theorem dX4_lease_29 : decode cX4_lease 29 = .ok (.iload_n 3, 1) := by decide +kernel
theorem dX4_lease_30 : decode cX4_lease 30 = .ok (.aload_n 0, 1) := by decide +kernel
theorem dX4_lease_31 : decode cX4_lease 31 = .ok (.getfield 84, 3) := by decide +kernel
theorem dX4_lease_34 : decode cX4_lease 34 = .ok (.iconst 1, 1) := by decide +kernel
theorem dX4_lease_35 : decode cX4_lease 35 = .ok (.iadd, 1) := by decide +kernel
theorem dX4_lease_36 : decode cX4_lease 36 = .ok (.sipush 30000, 3) := by decide +kernel
theorem dX4_lease_39 : decode cX4_lease 39 = .ok (.invokestatic 50, 3) := by decide +kernel
theorem dX4_lease_42 : decode cX4_lease 42 = .ok (.ifCond .eq 14, 3) := by decide +kernel
theorem dX4_lease_45 : decode cX4_lease 45 = .ok (.iload 4, 2) := by decide +kernel
theorem dX4_lease_47 : decode cX4_lease 47 = .ok (.iconst 0, 1) := by decide +kernel
theorem dX4_lease_48 : decode cX4_lease 48 = .ok (.bipush 100, 2) := by decide +kernel
theorem dX4_lease_50 : decode cX4_lease 50 = .ok (.invokestatic 50, 3) := by decide +kernel
theorem dX4_lease_53 : decode cX4_lease 53 = .ok (.ifCond .ne 13, 3) := by decide +kernel
theorem dX4_lease_56 : decode cX4_lease 56 = .ok (.new 58, 3) := by decide +kernel
theorem dX4_lease_59 : decode cX4_lease 59 = .ok (.dup, 1) := by decide +kernel
theorem dX4_lease_60 : decode cX4_lease 60 = .ok (.ldc 164, 2) := by decide +kernel
theorem dX4_lease_62 : decode cX4_lease 62 = .ok (.invokespecial 62, 3) := by decide +kernel
theorem dX4_lease_65 : decode cX4_lease 65 = .ok (.athrow, 1) := by decide +kernel
theorem dX4_lease_66 : decode cX4_lease 66 = .ok (.aload_n 0, 1) := by decide +kernel
theorem dX4_lease_67 : decode cX4_lease 67 = .ok (.aload 5, 2) := by decide +kernel
theorem dX4_lease_69 : decode cX4_lease 69 = .ok (.invokevirtual 155, 3) := by decide +kernel
theorem dX4_lease_72 : decode cX4_lease 72 = .ok (.ifCond .ne 13, 3) := by decide +kernel
theorem dX4_lease_75 : decode cX4_lease 75 = .ok (.new 71, 3) := by decide +kernel
theorem dX4_lease_78 : decode cX4_lease 78 = .ok (.dup, 1) := by decide +kernel
theorem dX4_lease_79 : decode cX4_lease 79 = .ok (.ldc 158, 2) := by decide +kernel
theorem dX4_lease_81 : decode cX4_lease 81 = .ok (.invokespecial 75, 3) := by decide +kernel
theorem dX4_lease_84 : decode cX4_lease 84 = .ok (.athrow, 1) := by decide +kernel
theorem dX4_lease_85 : decode cX4_lease 85 = .ok (.aload_n 0, 1) := by decide +kernel
theorem dX4_lease_86 : decode cX4_lease 86 = .ok (.iconst 1, 1) := by decide +kernel
theorem dX4_lease_87 : decode cX4_lease 87 = .ok (.aload 5, 2) := by decide +kernel
theorem dX4_lease_89 : decode cX4_lease 89 = .ok (.iload_n 2, 1) := by decide +kernel
theorem dX4_lease_90 : decode cX4_lease 90 = .ok (.iload_n 3, 1) := by decide +kernel
theorem dX4_lease_91 : decode cX4_lease 91 = .ok (.iload 4, 2) := by decide +kernel
theorem dX4_lease_93 : decode cX4_lease 93 = .ok (.invokevirtual 160, 3) := by decide +kernel
theorem dX4_lease_96 : decode cX4_lease 96 = .ok (.ireturn, 1) := by decide +kernel
theorem dX4_charge_0 : decode cX4_charge 0 = .ok (.aload_n 0, 1) := by decide +kernel
theorem dX4_charge_1 : decode cX4_charge 1 = .ok (.iload_n 1, 1) := by decide +kernel
theorem dX4_charge_2 : decode cX4_charge 2 = .ok (.invokevirtual 39, 3) := by decide +kernel
theorem dX4_charge_5 : decode cX4_charge 5 = .ok (.astore 4, 2) := by decide +kernel
theorem dX4_charge_7 : decode cX4_charge 7 = .ok (.aload 4, 2) := by decide +kernel
theorem dX4_charge_9 : decode cX4_charge 9 = .ok (.ifnull 10, 3) := by decide +kernel
theorem dX4_charge_12 : decode cX4_charge 12 = .ok (.iload_n 2, 1) := by decide +kernel
theorem dX4_charge_13 : decode cX4_charge 13 = .ok (.invokestatic 145, 3) := by decide +kernel
theorem dX4_charge_16 : decode cX4_charge 16 = .ok (.ifCond .ne 13, 3) := by decide +kernel
theorem dX4_charge_19 : decode cX4_charge 19 = .ok (.new 43, 3) := by decide +kernel
theorem dX4_charge_22 : decode cX4_charge 22 = .ok (.dup, 1) := by decide +kernel
theorem dX4_charge_23 : decode cX4_charge 23 = .ok (.ldc 148, 2) := by decide +kernel
theorem dX4_charge_25 : decode cX4_charge 25 = .ok (.invokespecial 47, 3) := by decide +kernel
theorem dX4_charge_28 : decode cX4_charge 28 = .ok (.athrow, 1) := by decide +kernel
theorem dX4_charge_29 : decode cX4_charge 29 = .ok (.iload_n 3, 1) := by decide +kernel
theorem dX4_charge_30 : decode cX4_charge 30 = .ok (.iconst 1, 1) := by decide +kernel
theorem dX4_charge_31 : decode cX4_charge 31 = .ok (.ldc 166, 2) := by decide +kernel
theorem dX4_charge_33 : decode cX4_charge 33 = .ok (.invokestatic 50, 3) := by decide +kernel
theorem dX4_charge_36 : decode cX4_charge 36 = .ok (.ifCond .ne 13, 3) := by decide +kernel
theorem dX4_charge_39 : decode cX4_charge 39 = .ok (.new 58, 3) := by decide +kernel
theorem dX4_charge_42 : decode cX4_charge 42 = .ok (.dup, 1) := by decide +kernel
theorem dX4_charge_43 : decode cX4_charge 43 = .ok (.ldc 167, 2) := by decide +kernel
theorem dX4_charge_45 : decode cX4_charge 45 = .ok (.invokespecial 62, 3) := by decide +kernel
theorem dX4_charge_48 : decode cX4_charge 48 = .ok (.athrow, 1) := by decide +kernel
theorem dX4_charge_49 : decode cX4_charge 49 = .ok (.aload_n 0, 1) := by decide +kernel
theorem dX4_charge_50 : decode cX4_charge 50 = .ok (.aload 4, 2) := by decide +kernel
theorem dX4_charge_52 : decode cX4_charge 52 = .ok (.invokevirtual 155, 3) := by decide +kernel
theorem dX4_charge_55 : decode cX4_charge 55 = .ok (.ifCond .ne 13, 3) := by decide +kernel
theorem dX4_charge_58 : decode cX4_charge 58 = .ok (.new 71, 3) := by decide +kernel
theorem dX4_charge_61 : decode cX4_charge 61 = .ok (.dup, 1) := by decide +kernel
theorem dX4_charge_62 : decode cX4_charge 62 = .ok (.ldc 158, 2) := by decide +kernel
theorem dX4_charge_64 : decode cX4_charge 64 = .ok (.invokespecial 75, 3) := by decide +kernel
theorem dX4_charge_67 : decode cX4_charge 67 = .ok (.athrow, 1) := by decide +kernel
theorem dX4_charge_68 : decode cX4_charge 68 = .ok (.aload_n 0, 1) := by decide +kernel
theorem dX4_charge_69 : decode cX4_charge 69 = .ok (.iconst 2, 1) := by decide +kernel
theorem dX4_charge_70 : decode cX4_charge 70 = .ok (.aload 4, 2) := by decide +kernel
theorem dX4_charge_72 : decode cX4_charge 72 = .ok (.iload_n 2, 1) := by decide +kernel
theorem dX4_charge_73 : decode cX4_charge 73 = .ok (.iload_n 3, 1) := by decide +kernel
theorem dX4_charge_74 : decode cX4_charge 74 = .ok (.iconst 0, 1) := by decide +kernel
theorem dX4_charge_75 : decode cX4_charge 75 = .ok (.invokevirtual 160, 3) := by decide +kernel
theorem dX4_charge_78 : decode cX4_charge 78 = .ok (.ireturn, 1) := by decide +kernel
theorem dX4_interestOf_0 : decode cX4_interestOf 0 = .ok (.aload_n 0, 1) := by decide +kernel
theorem dX4_interestOf_1 : decode cX4_interestOf 1 = .ok (.iload_n 1, 1) := by decide +kernel
theorem dX4_interestOf_2 : decode cX4_interestOf 2 = .ok (.invokevirtual 169, 3) := by decide +kernel
theorem dX4_interestOf_5 : decode cX4_interestOf 5 = .ok (.astore_n 3, 1) := by decide +kernel
theorem dX4_interestOf_6 : decode cX4_interestOf 6 = .ok (.aload_n 3, 1) := by decide +kernel
theorem dX4_interestOf_7 : decode cX4_interestOf 7 = .ok (.ifnonnull 13, 3) := by decide +kernel
theorem dX4_interestOf_10 : decode cX4_interestOf 10 = .ok (.new 43, 3) := by decide +kernel
theorem dX4_interestOf_13 : decode cX4_interestOf 13 = .ok (.dup, 1) := by decide +kernel
theorem dX4_interestOf_14 : decode cX4_interestOf 14 = .ok (.ldc 173, 2) := by decide +kernel
theorem dX4_interestOf_16 : decode cX4_interestOf 16 = .ok (.invokespecial 47, 3) := by decide +kernel
theorem dX4_interestOf_19 : decode cX4_interestOf 19 = .ok (.athrow, 1) := by decide +kernel
theorem dX4_interestOf_20 : decode cX4_interestOf 20 = .ok (.iload_n 2, 1) := by decide +kernel
theorem dX4_interestOf_21 : decode cX4_interestOf 21 = .ok (.tableswitch 118 0 8 #[51, 57, 66, 72, 78, 84, 90, 103, 108], 51) := by decide +kernel
theorem dX4_interestOf_72 : decode cX4_interestOf 72 = .ok (.aload_n 3, 1) := by decide +kernel
theorem dX4_interestOf_73 : decode cX4_interestOf 73 = .ok (.getfield 175, 3) := by decide +kernel
theorem dX4_interestOf_76 : decode cX4_interestOf 76 = .ok (.i2l, 1) := by decide +kernel
theorem dX4_interestOf_77 : decode cX4_interestOf 77 = .ok (.lreturn, 1) := by decide +kernel
theorem dX4_interestOf_78 : decode cX4_interestOf 78 = .ok (.aload_n 3, 1) := by decide +kernel
theorem dX4_interestOf_79 : decode cX4_interestOf 79 = .ok (.getfield 178, 3) := by decide +kernel
theorem dX4_interestOf_82 : decode cX4_interestOf 82 = .ok (.invokestatic 182, 3) := by decide +kernel
theorem dX4_interestOf_85 : decode cX4_interestOf 85 = .ok (.i2l, 1) := by decide +kernel
theorem dX4_interestOf_86 : decode cX4_interestOf 86 = .ok (.lreturn, 1) := by decide +kernel
theorem dX4_interestOf_87 : decode cX4_interestOf 87 = .ok (.aload_n 3, 1) := by decide +kernel
theorem dX4_interestOf_88 : decode cX4_interestOf 88 = .ok (.getfield 184, 3) := by decide +kernel
theorem dX4_interestOf_91 : decode cX4_interestOf 91 = .ok (.i2l, 1) := by decide +kernel
theorem dX4_interestOf_92 : decode cX4_interestOf 92 = .ok (.lreturn, 1) := by decide +kernel
theorem dX4_interestOf_93 : decode cX4_interestOf 93 = .ok (.aload_n 3, 1) := by decide +kernel
theorem dX4_interestOf_94 : decode cX4_interestOf 94 = .ok (.getfield 187, 3) := by decide +kernel
theorem dX4_interestOf_97 : decode cX4_interestOf 97 = .ok (.i2l, 1) := by decide +kernel
theorem dX4_interestOf_98 : decode cX4_interestOf 98 = .ok (.lreturn, 1) := by decide +kernel
theorem dX4_interestOf_99 : decode cX4_interestOf 99 = .ok (.aload_n 3, 1) := by decide +kernel
theorem dX4_interestOf_100 : decode cX4_interestOf 100 = .ok (.getfield 190, 3) := by decide +kernel
theorem dX4_interestOf_103 : decode cX4_interestOf 103 = .ok (.i2l, 1) := by decide +kernel
theorem dX4_interestOf_104 : decode cX4_interestOf 104 = .ok (.lreturn, 1) := by decide +kernel
theorem dX4_interestOf_105 : decode cX4_interestOf 105 = .ok (.aload_n 3, 1) := by decide +kernel
theorem dX4_interestOf_106 : decode cX4_interestOf 106 = .ok (.getfield 193, 3) := by decide +kernel
theorem dX4_interestOf_109 : decode cX4_interestOf 109 = .ok (.i2l, 1) := by decide +kernel
theorem dX4_interestOf_110 : decode cX4_interestOf 110 = .ok (.lreturn, 1) := by decide +kernel
theorem dX4_interestOf_111 : decode cX4_interestOf 111 = .ok (.aload_n 3, 1) := by decide +kernel
theorem dX4_interestOf_112 : decode cX4_interestOf 112 = .ok (.getfield 196, 3) := by decide +kernel
theorem dX4_interestOf_115 : decode cX4_interestOf 115 = .ok (.ifCond .eq 7, 3) := by decide +kernel
theorem dX4_interestOf_118 : decode cX4_interestOf 118 = .ok (.lconst 1, 1) := by decide +kernel
theorem dX4_interestOf_119 : decode cX4_interestOf 119 = .ok (.goto 4, 3) := by decide +kernel
theorem dX4_interestOf_122 : decode cX4_interestOf 122 = .ok (.lconst 0, 1) := by decide +kernel
theorem dX4_interestOf_123 : decode cX4_interestOf 123 = .ok (.lreturn, 1) := by decide +kernel
theorem dX4_interestOf_124 : decode cX4_interestOf 124 = .ok (.aload_n 3, 1) := by decide +kernel
theorem dX4_interestOf_125 : decode cX4_interestOf 125 = .ok (.getfield 199, 3) := by decide +kernel
theorem dX4_interestOf_128 : decode cX4_interestOf 128 = .ok (.lreturn, 1) := by decide +kernel
theorem dX4_interestOf_129 : decode cX4_interestOf 129 = .ok (.aload_n 3, 1) := by decide +kernel
theorem dX4_interestOf_130 : decode cX4_interestOf 130 = .ok (.getfield 203, 3) := by decide +kernel
theorem dX4_interestOf_133 : decode cX4_interestOf 133 = .ok (.aload_n 3, 1) := by decide +kernel
theorem dX4_interestOf_134 : decode cX4_interestOf 134 = .ok (.getfield 206, 3) := by decide +kernel
theorem dX4_interestOf_137 : decode cX4_interestOf 137 = .ok (.ladd, 1) := by decide +kernel
theorem dX4_interestOf_138 : decode cX4_interestOf 138 = .ok (.lreturn, 1) := by decide +kernel
theorem dX4_interestOf_139 : decode cX4_interestOf 139 = .ok (.new 58, 3) := by decide +kernel
theorem dX4_interestOf_142 : decode cX4_interestOf 142 = .ok (.dup, 1) := by decide +kernel
theorem dX4_interestOf_143 : decode cX4_interestOf 143 = .ok (.ldc 143, 2) := by decide +kernel
theorem dX4_interestOf_145 : decode cX4_interestOf 145 = .ok (.invokespecial 62, 3) := by decide +kernel
theorem dX4_interestOf_148 : decode cX4_interestOf 148 = .ok (.athrow, 1) := by decide +kernel
theorem dX4_scheme_0 : decode cX4_scheme 0 = .ok (.iload_n 1, 1) := by decide +kernel
theorem dX4_scheme_1 : decode cX4_scheme 1 = .ok (.iconst 0, 1) := by decide +kernel
theorem dX4_scheme_2 : decode cX4_scheme 2 = .ok (.bipush 50, 2) := by decide +kernel
theorem dX4_scheme_4 : decode cX4_scheme 4 = .ok (.invokestatic 50, 3) := by decide +kernel
theorem dX4_scheme_7 : decode cX4_scheme 7 = .ok (.ifCond .eq 13, 3) := by decide +kernel
theorem dX4_scheme_10 : decode cX4_scheme 10 = .ok (.iload_n 2, 1) := by decide +kernel
theorem dX4_scheme_11 : decode cX4_scheme 11 = .ok (.iconst 0, 1) := by decide +kernel
theorem dX4_scheme_12 : decode cX4_scheme 12 = .ok (.bipush 50, 2) := by decide +kernel
theorem dX4_scheme_14 : decode cX4_scheme 14 = .ok (.invokestatic 50, 3) := by decide +kernel
theorem dX4_scheme_17 : decode cX4_scheme 17 = .ok (.ifCond .ne 13, 3) := by decide +kernel
theorem dX4_scheme_20 : decode cX4_scheme 20 = .ok (.new 58, 3) := by decide +kernel
theorem dX4_scheme_23 : decode cX4_scheme 23 = .ok (.dup, 1) := by decide +kernel
theorem dX4_scheme_24 : decode cX4_scheme 24 = .ok (.ldc 209, 2) := by decide +kernel
theorem dX4_scheme_26 : decode cX4_scheme 26 = .ok (.invokespecial 62, 3) := by decide +kernel
theorem dX4_scheme_29 : decode cX4_scheme 29 = .ok (.athrow, 1) := by decide +kernel
theorem dX4_scheme_30 : decode cX4_scheme 30 = .ok (.aload_n 0, 1) := by decide +kernel
theorem dX4_scheme_31 : decode cX4_scheme 31 = .ok (.getfield 211, 3) := by decide +kernel
theorem dX4_scheme_34 : decode cX4_scheme 34 = .ok (.istore_n 3, 1) := by decide +kernel
theorem dX4_scheme_35 : decode cX4_scheme 35 = .ok (.iload_n 3, 1) := by decide +kernel
theorem dX4_scheme_36 : decode cX4_scheme 36 = .ok (.ifCond .lt 12, 3) := by decide +kernel
theorem dX4_scheme_39 : decode cX4_scheme 39 = .ok (.iload_n 3, 1) := by decide +kernel
theorem dX4_scheme_40 : decode cX4_scheme 40 = .ok (.aload_n 0, 1) := by decide +kernel
theorem dX4_scheme_41 : decode cX4_scheme 41 = .ok (.getfield 29, 3) := by decide +kernel
theorem dX4_scheme_44 : decode cX4_scheme 44 = .ok (.arraylength, 1) := by decide +kernel
theorem dX4_scheme_45 : decode cX4_scheme 45 = .ok (.if_icmp .lt 13, 3) := by decide +kernel
theorem dX4_scheme_48 : decode cX4_scheme 48 = .ok (.new 71, 3) := by decide +kernel
theorem dX4_scheme_51 : decode cX4_scheme 51 = .ok (.dup, 1) := by decide +kernel
theorem dX4_scheme_52 : decode cX4_scheme 52 = .ok (.ldc 214, 2) := by decide +kernel
theorem dX4_scheme_54 : decode cX4_scheme 54 = .ok (.invokespecial 75, 3) := by decide +kernel
theorem dX4_scheme_57 : decode cX4_scheme 57 = .ok (.athrow, 1) := by decide +kernel
theorem dX4_scheme_58 : decode cX4_scheme 58 = .ok (.aload_n 0, 1) := by decide +kernel
theorem dX4_scheme_59 : decode cX4_scheme 59 = .ok (.getfield 29, 3) := by decide +kernel
theorem dX4_scheme_62 : decode cX4_scheme 62 = .ok (.iload_n 3, 1) := by decide +kernel
theorem dX4_scheme_63 : decode cX4_scheme 63 = .ok (.new 27, 3) := by decide +kernel
theorem dX4_scheme_66 : decode cX4_scheme 66 = .ok (.dup, 1) := by decide +kernel
theorem dX4_scheme_67 : decode cX4_scheme 67 = .ok (.iload_n 3, 1) := by decide +kernel
theorem dX4_scheme_68 : decode cX4_scheme 68 = .ok (.iload_n 1, 1) := by decide +kernel
theorem dX4_scheme_69 : decode cX4_scheme 69 = .ok (.iload_n 2, 1) := by decide +kernel
theorem dX4_scheme_70 : decode cX4_scheme 70 = .ok (.invokespecial 216, 3) := by decide +kernel
theorem dX4_scheme_73 : decode cX4_scheme 73 = .ok (.aastore, 1) := by decide +kernel
theorem dX4_scheme_74 : decode cX4_scheme 74 = .ok (.aload_n 0, 1) := by decide +kernel
theorem dX4_scheme_75 : decode cX4_scheme 75 = .ok (.iload_n 3, 1) := by decide +kernel
theorem dX4_scheme_76 : decode cX4_scheme 76 = .ok (.iconst 1, 1) := by decide +kernel
theorem dX4_scheme_77 : decode cX4_scheme 77 = .ok (.iadd, 1) := by decide +kernel
theorem dX4_scheme_78 : decode cX4_scheme 78 = .ok (.putfield 211, 3) := by decide +kernel
theorem dX4_scheme_81 : decode cX4_scheme 81 = .ok (.iload_n 3, 1) := by decide +kernel
theorem dX4_scheme_82 : decode cX4_scheme 82 = .ok (.ireturn, 1) := by decide +kernel
theorem dX4_draw_0 : decode cX4_draw 0 = .ok (.aload_n 0, 1) := by decide +kernel
theorem dX4_draw_1 : decode cX4_draw 1 = .ok (.iload_n 1, 1) := by decide +kernel
theorem dX4_draw_2 : decode cX4_draw 2 = .ok (.invokevirtual 219, 3) := by decide +kernel
theorem dX4_draw_5 : decode cX4_draw 5 = .ok (.astore 4, 2) := by decide +kernel
theorem dX4_draw_7 : decode cX4_draw 7 = .ok (.aload_n 0, 1) := by decide +kernel
theorem dX4_draw_8 : decode cX4_draw 8 = .ok (.iload_n 2, 1) := by decide +kernel
theorem dX4_draw_9 : decode cX4_draw 9 = .ok (.invokevirtual 39, 3) := by decide +kernel
theorem dX4_draw_12 : decode cX4_draw 12 = .ok (.astore 5, 2) := by decide +kernel
theorem dX4_draw_14 : decode cX4_draw 14 = .ok (.aload 4, 2) := by decide +kernel
theorem dX4_draw_16 : decode cX4_draw 16 = .ok (.ifnull 8, 3) := by decide +kernel
theorem dX4_draw_19 : decode cX4_draw 19 = .ok (.aload 5, 2) := by decide +kernel
theorem dX4_draw_21 : decode cX4_draw 21 = .ok (.ifnonnull 13, 3) := by decide +kernel
theorem dX4_draw_24 : decode cX4_draw 24 = .ok (.new 43, 3) := by decide +kernel
theorem dX4_draw_27 : decode cX4_draw 27 = .ok (.dup, 1) := by decide +kernel
theorem dX4_draw_28 : decode cX4_draw 28 = .ok (.ldc 223, 2) := by decide +kernel
theorem dX4_draw_30 : decode cX4_draw 30 = .ok (.invokespecial 47, 3) := by decide +kernel
theorem dX4_draw_33 : decode cX4_draw 33 = .ok (.athrow, 1) := by decide +kernel
theorem dX4_draw_34 : decode cX4_draw 34 = .ok (.iload_n 3, 1) := by decide +kernel
theorem dX4_draw_35 : decode cX4_draw 35 = .ok (.iconst 1, 1) := by decide +kernel
theorem dX4_draw_36 : decode cX4_draw 36 = .ok (.bipush 100, 2) := by decide +kernel
theorem dX4_draw_38 : decode cX4_draw 38 = .ok (.invokestatic 50, 3) := by decide +kernel
theorem dX4_draw_41 : decode cX4_draw 41 = .ok (.ifCond .ne 13, 3) := by decide +kernel
theorem dX4_draw_44 : decode cX4_draw 44 = .ok (.new 58, 3) := by decide +kernel
theorem dX4_draw_47 : decode cX4_draw 47 = .ok (.dup, 1) := by decide +kernel
theorem dX4_draw_48 : decode cX4_draw 48 = .ok (.ldc 225, 2) := by decide +kernel
theorem dX4_draw_50 : decode cX4_draw 50 = .ok (.invokespecial 62, 3) := by decide +kernel
theorem dX4_draw_53 : decode cX4_draw 53 = .ok (.athrow, 1) := by decide +kernel
theorem dX4_draw_54 : decode cX4_draw 54 = .ok (.aload 4, 2) := by decide +kernel
theorem dX4_draw_56 : decode cX4_draw 56 = .ok (.getfield 227, 3) := by decide +kernel
theorem dX4_draw_59 : decode cX4_draw 59 = .ok (.ifCond .ne 19, 3) := by decide +kernel
theorem dX4_draw_62 : decode cX4_draw 62 = .ok (.aload 5, 2) := by decide +kernel
theorem dX4_draw_64 : decode cX4_draw 64 = .ok (.getfield 63, 3) := by decide +kernel
theorem dX4_draw_67 : decode cX4_draw 67 = .ok (.ifCond .ne 11, 3) := by decide +kernel
theorem dX4_draw_70 : decode cX4_draw 70 = .ok (.aload 5, 2) := by decide +kernel
theorem dX4_draw_72 : decode cX4_draw 72 = .ok (.invokestatic 67, 3) := by decide +kernel
theorem dX4_draw_75 : decode cX4_draw 75 = .ok (.ifCond .eq 13, 3) := by decide +kernel
theorem dX4_draw_78 : decode cX4_draw 78 = .ok (.new 71, 3) := by decide +kernel
theorem dX4_draw_81 : decode cX4_draw 81 = .ok (.dup, 1) := by decide +kernel
theorem dX4_draw_82 : decode cX4_draw 82 = .ok (.ldc 228, 2) := by decide +kernel
theorem dX4_draw_84 : decode cX4_draw 84 = .ok (.invokespecial 75, 3) := by decide +kernel
theorem dX4_draw_87 : decode cX4_draw 87 = .ok (.athrow, 1) := by decide +kernel
theorem dX4_draw_88 : decode cX4_draw 88 = .ok (.aload 5, 2) := by decide +kernel
theorem dX4_draw_90 : decode cX4_draw 90 = .ok (.aload 4, 2) := by decide +kernel
theorem dX4_draw_92 : decode cX4_draw 92 = .ok (.putfield 230, 3) := by decide +kernel
theorem dX4_draw_95 : decode cX4_draw 95 = .ok (.aload 5, 2) := by decide +kernel
theorem dX4_draw_97 : decode cX4_draw 97 = .ok (.iload_n 3, 1) := by decide +kernel
theorem dX4_draw_98 : decode cX4_draw 98 = .ok (.putfield 123, 3) := by decide +kernel
theorem dX4_draw_101 : decode cX4_draw 101 = .ok (.aload_n 0, 1) := by decide +kernel
theorem dX4_draw_102 : decode cX4_draw 102 = .ok (.aload 4, 2) := by decide +kernel
theorem dX4_draw_104 : decode cX4_draw 104 = .ok (.invokevirtual 234, 3) := by decide +kernel
theorem dX4_draw_107 : decode cX4_draw 107 = .ok (.ireturn, 1) := by decide +kernel
theorem dX4_notice_0 : decode cX4_notice 0 = .ok (.aload_n 0, 1) := by decide +kernel
theorem dX4_notice_1 : decode cX4_notice 1 = .ok (.iload_n 1, 1) := by decide +kernel
theorem dX4_notice_2 : decode cX4_notice 2 = .ok (.invokevirtual 169, 3) := by decide +kernel
theorem dX4_notice_5 : decode cX4_notice 5 = .ok (.astore_n 2, 1) := by decide +kernel
theorem dX4_notice_6 : decode cX4_notice 6 = .ok (.aload_n 2, 1) := by decide +kernel
theorem dX4_notice_7 : decode cX4_notice 7 = .ok (.ifnonnull 13, 3) := by decide +kernel
theorem dX4_notice_10 : decode cX4_notice 10 = .ok (.new 43, 3) := by decide +kernel
theorem dX4_notice_13 : decode cX4_notice 13 = .ok (.dup, 1) := by decide +kernel
theorem dX4_notice_14 : decode cX4_notice 14 = .ok (.ldc 173, 2) := by decide +kernel
theorem dX4_notice_16 : decode cX4_notice 16 = .ok (.invokespecial 47, 3) := by decide +kernel
theorem dX4_notice_19 : decode cX4_notice 19 = .ok (.athrow, 1) := by decide +kernel
theorem dX4_notice_20 : decode cX4_notice 20 = .ok (.aload_n 2, 1) := by decide +kernel
theorem dX4_notice_21 : decode cX4_notice 21 = .ok (.getfield 178, 3) := by decide +kernel
theorem dX4_notice_24 : decode cX4_notice 24 = .ok (.invokestatic 237, 3) := by decide +kernel
theorem dX4_notice_27 : decode cX4_notice 27 = .ok (.astore_n 3, 1) := by decide +kernel
theorem dX4_notice_28 : decode cX4_notice 28 = .ok (.aload_n 3, 1) := by decide +kernel
theorem dX4_notice_29 : decode cX4_notice 29 = .ok (.ifnull 11, 3) := by decide +kernel
theorem dX4_notice_32 : decode cX4_notice 32 = .ok (.aload_n 2, 1) := by decide +kernel
theorem dX4_notice_33 : decode cX4_notice 33 = .ok (.getfield 193, 3) := by decide +kernel
theorem dX4_notice_36 : decode cX4_notice 36 = .ok (.iconst (-1), 1) := by decide +kernel
theorem dX4_notice_37 : decode cX4_notice 37 = .ok (.if_icmp .eq 13, 3) := by decide +kernel
theorem dX4_notice_40 : decode cX4_notice 40 = .ok (.new 71, 3) := by decide +kernel
theorem dX4_notice_43 : decode cX4_notice 43 = .ok (.dup, 1) := by decide +kernel
theorem dX4_notice_44 : decode cX4_notice 44 = .ok (.ldc 240, 2) := by decide +kernel
theorem dX4_notice_46 : decode cX4_notice 46 = .ok (.invokespecial 75, 3) := by decide +kernel
theorem dX4_notice_49 : decode cX4_notice 49 = .ok (.athrow, 1) := by decide +kernel
theorem dX4_notice_50 : decode cX4_notice 50 = .ok (.aload_n 2, 1) := by decide +kernel
theorem dX4_notice_51 : decode cX4_notice 51 = .ok (.aload_n 0, 1) := by decide +kernel
theorem dX4_notice_52 : decode cX4_notice 52 = .ok (.getfield 84, 3) := by decide +kernel
theorem dX4_notice_55 : decode cX4_notice 55 = .ok (.putfield 193, 3) := by decide +kernel
theorem dX4_notice_58 : decode cX4_notice 58 = .ok (.aload_n 3, 1) := by decide +kernel
theorem dX4_notice_59 : decode cX4_notice 59 = .ok (.getfield 242, 3) := by decide +kernel
theorem dX4_notice_62 : decode cX4_notice 62 = .ok (.ireturn, 1) := by decide +kernel
theorem dX4_object_0 : decode cX4_object 0 = .ok (.aload_n 0, 1) := by decide +kernel
theorem dX4_object_1 : decode cX4_object 1 = .ok (.iload_n 1, 1) := by decide +kernel
theorem dX4_object_2 : decode cX4_object 2 = .ok (.invokevirtual 169, 3) := by decide +kernel
theorem dX4_object_5 : decode cX4_object 5 = .ok (.astore_n 2, 1) := by decide +kernel
theorem dX4_object_6 : decode cX4_object 6 = .ok (.aload_n 2, 1) := by decide +kernel
theorem dX4_object_7 : decode cX4_object 7 = .ok (.ifnonnull 13, 3) := by decide +kernel
theorem dX4_object_10 : decode cX4_object 10 = .ok (.new 43, 3) := by decide +kernel
theorem dX4_object_13 : decode cX4_object 13 = .ok (.dup, 1) := by decide +kernel
theorem dX4_object_14 : decode cX4_object 14 = .ok (.ldc 173, 2) := by decide +kernel
theorem dX4_object_16 : decode cX4_object 16 = .ok (.invokespecial 47, 3) := by decide +kernel
theorem dX4_object_19 : decode cX4_object 19 = .ok (.athrow, 1) := by decide +kernel
theorem dX4_object_20 : decode cX4_object 20 = .ok (.aload_n 2, 1) := by decide +kernel
theorem dX4_object_21 : decode cX4_object 21 = .ok (.getfield 178, 3) := by decide +kernel
theorem dX4_object_24 : decode cX4_object 24 = .ok (.invokestatic 237, 3) := by decide +kernel
theorem dX4_object_27 : decode cX4_object 27 = .ok (.astore_n 3, 1) := by decide +kernel
theorem dX4_object_28 : decode cX4_object 28 = .ok (.aload_n 3, 1) := by decide +kernel
theorem dX4_object_29 : decode cX4_object 29 = .ok (.ifnull 32, 3) := by decide +kernel
