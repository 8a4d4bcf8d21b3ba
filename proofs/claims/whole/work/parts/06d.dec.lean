theorem dX5_works_37 : decode cX5_works 37 = .ok (.iaload, 1) := by decide +kernel
theorem dX5_works_38 : decode cX5_works 38 = .ok (.iconst (-1), 1) := by decide +kernel
theorem dX5_works_39 : decode cX5_works 39 = .ok (.if_icmp .ne 7, 3) := by decide +kernel
theorem dX5_works_42 : decode cX5_works 42 = .ok (.iconst 2, 1) := by decide +kernel
theorem dX5_works_43 : decode cX5_works 43 = .ok (.goto 4, 3) := by decide +kernel
theorem dX5_works_46 : decode cX5_works 46 = .ok (.iconst 0, 1) := by decide +kernel
theorem dX5_works_47 : decode cX5_works 47 = .ok (.putfield 100, 3) := by decide +kernel
theorem dX5_works_50 : decode cX5_works 50 = .ok (.aload_n 0, 1) := by decide +kernel
theorem dX5_works_51 : decode cX5_works 51 = .ok (.getfield 100, 3) := by decide +kernel
theorem dX5_works_54 : decode cX5_works 54 = .ok (.ifCond .le 5, 3) := by decide +kernel
theorem dX5_works_57 : decode cX5_works 57 = .ok (.iconst 0, 1) := by decide +kernel
theorem dX5_works_58 : decode cX5_works 58 = .ok (.ireturn, 1) := by decide +kernel
theorem dX5_works_59 : decode cX5_works 59 = .ok (.aload_n 0, 1) := by decide +kernel
theorem dX5_works_60 : decode cX5_works 60 = .ok (.getfield 32, 3) := by decide +kernel
theorem dX5_works_63 : decode cX5_works 63 = .ok (.iload_n 1, 1) := by decide +kernel
theorem dX5_works_64 : decode cX5_works 64 = .ok (.iconst 1, 1) := by decide +kernel
theorem dX5_works_65 : decode cX5_works 65 = .ok (.bastore, 1) := by decide +kernel
theorem dX5_works_66 : decode cX5_works 66 = .ok (.iconst 0, 1) := by decide +kernel
theorem dX5_works_67 : decode cX5_works 67 = .ok (.istore_n 2, 1) := by decide +kernel
theorem dX5_works_68 : decode cX5_works 68 = .ok (.iconst 0, 1) := by decide +kernel
theorem dX5_works_69 : decode cX5_works 69 = .ok (.istore_n 3, 1) := by decide +kernel
theorem dX5_works_70 : decode cX5_works 70 = .ok (.iload_n 3, 1) := by decide +kernel
theorem dX5_works_71 : decode cX5_works 71 = .ok (.bipush 36, 2) := by decide +kernel
theorem dX5_works_73 : decode cX5_works 73 = .ok (.if_icmp .ge 26, 3) := by decide +kernel
theorem dX5_works_76 : decode cX5_works 76 = .ok (.iload_n 2, 1) := by decide +kernel
theorem dX5_works_77 : decode cX5_works 77 = .ok (.aload_n 0, 1) := by decide +kernel
theorem dX5_works_78 : decode cX5_works 78 = .ok (.getfield 32, 3) := by decide +kernel
theorem dX5_works_81 : decode cX5_works 81 = .ok (.iload_n 3, 1) := by decide +kernel
theorem dX5_works_82 : decode cX5_works 82 = .ok (.baload, 1) := by decide +kernel
theorem dX5_works_83 : decode cX5_works 83 = .ok (.ifCond .eq 7, 3) := by decide +kernel
theorem dX5_works_86 : decode cX5_works 86 = .ok (.iconst 1, 1) := by decide +kernel
theorem dX5_works_87 : decode cX5_works 87 = .ok (.goto 4, 3) := by decide +kernel
theorem dX5_works_90 : decode cX5_works 90 = .ok (.iconst 0, 1) := by decide +kernel
theorem dX5_works_91 : decode cX5_works 91 = .ok (.iadd, 1) := by decide +kernel
theorem dX5_works_92 : decode cX5_works 92 = .ok (.istore_n 2, 1) := by decide +kernel
theorem dX5_works_93 : decode cX5_works 93 = .ok (.iinc 3 1, 3) := by decide +kernel
theorem dX5_works_96 : decode cX5_works 96 = .ok (.goto (-26), 3) := by decide +kernel
theorem dX5_works_99 : decode cX5_works 99 = .ok (.iload_n 2, 1) := by decide +kernel
theorem dX5_works_100 : decode cX5_works 100 = .ok (.ireturn, 1) := by decide +kernel
theorem dX5_wasTaken_0 : decode cX5_wasTaken 0 = .ok (.aload_n 0, 1) := by decide +kernel
theorem dX5_wasTaken_1 : decode cX5_wasTaken 1 = .ok (.getfield 29, 3) := by decide +kernel
theorem dX5_wasTaken_4 : decode cX5_wasTaken 4 = .ok (.aload_n 0, 1) := by decide +kernel
theorem dX5_wasTaken_5 : decode cX5_wasTaken 5 = .ok (.getfield 49, 3) := by decide +kernel
theorem dX5_wasTaken_8 : decode cX5_wasTaken 8 = .ok (.iload_n 1, 1) := by decide +kernel
theorem dX5_wasTaken_9 : decode cX5_wasTaken 9 = .ok (.iaload, 1) := by decide +kernel
theorem dX5_wasTaken_10 : decode cX5_wasTaken 10 = .ok (.iaload, 1) := by decide +kernel
theorem dX5_wasTaken_11 : decode cX5_wasTaken 11 = .ok (.iconst (-1), 1) := by decide +kernel
theorem dX5_wasTaken_12 : decode cX5_wasTaken 12 = .ok (.if_icmp .eq 7, 3) := by decide +kernel
theorem dX5_wasTaken_15 : decode cX5_wasTaken 15 = .ok (.iconst 1, 1) := by decide +kernel
theorem dX5_wasTaken_16 : decode cX5_wasTaken 16 = .ok (.goto 4, 3) := by decide +kernel
theorem dX5_wasTaken_19 : decode cX5_wasTaken 19 = .ok (.iconst 0, 1) := by decide +kernel
theorem dX5_wasTaken_20 : decode cX5_wasTaken 20 = .ok (.ireturn, 1) := by decide +kernel
theorem dX5_sumAnew_0 : decode cX5_sumAnew 0 = .ok (.aload_n 0, 1) := by decide +kernel
theorem dX5_sumAnew_1 : decode cX5_sumAnew 1 = .ok (.aload_n 0, 1) := by decide +kernel
theorem dX5_sumAnew_2 : decode cX5_sumAnew 2 = .ok (.iload_n 1, 1) := by decide +kernel
theorem dX5_sumAnew_3 : decode cX5_sumAnew 3 = .ok (.invokevirtual 136, 3) := by decide +kernel
theorem dX5_sumAnew_6 : decode cX5_sumAnew 6 = .ok (.ifCond .ne 7, 3) := by decide +kernel
theorem dX5_sumAnew_9 : decode cX5_sumAnew 9 = .ok (.iconst 1, 1) := by decide +kernel
theorem dX5_sumAnew_10 : decode cX5_sumAnew 10 = .ok (.goto 4, 3) := by decide +kernel
theorem dX5_sumAnew_13 : decode cX5_sumAnew 13 = .ok (.iconst 0, 1) := by decide +kernel
theorem dX5_sumAnew_14 : decode cX5_sumAnew 14 = .ok (.putfield 100, 3) := by decide +kernel
theorem dX5_sumAnew_17 : decode cX5_sumAnew 17 = .ok (.aload_n 0, 1) := by decide +kernel
theorem dX5_sumAnew_18 : decode cX5_sumAnew 18 = .ok (.getfield 100, 3) := by decide +kernel
theorem dX5_sumAnew_21 : decode cX5_sumAnew 21 = .ok (.ifCond .gt 11, 3) := by decide +kernel
theorem dX5_sumAnew_24 : decode cX5_sumAnew 24 = .ok (.aload_n 0, 1) := by decide +kernel
theorem dX5_sumAnew_25 : decode cX5_sumAnew 25 = .ok (.iload_n 1, 1) := by decide +kernel
theorem dX5_sumAnew_26 : decode cX5_sumAnew 26 = .ok (.invokevirtual 188, 3) := by decide +kernel
theorem dX5_sumAnew_29 : decode cX5_sumAnew 29 = .ok (.ifCond .ne 7, 3) := by decide +kernel
theorem dX5_sumAnew_32 : decode cX5_sumAnew 32 = .ok (.lconst 0, 1) := by decide +kernel
theorem dX5_sumAnew_33 : decode cX5_sumAnew 33 = .ok (.goto 8, 3) := by decide +kernel
theorem dX5_sumAnew_36 : decode cX5_sumAnew 36 = .ok (.aload_n 0, 1) := by decide +kernel
theorem dX5_sumAnew_37 : decode cX5_sumAnew 37 = .ok (.iload_n 1, 1) := by decide +kernel
theorem dX5_sumAnew_38 : decode cX5_sumAnew 38 = .ok (.invokevirtual 178, 3) := by decide +kernel
theorem dX5_sumAnew_41 : decode cX5_sumAnew 41 = .ok (.lreturn, 1) := by decide +kernel
theorem dX5_gain_0 : decode cX5_gain 0 = .ok (.lload_n 1, 1) := by decide +kernel
theorem dX5_gain_1 : decode cX5_gain 1 = .ok (.iload_n 3, 1) := by decide +kernel
theorem dX5_gain_2 : decode cX5_gain 2 = .ok (.i2l, 1) := by decide +kernel
theorem dX5_gain_3 : decode cX5_gain 3 = .ok (.lmul, 1) := by decide +kernel
theorem dX5_gain_4 : decode cX5_gain 4 = .ok (.ldc2_w 191, 3) := by decide +kernel
theorem dX5_gain_7 : decode cX5_gain 7 = .ok (.lmul, 1) := by decide +kernel
theorem dX5_gain_8 : decode cX5_gain 8 = .ok (.ldc2_w 193, 3) := by decide +kernel
theorem dX5_gain_11 : decode cX5_gain 11 = .ok (.ldiv, 1) := by decide +kernel
theorem dX5_gain_12 : decode cX5_gain 12 = .ok (.lreturn, 1) := by decide +kernel
theorem dX5_owedTo_0 : decode cX5_owedTo 0 = .ok (.aload_n 0, 1) := by decide +kernel
theorem dX5_owedTo_1 : decode cX5_owedTo 1 = .ok (.iload_n 1, 1) := by decide +kernel
theorem dX5_owedTo_2 : decode cX5_owedTo 2 = .ok (.invokevirtual 188, 3) := by decide +kernel
theorem dX5_owedTo_5 : decode cX5_owedTo 5 = .ok (.ifCond .eq 12, 3) := by decide +kernel
theorem dX5_owedTo_8 : decode cX5_owedTo 8 = .ok (.aload_n 0, 1) := by decide +kernel
theorem dX5_owedTo_9 : decode cX5_owedTo 9 = .ok (.getfield 79, 3) := by decide +kernel
theorem dX5_owedTo_12 : decode cX5_owedTo 12 = .ok (.iload_n 1, 1) := by decide +kernel
theorem dX5_owedTo_13 : decode cX5_owedTo 13 = .ok (.baload, 1) := by decide +kernel
theorem dX5_owedTo_14 : decode cX5_owedTo 14 = .ok (.ifCond .eq 5, 3) := by decide +kernel
theorem dX5_owedTo_17 : decode cX5_owedTo 17 = .ok (.lconst 0, 1) := by decide +kernel
theorem dX5_owedTo_18 : decode cX5_owedTo 18 = .ok (.lreturn, 1) := by decide +kernel
theorem dX5_owedTo_19 : decode cX5_owedTo 19 = .ok (.aload_n 0, 1) := by decide +kernel
theorem dX5_owedTo_20 : decode cX5_owedTo 20 = .ok (.getfield 29, 3) := by decide +kernel
theorem dX5_owedTo_23 : decode cX5_owedTo 23 = .ok (.aload_n 0, 1) := by decide +kernel
theorem dX5_owedTo_24 : decode cX5_owedTo 24 = .ok (.getfield 49, 3) := by decide +kernel
theorem dX5_owedTo_27 : decode cX5_owedTo 27 = .ok (.iload_n 1, 1) := by decide +kernel
theorem dX5_owedTo_28 : decode cX5_owedTo 28 = .ok (.iaload, 1) := by decide +kernel
theorem dX5_owedTo_29 : decode cX5_owedTo 29 = .ok (.iaload, 1) := by decide +kernel
theorem dX5_owedTo_30 : decode cX5_owedTo 30 = .ok (.istore_n 2, 1) := by decide +kernel
theorem dX5_owedTo_31 : decode cX5_owedTo 31 = .ok (.aload_n 0, 1) := by decide +kernel
theorem dX5_owedTo_32 : decode cX5_owedTo 32 = .ok (.getfield 76, 3) := by decide +kernel
theorem dX5_owedTo_35 : decode cX5_owedTo 35 = .ok (.iload_n 1, 1) := by decide +kernel
theorem dX5_owedTo_36 : decode cX5_owedTo 36 = .ok (.iaload, 1) := by decide +kernel
theorem dX5_owedTo_37 : decode cX5_owedTo 37 = .ok (.istore_n 3, 1) := by decide +kernel
theorem dX5_owedTo_38 : decode cX5_owedTo 38 = .ok (.aload_n 0, 1) := by decide +kernel
theorem dX5_owedTo_39 : decode cX5_owedTo 39 = .ok (.getfield 67, 3) := by decide +kernel
theorem dX5_owedTo_42 : decode cX5_owedTo 42 = .ok (.iload_n 1, 1) := by decide +kernel
theorem dX5_owedTo_43 : decode cX5_owedTo 43 = .ok (.laload, 1) := by decide +kernel
theorem dX5_owedTo_44 : decode cX5_owedTo 44 = .ok (.lstore 4, 2) := by decide +kernel
theorem dX5_owedTo_46 : decode cX5_owedTo 46 = .ok (.iload_n 3, 1) := by decide +kernel
theorem dX5_owedTo_47 : decode cX5_owedTo 47 = .ok (.iconst (-1), 1) := by decide +kernel
theorem dX5_owedTo_48 : decode cX5_owedTo 48 = .ok (.if_icmp .ne 19, 3) := by decide +kernel
theorem dX5_owedTo_51 : decode cX5_owedTo 51 = .ok (.lload 4, 2) := by decide +kernel
theorem dX5_owedTo_53 : decode cX5_owedTo 53 = .ok (.aload_n 0, 1) := by decide +kernel
theorem dX5_owedTo_54 : decode cX5_owedTo 54 = .ok (.lload 4, 2) := by decide +kernel
theorem dX5_owedTo_56 : decode cX5_owedTo 56 = .ok (.aload_n 0, 1) := by decide +kernel
theorem dX5_owedTo_57 : decode cX5_owedTo 57 = .ok (.getfield 121, 3) := by decide +kernel
theorem dX5_owedTo_60 : decode cX5_owedTo 60 = .ok (.iload_n 2, 1) := by decide +kernel
theorem dX5_owedTo_61 : decode cX5_owedTo 61 = .ok (.isub, 1) := by decide +kernel
theorem dX5_owedTo_62 : decode cX5_owedTo 62 = .ok (.invokevirtual 195, 3) := by decide +kernel
theorem dX5_owedTo_65 : decode cX5_owedTo 65 = .ok (.ladd, 1) := by decide +kernel
theorem dX5_owedTo_66 : decode cX5_owedTo 66 = .ok (.lreturn, 1) := by decide +kernel
theorem dX5_owedTo_67 : decode cX5_owedTo 67 = .ok (.lload 4, 2) := by decide +kernel
theorem dX5_owedTo_69 : decode cX5_owedTo 69 = .ok (.aload_n 0, 1) := by decide +kernel
theorem dX5_owedTo_70 : decode cX5_owedTo 70 = .ok (.getfield 73, 3) := by decide +kernel
theorem dX5_owedTo_73 : decode cX5_owedTo 73 = .ok (.iload_n 1, 1) := by decide +kernel
theorem dX5_owedTo_74 : decode cX5_owedTo 74 = .ok (.laload, 1) := by decide +kernel
theorem dX5_owedTo_75 : decode cX5_owedTo 75 = .ok (.lsub, 1) := by decide +kernel
theorem dX5_owedTo_76 : decode cX5_owedTo 76 = .ok (.lstore 6, 2) := by decide +kernel
theorem dX5_owedTo_78 : decode cX5_owedTo 78 = .ok (.lload 6, 2) := by decide +kernel
theorem dX5_owedTo_80 : decode cX5_owedTo 80 = .ok (.aload_n 0, 1) := by decide +kernel
theorem dX5_owedTo_81 : decode cX5_owedTo 81 = .ok (.lload 4, 2) := by decide +kernel
theorem dX5_owedTo_83 : decode cX5_owedTo 83 = .ok (.iload_n 3, 1) := by decide +kernel
theorem dX5_owedTo_84 : decode cX5_owedTo 84 = .ok (.iload_n 2, 1) := by decide +kernel
theorem dX5_owedTo_85 : decode cX5_owedTo 85 = .ok (.isub, 1) := by decide +kernel
theorem dX5_owedTo_86 : decode cX5_owedTo 86 = .ok (.invokevirtual 195, 3) := by decide +kernel
theorem dX5_owedTo_89 : decode cX5_owedTo 89 = .ok (.ladd, 1) := by decide +kernel
theorem dX5_owedTo_90 : decode cX5_owedTo 90 = .ok (.aload_n 0, 1) := by decide +kernel
theorem dX5_owedTo_91 : decode cX5_owedTo 91 = .ok (.lload 6, 2) := by decide +kernel
theorem dX5_owedTo_93 : decode cX5_owedTo 93 = .ok (.aload_n 0, 1) := by decide +kernel
theorem dX5_owedTo_94 : decode cX5_owedTo 94 = .ok (.getfield 121, 3) := by decide +kernel
theorem dX5_owedTo_97 : decode cX5_owedTo 97 = .ok (.iload_n 3, 1) := by decide +kernel
theorem dX5_owedTo_98 : decode cX5_owedTo 98 = .ok (.isub, 1) := by decide +kernel
theorem dX5_owedTo_99 : decode cX5_owedTo 99 = .ok (.invokevirtual 195, 3) := by decide +kernel
theorem dX5_owedTo_102 : decode cX5_owedTo 102 = .ok (.ladd, 1) := by decide +kernel
theorem dX5_owedTo_103 : decode cX5_owedTo 103 = .ok (.lreturn, 1) := by decide +kernel
theorem dX5_owed_0 : decode cX5_owed 0 = .ok (.aload_n 0, 1) := by decide +kernel
theorem dX5_owed_1 : decode cX5_owed 1 = .ok (.aload_n 0, 1) := by decide +kernel
theorem dX5_owed_2 : decode cX5_owed 2 = .ok (.iload_n 1, 1) := by decide +kernel
theorem dX5_owed_3 : decode cX5_owed 3 = .ok (.invokevirtual 136, 3) := by decide +kernel
theorem dX5_owed_6 : decode cX5_owed 6 = .ok (.ifCond .ne 7, 3) := by decide +kernel
theorem dX5_owed_9 : decode cX5_owed 9 = .ok (.iconst 1, 1) := by decide +kernel
theorem dX5_owed_10 : decode cX5_owed 10 = .ok (.goto 4, 3) := by decide +kernel
theorem dX5_owed_13 : decode cX5_owed 13 = .ok (.iconst 0, 1) := by decide +kernel
theorem dX5_owed_14 : decode cX5_owed 14 = .ok (.putfield 100, 3) := by decide +kernel
theorem dX5_owed_17 : decode cX5_owed 17 = .ok (.aload_n 0, 1) := by decide +kernel
theorem dX5_owed_18 : decode cX5_owed 18 = .ok (.getfield 100, 3) := by decide +kernel
theorem dX5_owed_21 : decode cX5_owed 21 = .ok (.ifCond .le 7, 3) := by decide +kernel
theorem dX5_owed_24 : decode cX5_owed 24 = .ok (.lconst 0, 1) := by decide +kernel
theorem dX5_owed_25 : decode cX5_owed 25 = .ok (.goto 8, 3) := by decide +kernel
theorem dX5_owed_28 : decode cX5_owed 28 = .ok (.aload_n 0, 1) := by decide +kernel
theorem dX5_owed_29 : decode cX5_owed 29 = .ok (.iload_n 1, 1) := by decide +kernel
theorem dX5_owed_30 : decode cX5_owed 30 = .ok (.invokevirtual 199, 3) := by decide +kernel
theorem dX5_owed_33 : decode cX5_owed 33 = .ok (.lreturn, 1) := by decide +kernel
theorem dX5_advance_0 : decode cX5_advance 0 = .ok (.aload_n 0, 1) := by decide +kernel
theorem dX5_advance_1 : decode cX5_advance 1 = .ok (.aload_n 0, 1) := by decide +kernel
theorem dX5_advance_2 : decode cX5_advance 2 = .ok (.iload_n 1, 1) := by decide +kernel
theorem dX5_advance_3 : decode cX5_advance 3 = .ok (.invokevirtual 136, 3) := by decide +kernel
theorem dX5_advance_6 : decode cX5_advance 6 = .ok (.ifCond .ne 7, 3) := by decide +kernel
theorem dX5_advance_9 : decode cX5_advance 9 = .ok (.iconst 1, 1) := by decide +kernel
theorem dX5_advance_10 : decode cX5_advance 10 = .ok (.goto 35, 3) := by decide +kernel
theorem dX5_advance_13 : decode cX5_advance 13 = .ok (.aload_n 0, 1) := by decide +kernel
theorem dX5_advance_14 : decode cX5_advance 14 = .ok (.iload_n 1, 1) := by decide +kernel
theorem dX5_advance_15 : decode cX5_advance 15 = .ok (.invokevirtual 188, 3) := by decide +kernel
theorem dX5_advance_18 : decode cX5_advance 18 = .ok (.ifCond .eq 22, 3) := by decide +kernel
theorem dX5_advance_21 : decode cX5_advance 21 = .ok (.aload_n 0, 1) := by decide +kernel
theorem dX5_advance_22 : decode cX5_advance 22 = .ok (.getfield 76, 3) := by decide +kernel
theorem dX5_advance_25 : decode cX5_advance 25 = .ok (.iload_n 1, 1) := by decide +kernel
theorem dX5_advance_26 : decode cX5_advance 26 = .ok (.iaload, 1) := by decide +kernel
theorem dX5_advance_27 : decode cX5_advance 27 = .ok (.iconst (-1), 1) := by decide +kernel
theorem dX5_advance_28 : decode cX5_advance 28 = .ok (.if_icmp .ne 12, 3) := by decide +kernel
theorem dX5_advance_31 : decode cX5_advance 31 = .ok (.aload_n 0, 1) := by decide +kernel
theorem dX5_advance_32 : decode cX5_advance 32 = .ok (.getfield 79, 3) := by decide +kernel
theorem dX5_advance_35 : decode cX5_advance 35 = .ok (.iload_n 1, 1) := by decide +kernel
theorem dX5_advance_36 : decode cX5_advance 36 = .ok (.baload, 1) := by decide +kernel
theorem dX5_advance_37 : decode cX5_advance 37 = .ok (.ifCond .eq 7, 3) := by decide +kernel
theorem dX5_advance_40 : decode cX5_advance 40 = .ok (.iconst 2, 1) := by decide +kernel
theorem dX5_advance_41 : decode cX5_advance 41 = .ok (.goto 4, 3) := by decide +kernel
theorem dX5_advance_44 : decode cX5_advance 44 = .ok (.iconst 0, 1) := by decide +kernel
theorem dX5_advance_45 : decode cX5_advance 45 = .ok (.putfield 100, 3) := by decide +kernel
theorem dX5_advance_48 : decode cX5_advance 48 = .ok (.aload_n 0, 1) := by decide +kernel
theorem dX5_advance_49 : decode cX5_advance 49 = .ok (.getfield 100, 3) := by decide +kernel
theorem dX5_advance_52 : decode cX5_advance 52 = .ok (.ifCond .le 5, 3) := by decide +kernel
theorem dX5_advance_55 : decode cX5_advance 55 = .ok (.lconst 0, 1) := by decide +kernel
theorem dX5_advance_56 : decode cX5_advance 56 = .ok (.lreturn, 1) := by decide +kernel
theorem dX5_advance_57 : decode cX5_advance 57 = .ok (.aload_n 0, 1) := by decide +kernel
theorem dX5_advance_58 : decode cX5_advance 58 = .ok (.getfield 73, 3) := by decide +kernel
theorem dX5_advance_61 : decode cX5_advance 61 = .ok (.iload_n 1, 1) := by decide +kernel
theorem dX5_advance_62 : decode cX5_advance 62 = .ok (.aload_n 0, 1) := by decide +kernel
theorem dX5_advance_63 : decode cX5_advance 63 = .ok (.getfield 67, 3) := by decide +kernel
theorem dX5_advance_66 : decode cX5_advance 66 = .ok (.iload_n 1, 1) := by decide +kernel
theorem dX5_advance_67 : decode cX5_advance 67 = .ok (.laload, 1) := by decide +kernel
theorem dX5_advance_68 : decode cX5_advance 68 = .ok (.ldc2_w 202, 3) := by decide +kernel
theorem dX5_advance_71 : decode cX5_advance 71 = .ok (.lmul, 1) := by decide +kernel
theorem dX5_advance_72 : decode cX5_advance 72 = .ok (.ldc2_w 167, 3) := by decide +kernel
theorem dX5_advance_75 : decode cX5_advance 75 = .ok (.ldiv, 1) := by decide +kernel
theorem dX5_advance_76 : decode cX5_advance 76 = .ok (.lastore, 1) := by decide +kernel
theorem dX5_advance_77 : decode cX5_advance 77 = .ok (.aload_n 0, 1) := by decide +kernel
theorem dX5_advance_78 : decode cX5_advance 78 = .ok (.getfield 76, 3) := by decide +kernel
theorem dX5_advance_81 : decode cX5_advance 81 = .ok (.iload_n 1, 1) := by decide +kernel
theorem dX5_advance_82 : decode cX5_advance 82 = .ok (.aload_n 0, 1) := by decide +kernel
theorem dX5_advance_83 : decode cX5_advance 83 = .ok (.getfield 121, 3) := by decide +kernel
theorem dX5_advance_86 : decode cX5_advance 86 = .ok (.iastore, 1) := by decide +kernel
theorem dX5_advance_87 : decode cX5_advance 87 = .ok (.aload_n 0, 1) := by decide +kernel
theorem dX5_advance_88 : decode cX5_advance 88 = .ok (.getfield 70, 3) := by decide +kernel
theorem dX5_advance_91 : decode cX5_advance 91 = .ok (.iload_n 1, 1) := by decide +kernel
theorem dX5_advance_92 : decode cX5_advance 92 = .ok (.dup2, 1) := by decide +kernel
theorem dX5_advance_93 : decode cX5_advance 93 = .ok (.laload, 1) := by decide +kernel
theorem dX5_advance_94 : decode cX5_advance 94 = .ok (.aload_n 0, 1) := by decide +kernel
theorem dX5_advance_95 : decode cX5_advance 95 = .ok (.getfield 73, 3) := by decide +kernel
theorem dX5_advance_98 : decode cX5_advance 98 = .ok (.iload_n 1, 1) := by decide +kernel
theorem dX5_advance_99 : decode cX5_advance 99 = .ok (.laload, 1) := by decide +kernel
theorem dX5_advance_100 : decode cX5_advance 100 = .ok (.ladd, 1) := by decide +kernel
theorem dX5_advance_101 : decode cX5_advance 101 = .ok (.lastore, 1) := by decide +kernel
theorem dX5_advance_102 : decode cX5_advance 102 = .ok (.aload_n 0, 1) := by decide +kernel
theorem dX5_advance_103 : decode cX5_advance 103 = .ok (.getfield 73, 3) := by decide +kernel
theorem dX5_advance_106 : decode cX5_advance 106 = .ok (.iload_n 1, 1) := by decide +kernel
theorem dX5_advance_107 : decode cX5_advance 107 = .ok (.laload, 1) := by decide +kernel
theorem dX5_advance_108 : decode cX5_advance 108 = .ok (.lreturn, 1) := by decide +kernel
theorem dX5_settle_0 : decode cX5_settle 0 = .ok (.aload_n 0, 1) := by decide +kernel
theorem dX5_settle_1 : decode cX5_settle 1 = .ok (.aload_n 0, 1) := by decide +kernel
theorem dX5_settle_2 : decode cX5_settle 2 = .ok (.iload_n 1, 1) := by decide +kernel
theorem dX5_settle_3 : decode cX5_settle 3 = .ok (.invokevirtual 136, 3) := by decide +kernel
theorem dX5_settle_6 : decode cX5_settle 6 = .ok (.ifCond .ne 7, 3) := by decide +kernel
theorem dX5_settle_9 : decode cX5_settle 9 = .ok (.iconst 1, 1) := by decide +kernel
theorem dX5_settle_10 : decode cX5_settle 10 = .ok (.goto 25, 3) := by decide +kernel
theorem dX5_settle_13 : decode cX5_settle 13 = .ok (.aload_n 0, 1) := by decide +kernel
theorem dX5_settle_14 : decode cX5_settle 14 = .ok (.iload_n 1, 1) := by decide +kernel
theorem dX5_settle_15 : decode cX5_settle 15 = .ok (.invokevirtual 188, 3) := by decide +kernel
theorem dX5_settle_18 : decode cX5_settle 18 = .ok (.ifCond .eq 12, 3) := by decide +kernel
theorem dX5_settle_21 : decode cX5_settle 21 = .ok (.aload_n 0, 1) := by decide +kernel
theorem dX5_settle_22 : decode cX5_settle 22 = .ok (.getfield 79, 3) := by decide +kernel
theorem dX5_settle_25 : decode cX5_settle 25 = .ok (.iload_n 1, 1) := by decide +kernel
theorem dX5_settle_26 : decode cX5_settle 26 = .ok (.baload, 1) := by decide +kernel
theorem dX5_settle_27 : decode cX5_settle 27 = .ok (.ifCond .eq 7, 3) := by decide +kernel
theorem dX5_settle_30 : decode cX5_settle 30 = .ok (.iconst 2, 1) := by decide +kernel
theorem dX5_settle_31 : decode cX5_settle 31 = .ok (.goto 4, 3) := by decide +kernel
theorem dX5_settle_34 : decode cX5_settle 34 = .ok (.iconst 0, 1) := by decide +kernel
theorem dX5_settle_35 : decode cX5_settle 35 = .ok (.putfield 100, 3) := by decide +kernel
theorem dX5_settle_38 : decode cX5_settle 38 = .ok (.aload_n 0, 1) := by decide +kernel
theorem dX5_settle_39 : decode cX5_settle 39 = .ok (.getfield 100, 3) := by decide +kernel
theorem dX5_settle_42 : decode cX5_settle 42 = .ok (.ifCond .le 5, 3) := by decide +kernel
theorem dX5_settle_45 : decode cX5_settle 45 = .ok (.lconst 0, 1) := by decide +kernel
theorem dX5_settle_46 : decode cX5_settle 46 = .ok (.lreturn, 1) := by decide +kernel
theorem dX5_settle_47 : decode cX5_settle 47 = .ok (.aload_n 0, 1) := by decide +kernel
theorem dX5_settle_48 : decode cX5_settle 48 = .ok (.iload_n 1, 1) := by decide +kernel
theorem dX5_settle_49 : decode cX5_settle 49 = .ok (.invokevirtual 199, 3) := by decide +kernel
theorem dX5_settle_52 : decode cX5_settle 52 = .ok (.lstore_n 2, 1) := by decide +kernel
theorem dX5_settle_53 : decode cX5_settle 53 = .ok (.aload_n 0, 1) := by decide +kernel
theorem dX5_settle_54 : decode cX5_settle 54 = .ok (.getfield 70, 3) := by decide +kernel
theorem dX5_settle_57 : decode cX5_settle 57 = .ok (.iload_n 1, 1) := by decide +kernel
theorem dX5_settle_58 : decode cX5_settle 58 = .ok (.dup2, 1) := by decide +kernel
theorem dX5_settle_59 : decode cX5_settle 59 = .ok (.laload, 1) := by decide +kernel
theorem dX5_settle_60 : decode cX5_settle 60 = .ok (.lload_n 2, 1) := by decide +kernel
theorem dX5_settle_61 : decode cX5_settle 61 = .ok (.ladd, 1) := by decide +kernel
theorem dX5_settle_62 : decode cX5_settle 62 = .ok (.lastore, 1) := by decide +kernel
theorem dX5_settle_63 : decode cX5_settle 63 = .ok (.aload_n 0, 1) := by decide +kernel
theorem dX5_settle_64 : decode cX5_settle 64 = .ok (.getfield 79, 3) := by decide +kernel
theorem dX5_settle_67 : decode cX5_settle 67 = .ok (.iload_n 1, 1) := by decide +kernel
theorem dX5_settle_68 : decode cX5_settle 68 = .ok (.iconst 1, 1) := by decide +kernel
theorem dX5_settle_69 : decode cX5_settle 69 = .ok (.bastore, 1) := by decide +kernel
theorem dX5_settle_70 : decode cX5_settle 70 = .ok (.lload_n 2, 1) := by decide +kernel
theorem dX5_settle_71 : decode cX5_settle 71 = .ok (.lreturn, 1) := by decide +kernel
theorem dX5_refuse_0 : decode cX5_refuse 0 = .ok (.aload_n 0, 1) := by decide +kernel
theorem dX5_refuse_1 : decode cX5_refuse 1 = .ok (.aload_n 0, 1) := by decide +kernel
theorem dX5_refuse_2 : decode cX5_refuse 2 = .ok (.iload_n 1, 1) := by decide +kernel
theorem dX5_refuse_3 : decode cX5_refuse 3 = .ok (.invokevirtual 114, 3) := by decide +kernel
theorem dX5_refuse_6 : decode cX5_refuse 6 = .ok (.ifCond .ne 7, 3) := by decide +kernel
theorem dX5_refuse_9 : decode cX5_refuse 9 = .ok (.iconst 1, 1) := by decide +kernel
theorem dX5_refuse_10 : decode cX5_refuse 10 = .ok (.goto 18, 3) := by decide +kernel
theorem dX5_refuse_13 : decode cX5_refuse 13 = .ok (.aload_n 0, 1) := by decide +kernel
theorem dX5_refuse_14 : decode cX5_refuse 14 = .ok (.getfield 36, 3) := by decide +kernel
theorem dX5_refuse_17 : decode cX5_refuse 17 = .ok (.iload_n 1, 1) := by decide +kernel
theorem dX5_refuse_18 : decode cX5_refuse 18 = .ok (.iaload, 1) := by decide +kernel
theorem dX5_refuse_19 : decode cX5_refuse 19 = .ok (.iconst (-1), 1) := by decide +kernel
theorem dX5_refuse_20 : decode cX5_refuse 20 = .ok (.if_icmp .ne 7, 3) := by decide +kernel
theorem dX5_refuse_23 : decode cX5_refuse 23 = .ok (.iconst 2, 1) := by decide +kernel
theorem dX5_refuse_24 : decode cX5_refuse 24 = .ok (.goto 4, 3) := by decide +kernel
theorem dX5_refuse_27 : decode cX5_refuse 27 = .ok (.iconst 0, 1) := by decide +kernel
theorem dX5_refuse_28 : decode cX5_refuse 28 = .ok (.putfield 100, 3) := by decide +kernel
theorem dX5_refuse_31 : decode cX5_refuse 31 = .ok (.aload_n 0, 1) := by decide +kernel
theorem dX5_refuse_32 : decode cX5_refuse 32 = .ok (.getfield 100, 3) := by decide +kernel
theorem dX5_refuse_35 : decode cX5_refuse 35 = .ok (.ifCond .le 5, 3) := by decide +kernel
theorem dX5_refuse_38 : decode cX5_refuse 38 = .ok (.iconst 0, 1) := by decide +kernel
theorem dX5_refuse_39 : decode cX5_refuse 39 = .ok (.ireturn, 1) := by decide +kernel
theorem dX5_refuse_40 : decode cX5_refuse 40 = .ok (.aload_n 0, 1) := by decide +kernel
theorem dX5_refuse_41 : decode cX5_refuse 41 = .ok (.getfield 36, 3) := by decide +kernel
theorem dX5_refuse_44 : decode cX5_refuse 44 = .ok (.iload_n 1, 1) := by decide +kernel
theorem dX5_refuse_45 : decode cX5_refuse 45 = .ok (.aload_n 0, 1) := by decide +kernel
theorem dX5_refuse_46 : decode cX5_refuse 46 = .ok (.iload_n 1, 1) := by decide +kernel
theorem dX5_refuse_47 : decode cX5_refuse 47 = .ok (.aload_n 0, 1) := by decide +kernel
theorem dX5_refuse_48 : decode cX5_refuse 48 = .ok (.getfield 36, 3) := by decide +kernel
theorem dX5_refuse_51 : decode cX5_refuse 51 = .ok (.iload_n 1, 1) := by decide +kernel
theorem dX5_refuse_52 : decode cX5_refuse 52 = .ok (.iaload, 1) := by decide +kernel
theorem dX5_refuse_53 : decode cX5_refuse 53 = .ok (.invokevirtual 160, 3) := by decide +kernel
theorem dX5_refuse_56 : decode cX5_refuse 56 = .ok (.iastore, 1) := by decide +kernel
theorem dX5_refuse_57 : decode cX5_refuse 57 = .ok (.aload_n 0, 1) := by decide +kernel
theorem dX5_refuse_58 : decode cX5_refuse 58 = .ok (.getfield 39, 3) := by decide +kernel
theorem dX5_refuse_61 : decode cX5_refuse 61 = .ok (.iload_n 1, 1) := by decide +kernel
theorem dX5_refuse_62 : decode cX5_refuse 62 = .ok (.aload_n 0, 1) := by decide +kernel
theorem dX5_refuse_63 : decode cX5_refuse 63 = .ok (.getfield 36, 3) := by decide +kernel
theorem dX5_refuse_66 : decode cX5_refuse 66 = .ok (.iload_n 1, 1) := by decide +kernel
theorem dX5_refuse_67 : decode cX5_refuse 67 = .ok (.iaload, 1) := by decide +kernel
theorem dX5_refuse_68 : decode cX5_refuse 68 = .ok (.iconst (-1), 1) := by decide +kernel
theorem dX5_refuse_69 : decode cX5_refuse 69 = .ok (.if_icmp .ne 7, 3) := by decide +kernel
theorem dX5_refuse_72 : decode cX5_refuse 72 = .ok (.iconst 0, 1) := by decide +kernel
theorem dX5_refuse_73 : decode cX5_refuse 73 = .ok (.goto 9, 3) := by decide +kernel
theorem dX5_refuse_76 : decode cX5_refuse 76 = .ok (.aload_n 0, 1) := by decide +kernel
theorem dX5_refuse_77 : decode cX5_refuse 77 = .ok (.getfield 39, 3) := by decide +kernel
theorem dX5_refuse_80 : decode cX5_refuse 80 = .ok (.iload_n 1, 1) := by decide +kernel
theorem dX5_refuse_81 : decode cX5_refuse 81 = .ok (.iaload, 1) := by decide +kernel
theorem dX5_refuse_82 : decode cX5_refuse 82 = .ok (.iastore, 1) := by decide +kernel
theorem dX5_refuse_83 : decode cX5_refuse 83 = .ok (.aload_n 0, 1) := by decide +kernel
theorem dX5_refuse_84 : decode cX5_refuse 84 = .ok (.getfield 36, 3) := by decide +kernel
theorem dX5_refuse_87 : decode cX5_refuse 87 = .ok (.iload_n 1, 1) := by decide +kernel
theorem dX5_refuse_88 : decode cX5_refuse 88 = .ok (.iaload, 1) := by decide +kernel
theorem dX5_refuse_89 : decode cX5_refuse 89 = .ok (.ireturn, 1) := by decide +kernel
theorem dX5_accept_0 : decode cX5_accept 0 = .ok (.aload_n 0, 1) := by decide +kernel
theorem dX5_accept_1 : decode cX5_accept 1 = .ok (.aload_n 0, 1) := by decide +kernel
theorem dX5_accept_2 : decode cX5_accept 2 = .ok (.iload_n 1, 1) := by decide +kernel
theorem dX5_accept_3 : decode cX5_accept 3 = .ok (.invokevirtual 114, 3) := by decide +kernel
theorem dX5_accept_6 : decode cX5_accept 6 = .ok (.ifCond .ne 7, 3) := by decide +kernel
theorem dX5_accept_9 : decode cX5_accept 9 = .ok (.iconst 1, 1) := by decide +kernel
theorem dX5_accept_10 : decode cX5_accept 10 = .ok (.goto 18, 3) := by decide +kernel
theorem dX5_accept_13 : decode cX5_accept 13 = .ok (.aload_n 0, 1) := by decide +kernel
theorem dX5_accept_14 : decode cX5_accept 14 = .ok (.getfield 36, 3) := by decide +kernel
theorem dX5_accept_17 : decode cX5_accept 17 = .ok (.iload_n 1, 1) := by decide +kernel
theorem dX5_accept_18 : decode cX5_accept 18 = .ok (.iaload, 1) := by decide +kernel
theorem dX5_accept_19 : decode cX5_accept 19 = .ok (.iconst (-1), 1) := by decide +kernel
theorem dX5_accept_20 : decode cX5_accept 20 = .ok (.if_icmp .ne 7, 3) := by decide +kernel
theorem dX5_accept_23 : decode cX5_accept 23 = .ok (.iconst 2, 1) := by decide +kernel
theorem dX5_accept_24 : decode cX5_accept 24 = .ok (.goto 4, 3) := by decide +kernel
theorem dX5_accept_27 : decode cX5_accept 27 = .ok (.iconst 0, 1) := by decide +kernel
theorem dX5_accept_28 : decode cX5_accept 28 = .ok (.putfield 100, 3) := by decide +kernel
theorem dX5_accept_31 : decode cX5_accept 31 = .ok (.aload_n 0, 1) := by decide +kernel
theorem dX5_accept_32 : decode cX5_accept 32 = .ok (.getfield 100, 3) := by decide +kernel
theorem dX5_accept_35 : decode cX5_accept 35 = .ok (.ifCond .le 5, 3) := by decide +kernel
theorem dX5_accept_38 : decode cX5_accept 38 = .ok (.iconst 0, 1) := by decide +kernel
theorem dX5_accept_39 : decode cX5_accept 39 = .ok (.ireturn, 1) := by decide +kernel
theorem dX5_accept_40 : decode cX5_accept 40 = .ok (.aload_n 0, 1) := by decide +kernel
theorem dX5_accept_41 : decode cX5_accept 41 = .ok (.getfield 39, 3) := by decide +kernel
theorem dX5_accept_44 : decode cX5_accept 44 = .ok (.iload_n 1, 1) := by decide +kernel
theorem dX5_accept_45 : decode cX5_accept 45 = .ok (.iaload, 1) := by decide +kernel
theorem dX5_accept_46 : decode cX5_accept 46 = .ok (.istore_n 2, 1) := by decide +kernel
theorem dX5_accept_47 : decode cX5_accept 47 = .ok (.aload_n 0, 1) := by decide +kernel
theorem dX5_accept_48 : decode cX5_accept 48 = .ok (.dup, 1) := by decide +kernel
theorem dX5_accept_49 : decode cX5_accept 49 = .ok (.getfield 204, 3) := by decide +kernel
theorem dX5_accept_52 : decode cX5_accept 52 = .ok (.iload_n 2, 1) := by decide +kernel
theorem dX5_accept_53 : decode cX5_accept 53 = .ok (.i2l, 1) := by decide +kernel
theorem dX5_accept_54 : decode cX5_accept 54 = .ok (.ladd, 1) := by decide +kernel
theorem dX5_accept_55 : decode cX5_accept 55 = .ok (.putfield 204, 3) := by decide +kernel
theorem dX5_accept_58 : decode cX5_accept 58 = .ok (.aload_n 0, 1) := by decide +kernel
theorem dX5_accept_59 : decode cX5_accept 59 = .ok (.getfield 20, 3) := by decide +kernel
theorem dX5_accept_62 : decode cX5_accept 62 = .ok (.iload_n 1, 1) := by decide +kernel
theorem dX5_accept_63 : decode cX5_accept 63 = .ok (.iconst 2, 1) := by decide +kernel
theorem dX5_accept_64 : decode cX5_accept 64 = .ok (.iastore, 1) := by decide +kernel
theorem dX5_accept_65 : decode cX5_accept 65 = .ok (.aload_n 0, 1) := by decide +kernel
theorem dX5_accept_66 : decode cX5_accept 66 = .ok (.getfield 36, 3) := by decide +kernel
theorem dX5_accept_69 : decode cX5_accept 69 = .ok (.iload_n 1, 1) := by decide +kernel
theorem dX5_accept_70 : decode cX5_accept 70 = .ok (.iconst (-1), 1) := by decide +kernel
theorem dX5_accept_71 : decode cX5_accept 71 = .ok (.iastore, 1) := by decide +kernel
theorem dX5_accept_72 : decode cX5_accept 72 = .ok (.aload_n 0, 1) := by decide +kernel
theorem dX5_accept_73 : decode cX5_accept 73 = .ok (.getfield 39, 3) := by decide +kernel
theorem dX5_accept_76 : decode cX5_accept 76 = .ok (.iload_n 1, 1) := by decide +kernel
theorem dX5_accept_77 : decode cX5_accept 77 = .ok (.iconst 0, 1) := by decide +kernel
theorem dX5_accept_78 : decode cX5_accept 78 = .ok (.iastore, 1) := by decide +kernel
theorem dX5_accept_79 : decode cX5_accept 79 = .ok (.iload_n 2, 1) := by decide +kernel
theorem dX5_accept_80 : decode cX5_accept 80 = .ok (.ireturn, 1) := by decide +kernel
theorem dX5_pass_0 : decode cX5_pass 0 = .ok (.aload_n 0, 1) := by decide +kernel
theorem dX5_pass_1 : decode cX5_pass 1 = .ok (.aload_n 0, 1) := by decide +kernel
theorem dX5_pass_2 : decode cX5_pass 2 = .ok (.iload_n 1, 1) := by decide +kernel
theorem dX5_pass_3 : decode cX5_pass 3 = .ok (.iconst 1, 1) := by decide +kernel
theorem dX5_pass_4 : decode cX5_pass 4 = .ok (.sipush 1000, 3) := by decide +kernel
theorem dX5_pass_7 : decode cX5_pass 7 = .ok (.invokevirtual 104, 3) := by decide +kernel
theorem dX5_pass_10 : decode cX5_pass 10 = .ok (.ifCond .ne 7, 3) := by decide +kernel
theorem dX5_pass_13 : decode cX5_pass 13 = .ok (.iconst 1, 1) := by decide +kernel
theorem dX5_pass_14 : decode cX5_pass 14 = .ok (.goto 20, 3) := by decide +kernel
theorem dX5_pass_17 : decode cX5_pass 17 = .ok (.aload_n 0, 1) := by decide +kernel
theorem dX5_pass_18 : decode cX5_pass 18 = .ok (.getfield 121, 3) := by decide +kernel
theorem dX5_pass_21 : decode cX5_pass 21 = .ok (.iload_n 1, 1) := by decide +kernel
theorem dX5_pass_22 : decode cX5_pass 22 = .ok (.iadd, 1) := by decide +kernel
theorem dX5_pass_23 : decode cX5_pass 23 = .ok (.sipush 20000, 3) := by decide +kernel
theorem dX5_pass_26 : decode cX5_pass 26 = .ok (.if_icmp .le 7, 3) := by decide +kernel
theorem dX5_pass_29 : decode cX5_pass 29 = .ok (.iconst 2, 1) := by decide +kernel
theorem dX5_pass_30 : decode cX5_pass 30 = .ok (.goto 4, 3) := by decide +kernel
theorem dX5_pass_33 : decode cX5_pass 33 = .ok (.iconst 0, 1) := by decide +kernel
theorem dX5_pass_34 : decode cX5_pass 34 = .ok (.putfield 100, 3) := by decide +kernel
theorem dX5_pass_37 : decode cX5_pass 37 = .ok (.aload_n 0, 1) := by decide +kernel
theorem dX5_pass_38 : decode cX5_pass 38 = .ok (.getfield 100, 3) := by decide +kernel
theorem dX5_pass_41 : decode cX5_pass 41 = .ok (.ifCond .le 5, 3) := by decide +kernel
theorem dX5_pass_44 : decode cX5_pass 44 = .ok (.iconst 0, 1) := by decide +kernel
theorem dX5_pass_45 : decode cX5_pass 45 = .ok (.ireturn, 1) := by decide +kernel
theorem dX5_pass_46 : decode cX5_pass 46 = .ok (.iconst 0, 1) := by decide +kernel
theorem dX5_pass_47 : decode cX5_pass 47 = .ok (.istore_n 2, 1) := by decide +kernel
theorem dX5_pass_48 : decode cX5_pass 48 = .ok (.iload_n 2, 1) := by decide +kernel
theorem dX5_pass_49 : decode cX5_pass 49 = .ok (.iload_n 1, 1) := by decide +kernel
theorem dX5_pass_50 : decode cX5_pass 50 = .ok (.if_icmp .ge 60, 3) := by decide +kernel
theorem dX5_pass_53 : decode cX5_pass 53 = .ok (.iconst 0, 1) := by decide +kernel
theorem dX5_pass_54 : decode cX5_pass 54 = .ok (.istore_n 3, 1) := by decide +kernel
theorem dX5_pass_55 : decode cX5_pass 55 = .ok (.iload_n 3, 1) := by decide +kernel
theorem dX5_pass_56 : decode cX5_pass 56 = .ok (.iconst 2, 1) := by decide +kernel
theorem dX5_pass_57 : decode cX5_pass 57 = .ok (.if_icmp .gt 37, 3) := by decide +kernel
theorem dX5_pass_60 : decode cX5_pass 60 = .ok (.aload_n 0, 1) := by decide +kernel
theorem dX5_pass_61 : decode cX5_pass 61 = .ok (.getfield 8, 3) := by decide +kernel
theorem dX5_pass_64 : decode cX5_pass 64 = .ok (.iconst 3, 1) := by decide +kernel
theorem dX5_pass_65 : decode cX5_pass 65 = .ok (.aload_n 0, 1) := by decide +kernel
theorem dX5_pass_66 : decode cX5_pass 66 = .ok (.getfield 121, 3) := by decide +kernel
theorem dX5_pass_69 : decode cX5_pass 69 = .ok (.imul, 1) := by decide +kernel
theorem dX5_pass_70 : decode cX5_pass 70 = .ok (.iconst 3, 1) := by decide +kernel
theorem dX5_pass_71 : decode cX5_pass 71 = .ok (.iadd, 1) := by decide +kernel
theorem dX5_pass_72 : decode cX5_pass 72 = .ok (.iload_n 3, 1) := by decide +kernel
theorem dX5_pass_73 : decode cX5_pass 73 = .ok (.iadd, 1) := by decide +kernel
theorem dX5_pass_74 : decode cX5_pass 74 = .ok (.aload_n 0, 1) := by decide +kernel
theorem dX5_pass_75 : decode cX5_pass 75 = .ok (.getfield 8, 3) := by decide +kernel
theorem dX5_pass_78 : decode cX5_pass 78 = .ok (.iconst 3, 1) := by decide +kernel
theorem dX5_pass_79 : decode cX5_pass 79 = .ok (.aload_n 0, 1) := by decide +kernel
theorem dX5_pass_80 : decode cX5_pass 80 = .ok (.getfield 121, 3) := by decide +kernel
theorem dX5_pass_83 : decode cX5_pass 83 = .ok (.imul, 1) := by decide +kernel
theorem dX5_pass_84 : decode cX5_pass 84 = .ok (.iload_n 3, 1) := by decide +kernel
theorem dX5_pass_85 : decode cX5_pass 85 = .ok (.iadd, 1) := by decide +kernel
theorem dX5_pass_86 : decode cX5_pass 86 = .ok (.iaload, 1) := by decide +kernel
theorem dX5_pass_87 : decode cX5_pass 87 = .ok (.iastore, 1) := by decide +kernel
theorem dX5_pass_88 : decode cX5_pass 88 = .ok (.iinc 3 1, 3) := by decide +kernel
theorem dX5_pass_91 : decode cX5_pass 91 = .ok (.goto (-36), 3) := by decide +kernel
theorem dX5_pass_94 : decode cX5_pass 94 = .ok (.aload_n 0, 1) := by decide +kernel
theorem dX5_pass_95 : decode cX5_pass 95 = .ok (.dup, 1) := by decide +kernel
theorem dX5_pass_96 : decode cX5_pass 96 = .ok (.getfield 121, 3) := by decide +kernel
theorem dX5_pass_99 : decode cX5_pass 99 = .ok (.iconst 1, 1) := by decide +kernel
theorem dX5_pass_100 : decode cX5_pass 100 = .ok (.iadd, 1) := by decide +kernel
theorem dX5_pass_101 : decode cX5_pass 101 = .ok (.putfield 121, 3) := by decide +kernel
theorem dX5_pass_104 : decode cX5_pass 104 = .ok (.iinc 2 1, 3) := by decide +kernel
theorem dX5_pass_107 : decode cX5_pass 107 = .ok (.goto (-59), 3) := by decide +kernel
theorem dX5_pass_110 : decode cX5_pass 110 = .ok (.aload_n 0, 1) := by decide +kernel
theorem dX5_pass_111 : decode cX5_pass 111 = .ok (.getfield 121, 3) := by decide +kernel
theorem dX5_pass_114 : decode cX5_pass 114 = .ok (.ireturn, 1) := by decide +kernel
theorem dX5_today_0 : decode cX5_today 0 = .ok (.aload_n 0, 1) := by decide +kernel
theorem dX5_today_1 : decode cX5_today 1 = .ok (.iconst 0, 1) := by decide +kernel
theorem dX5_today_2 : decode cX5_today 2 = .ok (.putfield 100, 3) := by decide +kernel
theorem dX5_today_5 : decode cX5_today 5 = .ok (.aload_n 0, 1) := by decide +kernel
theorem dX5_today_6 : decode cX5_today 6 = .ok (.getfield 121, 3) := by decide +kernel
theorem dX5_today_9 : decode cX5_today 9 = .ok (.ireturn, 1) := by decide +kernel
theorem dX5_total_0 : decode cX5_total 0 = .ok (.aload_n 0, 1) := by decide +kernel
theorem dX5_total_1 : decode cX5_total 1 = .ok (.aload_n 0, 1) := by decide +kernel
theorem dX5_total_2 : decode cX5_total 2 = .ok (.iload_n 1, 1) := by decide +kernel
theorem dX5_total_3 : decode cX5_total 3 = .ok (.iconst 0, 1) := by decide +kernel
theorem dX5_total_4 : decode cX5_total 4 = .ok (.iconst 4, 1) := by decide +kernel
theorem dX5_total_5 : decode cX5_total 5 = .ok (.invokevirtual 104, 3) := by decide +kernel
theorem dX5_total_8 : decode cX5_total 8 = .ok (.ifCond .ne 7, 3) := by decide +kernel
theorem dX5_total_11 : decode cX5_total 11 = .ok (.iconst 1, 1) := by decide +kernel
theorem dX5_total_12 : decode cX5_total 12 = .ok (.goto 4, 3) := by decide +kernel
theorem dX5_total_15 : decode cX5_total 15 = .ok (.iconst 0, 1) := by decide +kernel
theorem dX5_total_16 : decode cX5_total 16 = .ok (.putfield 100, 3) := by decide +kernel
theorem dX5_total_19 : decode cX5_total 19 = .ok (.iload_n 1, 1) := by decide +kernel
theorem dX5_total_20 : decode cX5_total 20 = .ok (.iconst 2, 1) := by decide +kernel
theorem dX5_total_21 : decode cX5_total 21 = .ok (.if_icmp .ne 10, 3) := by decide +kernel
theorem dX5_total_24 : decode cX5_total 24 = .ok (.aload_n 0, 1) := by decide +kernel
theorem dX5_total_25 : decode cX5_total 25 = .ok (.getfield 181, 3) := by decide +kernel
theorem dX5_total_28 : decode cX5_total 28 = .ok (.goto 16, 3) := by decide +kernel
theorem dX5_total_31 : decode cX5_total 31 = .ok (.iload_n 1, 1) := by decide +kernel
theorem dX5_total_32 : decode cX5_total 32 = .ok (.iconst 3, 1) := by decide +kernel
theorem dX5_total_33 : decode cX5_total 33 = .ok (.if_icmp .ne 10, 3) := by decide +kernel
theorem dX5_total_36 : decode cX5_total 36 = .ok (.aload_n 0, 1) := by decide +kernel
theorem dX5_total_37 : decode cX5_total 37 = .ok (.getfield 204, 3) := by decide +kernel
theorem dX5_total_40 : decode cX5_total 40 = .ok (.goto 4, 3) := by decide +kernel
theorem dX5_total_43 : decode cX5_total 43 = .ok (.lconst 0, 1) := by decide +kernel
theorem dX5_total_44 : decode cX5_total 44 = .ok (.lstore_n 2, 1) := by decide +kernel
theorem dX5_total_45 : decode cX5_total 45 = .ok (.iconst 0, 1) := by decide +kernel
theorem dX5_total_46 : decode cX5_total 46 = .ok (.istore 4, 2) := by decide +kernel
theorem dX5_total_48 : decode cX5_total 48 = .ok (.iload 4, 2) := by decide +kernel
theorem dX5_total_50 : decode cX5_total 50 = .ok (.aload_n 0, 1) := by decide +kernel
theorem dX5_total_51 : decode cX5_total 51 = .ok (.getfield 108, 3) := by decide +kernel
theorem dX5_total_54 : decode cX5_total 54 = .ok (.if_icmp .ge 42, 3) := by decide +kernel
theorem dX5_total_57 : decode cX5_total 57 = .ok (.lload_n 2, 1) := by decide +kernel
theorem dX5_total_58 : decode cX5_total 58 = .ok (.iload_n 1, 1) := by decide +kernel
theorem dX5_total_59 : decode cX5_total 59 = .ok (.ifCond .ne 13, 3) := by decide +kernel
theorem dX5_total_62 : decode cX5_total 62 = .ok (.aload_n 0, 1) := by decide +kernel
theorem dX5_total_63 : decode cX5_total 63 = .ok (.getfield 67, 3) := by decide +kernel
theorem dX5_total_66 : decode cX5_total 66 = .ok (.iload 4, 2) := by decide +kernel
theorem dX5_total_68 : decode cX5_total 68 = .ok (.laload, 1) := by decide +kernel
theorem dX5_total_69 : decode cX5_total 69 = .ok (.goto 19, 3) := by decide +kernel
theorem dX5_total_72 : decode cX5_total 72 = .ok (.iload_n 1, 1) := by decide +kernel
theorem dX5_total_73 : decode cX5_total 73 = .ok (.iconst 1, 1) := by decide +kernel
theorem dX5_total_74 : decode cX5_total 74 = .ok (.if_icmp .ne 13, 3) := by decide +kernel
theorem dX5_total_77 : decode cX5_total 77 = .ok (.aload_n 0, 1) := by decide +kernel
theorem dX5_total_78 : decode cX5_total 78 = .ok (.getfield 70, 3) := by decide +kernel
theorem dX5_total_81 : decode cX5_total 81 = .ok (.iload 4, 2) := by decide +kernel
theorem dX5_total_83 : decode cX5_total 83 = .ok (.laload, 1) := by decide +kernel
theorem dX5_total_84 : decode cX5_total 84 = .ok (.goto 4, 3) := by decide +kernel
theorem dX5_total_87 : decode cX5_total 87 = .ok (.lconst 0, 1) := by decide +kernel
theorem dX5_total_88 : decode cX5_total 88 = .ok (.ladd, 1) := by decide +kernel
theorem dX5_total_89 : decode cX5_total 89 = .ok (.lstore_n 2, 1) := by decide +kernel
theorem dX5_total_90 : decode cX5_total 90 = .ok (.iinc 4 1, 3) := by decide +kernel
theorem dX5_total_93 : decode cX5_total 93 = .ok (.goto (-45), 3) := by decide +kernel
theorem dX5_total_96 : decode cX5_total 96 = .ok (.iconst 0, 1) := by decide +kernel
theorem dX5_total_97 : decode cX5_total 97 = .ok (.istore 4, 2) := by decide +kernel
theorem dX5_total_99 : decode cX5_total 99 = .ok (.iload 4, 2) := by decide +kernel
theorem dX5_total_101 : decode cX5_total 101 = .ok (.bipush 36, 2) := by decide +kernel
theorem dX5_total_103 : decode cX5_total 103 = .ok (.if_icmp .ge 28, 3) := by decide +kernel
theorem dX5_total_106 : decode cX5_total 106 = .ok (.lload_n 2, 1) := by decide +kernel
theorem dX5_total_107 : decode cX5_total 107 = .ok (.iload_n 1, 1) := by decide +kernel
theorem dX5_total_108 : decode cX5_total 108 = .ok (.iconst 4, 1) := by decide +kernel
theorem dX5_total_109 : decode cX5_total 109 = .ok (.if_icmp .ne 13, 3) := by decide +kernel
theorem dX5_total_112 : decode cX5_total 112 = .ok (.aload_n 0, 1) := by decide +kernel
theorem dX5_total_113 : decode cX5_total 113 = .ok (.getfield 42, 3) := by decide +kernel
theorem dX5_total_116 : decode cX5_total 116 = .ok (.iload 4, 2) := by decide +kernel
theorem dX5_total_118 : decode cX5_total 118 = .ok (.laload, 1) := by decide +kernel
theorem dX5_total_119 : decode cX5_total 119 = .ok (.goto 4, 3) := by decide +kernel
theorem dX5_total_122 : decode cX5_total 122 = .ok (.lconst 0, 1) := by decide +kernel
theorem dX5_total_123 : decode cX5_total 123 = .ok (.ladd, 1) := by decide +kernel
theorem dX5_total_124 : decode cX5_total 124 = .ok (.lstore_n 2, 1) := by decide +kernel
theorem dX5_total_125 : decode cX5_total 125 = .ok (.iinc 4 1, 3) := by decide +kernel
theorem dX5_total_128 : decode cX5_total 128 = .ok (.goto (-29), 3) := by decide +kernel
theorem dX5_total_131 : decode cX5_total 131 = .ok (.aload_n 0, 1) := by decide +kernel
theorem dX5_total_132 : decode cX5_total 132 = .ok (.getfield 100, 3) := by decide +kernel
theorem dX5_total_135 : decode cX5_total 135 = .ok (.ifCond .le 7, 3) := by decide +kernel
theorem dX5_total_138 : decode cX5_total 138 = .ok (.lconst 0, 1) := by decide +kernel
theorem dX5_total_139 : decode cX5_total 139 = .ok (.goto 4, 3) := by decide +kernel
theorem dX5_total_142 : decode cX5_total 142 = .ok (.lload_n 2, 1) := by decide +kernel
theorem dX5_total_143 : decode cX5_total 143 = .ok (.lreturn, 1) := by decide +kernel
theorem dX5_creditors_0 : decode cX5_creditors 0 = .ok (.aload_n 0, 1) := by decide +kernel
theorem dX5_creditors_1 : decode cX5_creditors 1 = .ok (.aload_n 0, 1) := by decide +kernel
theorem dX5_creditors_2 : decode cX5_creditors 2 = .ok (.iload_n 1, 1) := by decide +kernel
theorem dX5_creditors_3 : decode cX5_creditors 3 = .ok (.iconst 0, 1) := by decide +kernel
theorem dX5_creditors_4 : decode cX5_creditors 4 = .ok (.bipush 9, 2) := by decide +kernel
theorem dX5_creditors_6 : decode cX5_creditors 6 = .ok (.invokevirtual 104, 3) := by decide +kernel
theorem dX5_creditors_9 : decode cX5_creditors 9 = .ok (.ifCond .ne 7, 3) := by decide +kernel
theorem dX5_creditors_12 : decode cX5_creditors 12 = .ok (.iconst 1, 1) := by decide +kernel
theorem dX5_creditors_13 : decode cX5_creditors 13 = .ok (.goto 4, 3) := by decide +kernel
theorem dX5_creditors_16 : decode cX5_creditors 16 = .ok (.iconst 0, 1) := by decide +kernel
theorem dX5_creditors_17 : decode cX5_creditors 17 = .ok (.putfield 100, 3) := by decide +kernel
theorem dX5_creditors_20 : decode cX5_creditors 20 = .ok (.iconst 0, 1) := by decide +kernel
theorem dX5_creditors_21 : decode cX5_creditors 21 = .ok (.istore_n 2, 1) := by decide +kernel
theorem dX5_creditors_22 : decode cX5_creditors 22 = .ok (.iconst 0, 1) := by decide +kernel
theorem dX5_creditors_23 : decode cX5_creditors 23 = .ok (.istore_n 3, 1) := by decide +kernel
theorem dX5_creditors_24 : decode cX5_creditors 24 = .ok (.iload_n 3, 1) := by decide +kernel
theorem dX5_creditors_25 : decode cX5_creditors 25 = .ok (.aload_n 0, 1) := by decide +kernel
theorem dX5_creditors_26 : decode cX5_creditors 26 = .ok (.getfield 108, 3) := by decide +kernel
theorem dX5_creditors_29 : decode cX5_creditors 29 = .ok (.if_icmp .ge 37, 3) := by decide +kernel
theorem dX5_creditors_32 : decode cX5_creditors 32 = .ok (.iload_n 2, 1) := by decide +kernel
theorem dX5_creditors_33 : decode cX5_creditors 33 = .ok (.aload_n 0, 1) := by decide +kernel
theorem dX5_creditors_34 : decode cX5_creditors 34 = .ok (.getfield 52, 3) := by decide +kernel
theorem dX5_creditors_37 : decode cX5_creditors 37 = .ok (.iload_n 3, 1) := by decide +kernel
theorem dX5_creditors_38 : decode cX5_creditors 38 = .ok (.iaload, 1) := by decide +kernel
theorem dX5_creditors_39 : decode cX5_creditors 39 = .ok (.iload_n 1, 1) := by decide +kernel
theorem dX5_creditors_40 : decode cX5_creditors 40 = .ok (.if_icmp .ne 17, 3) := by decide +kernel
theorem dX5_creditors_43 : decode cX5_creditors 43 = .ok (.aload_n 0, 1) := by decide +kernel
theorem dX5_creditors_44 : decode cX5_creditors 44 = .ok (.iload_n 3, 1) := by decide +kernel
theorem dX5_creditors_45 : decode cX5_creditors 45 = .ok (.invokevirtual 199, 3) := by decide +kernel
theorem dX5_creditors_48 : decode cX5_creditors 48 = .ok (.lconst 0, 1) := by decide +kernel
theorem dX5_creditors_49 : decode cX5_creditors 49 = .ok (.lcmp, 1) := by decide +kernel
theorem dX5_creditors_50 : decode cX5_creditors 50 = .ok (.ifCond .le 7, 3) := by decide +kernel
theorem dX5_creditors_53 : decode cX5_creditors 53 = .ok (.iconst 1, 1) := by decide +kernel
theorem dX5_creditors_54 : decode cX5_creditors 54 = .ok (.goto 4, 3) := by decide +kernel
theorem dX5_creditors_57 : decode cX5_creditors 57 = .ok (.iconst 0, 1) := by decide +kernel
theorem dX5_creditors_58 : decode cX5_creditors 58 = .ok (.iadd, 1) := by decide +kernel
theorem dX5_creditors_59 : decode cX5_creditors 59 = .ok (.istore_n 2, 1) := by decide +kernel
theorem dX5_creditors_60 : decode cX5_creditors 60 = .ok (.iinc 3 1, 3) := by decide +kernel
theorem dX5_creditors_63 : decode cX5_creditors 63 = .ok (.goto (-39), 3) := by decide +kernel
theorem dX5_creditors_66 : decode cX5_creditors 66 = .ok (.aload_n 0, 1) := by decide +kernel
theorem dX5_creditors_67 : decode cX5_creditors 67 = .ok (.getfield 100, 3) := by decide +kernel
theorem dX5_creditors_70 : decode cX5_creditors 70 = .ok (.ifCond .le 7, 3) := by decide +kernel
theorem dX5_creditors_73 : decode cX5_creditors 73 = .ok (.iconst 0, 1) := by decide +kernel
theorem dX5_creditors_74 : decode cX5_creditors 74 = .ok (.goto 4, 3) := by decide +kernel
theorem dX5_creditors_77 : decode cX5_creditors 77 = .ok (.iload_n 2, 1) := by decide +kernel
theorem dX5_creditors_78 : decode cX5_creditors 78 = .ok (.ireturn, 1) := by decide +kernel
theorem dJ9_max_7cf53_0 : decode cJ9_max_7cf53 0 = .ok (.iload_n 0, 1) := by decide +kernel
theorem dJ9_max_7cf53_1 : decode cJ9_max_7cf53 1 = .ok (.iload_n 1, 1) := by decide +kernel
theorem dJ9_max_7cf53_2 : decode cJ9_max_7cf53 2 = .ok (.if_icmp .lt 7, 3) := by decide +kernel
theorem dJ9_max_7cf53_5 : decode cJ9_max_7cf53 5 = .ok (.iload_n 0, 1) := by decide +kernel
theorem dJ9_max_7cf53_6 : decode cJ9_max_7cf53 6 = .ok (.goto 4, 3) := by decide +kernel
theorem dJ9_max_7cf53_9 : decode cJ9_max_7cf53 9 = .ok (.iload_n 1, 1) := by decide +kernel
theorem dJ9_max_7cf53_10 : decode cJ9_max_7cf53 10 = .ok (.ireturn, 1) := by decide +kernel
theorem dJ9_min_7cf53_0 : decode cJ9_min_7cf53 0 = .ok (.iload_n 0, 1) := by decide +kernel
theorem dJ9_min_7cf53_1 : decode cJ9_min_7cf53 1 = .ok (.iload_n 1, 1) := by decide +kernel
theorem dJ9_min_7cf53_2 : decode cJ9_min_7cf53 2 = .ok (.if_icmp .gt 7, 3) := by decide +kernel
theorem dJ9_min_7cf53_5 : decode cJ9_min_7cf53 5 = .ok (.iload_n 0, 1) := by decide +kernel
theorem dJ9_min_7cf53_6 : decode cJ9_min_7cf53 6 = .ok (.goto 4, 3) := by decide +kernel
theorem dJ9_min_7cf53_9 : decode cJ9_min_7cf53 9 = .ok (.iload_n 1, 1) := by decide +kernel
theorem dJ9_min_7cf53_10 : decode cJ9_min_7cf53 10 = .ok (.ireturn, 1) := by decide +kernel
theorem dL_plot_0 : decode cL_plot 0 = .ok (.aload 4, 2) := by decide +kernel
theorem dL_plot_2 : decode cL_plot 2 = .ok (.iconst 0, 1) := by decide +kernel
theorem dL_plot_3 : decode cL_plot 3 = .ok (.aload_n 0, 1) := by decide +kernel
theorem dL_plot_4 : decode cL_plot 4 = .ok (.iload_n 1, 1) := by decide +kernel
theorem dL_plot_5 : decode cL_plot 5 = .ok (.iload_n 2, 1) := by decide +kernel
theorem dL_plot_6 : decode cL_plot 6 = .ok (.iload_n 3, 1) := by decide +kernel
theorem dL_plot_7 : decode cL_plot 7 = .ok (.invokevirtual 7, 3) := by decide +kernel
theorem dL_plot_10 : decode cL_plot 10 = .ok (.i2l, 1) := by decide +kernel
theorem dL_plot_11 : decode cL_plot 11 = .ok (.lastore, 1) := by decide +kernel
theorem dL_plot_12 : decode cL_plot 12 = .ok (.goto 15, 3) := by decide +kernel
theorem dL_plot_15 : decode cL_plot 15 = .ok (.astore 5, 2) := by decide +kernel
theorem dL_plot_17 : decode cL_plot 17 = .ok (.iconst 1, 1) := by decide +kernel
theorem dL_plot_18 : decode cL_plot 18 = .ok (.ireturn, 1) := by decide +kernel
theorem dL_plot_19 : decode cL_plot 19 = .ok (.astore 5, 2) := by decide +kernel
theorem dL_plot_21 : decode cL_plot 21 = .ok (.iconst 2, 1) := by decide +kernel
theorem dL_plot_22 : decode cL_plot 22 = .ok (.ireturn, 1) := by decide +kernel
theorem dL_plot_23 : decode cL_plot 23 = .ok (.astore 5, 2) := by decide +kernel
theorem dL_plot_25 : decode cL_plot 25 = .ok (.iconst 3, 1) := by decide +kernel
theorem dL_plot_26 : decode cL_plot 26 = .ok (.ireturn, 1) := by decide +kernel
theorem dL_plot_27 : decode cL_plot 27 = .ok (.iconst 0, 1) := by decide +kernel
theorem dL_plot_28 : decode cL_plot 28 = .ok (.ireturn, 1) := by decide +kernel
theorem dL_price_0 : decode cL_price 0 = .ok (.aload_n 3, 1) := by decide +kernel
theorem dL_price_1 : decode cL_price 1 = .ok (.iconst 0, 1) := by decide +kernel
theorem dL_price_2 : decode cL_price 2 = .ok (.aload_n 0, 1) := by decide +kernel
theorem dL_price_3 : decode cL_price 3 = .ok (.iload_n 1, 1) := by decide +kernel
theorem dL_price_4 : decode cL_price 4 = .ok (.iload_n 2, 1) := by decide +kernel
theorem dL_price_5 : decode cL_price 5 = .ok (.invokevirtual 19, 3) := by decide +kernel
theorem dL_price_8 : decode cL_price 8 = .ok (.i2l, 1) := by decide +kernel
theorem dL_price_9 : decode cL_price 9 = .ok (.lastore, 1) := by decide +kernel
theorem dL_price_10 : decode cL_price 10 = .ok (.goto 7, 3) := by decide +kernel
theorem dL_price_13 : decode cL_price 13 = .ok (.astore 4, 2) := by decide +kernel
theorem dL_price_15 : decode cL_price 15 = .ok (.iconst 1, 1) := by decide +kernel
theorem dL_price_16 : decode cL_price 16 = .ok (.ireturn, 1) := by decide +kernel
theorem dL_price_17 : decode cL_price 17 = .ok (.iconst 0, 1) := by decide +kernel
theorem dL_price_18 : decode cL_price 18 = .ok (.ireturn, 1) := by decide +kernel
theorem dL_worth_0 : decode cL_worth 0 = .ok (.aload_n 3, 1) := by decide +kernel
theorem dL_worth_1 : decode cL_worth 1 = .ok (.iconst 0, 1) := by decide +kernel
theorem dL_worth_2 : decode cL_worth 2 = .ok (.aload_n 0, 1) := by decide +kernel
theorem dL_worth_3 : decode cL_worth 3 = .ok (.iload_n 1, 1) := by decide +kernel
theorem dL_worth_4 : decode cL_worth 4 = .ok (.iload_n 2, 1) := by decide +kernel
theorem dL_worth_5 : decode cL_worth 5 = .ok (.invokevirtual 23, 3) := by decide +kernel
theorem dL_worth_8 : decode cL_worth 8 = .ok (.i2l, 1) := by decide +kernel
theorem dL_worth_9 : decode cL_worth 9 = .ok (.lastore, 1) := by decide +kernel
theorem dL_worth_10 : decode cL_worth 10 = .ok (.goto 11, 3) := by decide +kernel
theorem dL_worth_13 : decode cL_worth 13 = .ok (.astore 4, 2) := by decide +kernel
theorem dL_worth_15 : decode cL_worth 15 = .ok (.iconst 1, 1) := by decide +kernel
theorem dL_worth_16 : decode cL_worth 16 = .ok (.ireturn, 1) := by decide +kernel
theorem dL_worth_17 : decode cL_worth 17 = .ok (.astore 4, 2) := by decide +kernel
theorem dL_worth_19 : decode cL_worth 19 = .ok (.iconst 2, 1) := by decide +kernel
theorem dL_worth_20 : decode cL_worth 20 = .ok (.ireturn, 1) := by decide +kernel
theorem dL_worth_21 : decode cL_worth 21 = .ok (.iconst 0, 1) := by decide +kernel
theorem dL_worth_22 : decode cL_worth 22 = .ok (.ireturn, 1) := by decide +kernel
theorem dL_market_0 : decode cL_market 0 = .ok (.aload_n 2, 1) := by decide +kernel
theorem dL_market_1 : decode cL_market 1 = .ok (.iconst 0, 1) := by decide +kernel
theorem dL_market_2 : decode cL_market 2 = .ok (.aload_n 0, 1) := by decide +kernel
theorem dL_market_3 : decode cL_market 3 = .ok (.iload_n 1, 1) := by decide +kernel
theorem dL_market_4 : decode cL_market 4 = .ok (.invokevirtual 26, 3) := by decide +kernel
theorem dL_market_7 : decode cL_market 7 = .ok (.i2l, 1) := by decide +kernel
theorem dL_market_8 : decode cL_market 8 = .ok (.lastore, 1) := by decide +kernel
theorem dL_market_9 : decode cL_market 9 = .ok (.goto 6, 3) := by decide +kernel
theorem dL_market_12 : decode cL_market 12 = .ok (.astore_n 3, 1) := by decide +kernel
theorem dL_market_13 : decode cL_market 13 = .ok (.iconst 1, 1) := by decide +kernel
theorem dL_market_14 : decode cL_market 14 = .ok (.ireturn, 1) := by decide +kernel
theorem dL_market_15 : decode cL_market 15 = .ok (.iconst 0, 1) := by decide +kernel
theorem dL_market_16 : decode cL_market 16 = .ok (.ireturn, 1) := by decide +kernel
theorem dL_plotOf_0 : decode cL_plotOf 0 = .ok (.aload_n 3, 1) := by decide +kernel
theorem dL_plotOf_1 : decode cL_plotOf 1 = .ok (.iconst 0, 1) := by decide +kernel
theorem dL_plotOf_2 : decode cL_plotOf 2 = .ok (.aload_n 0, 1) := by decide +kernel
theorem dL_plotOf_3 : decode cL_plotOf 3 = .ok (.iload_n 1, 1) := by decide +kernel
theorem dL_plotOf_4 : decode cL_plotOf 4 = .ok (.iload_n 2, 1) := by decide +kernel
theorem dL_plotOf_5 : decode cL_plotOf 5 = .ok (.invokevirtual 30, 3) := by decide +kernel
theorem dL_plotOf_8 : decode cL_plotOf 8 = .ok (.i2l, 1) := by decide +kernel
theorem dL_plotOf_9 : decode cL_plotOf 9 = .ok (.lastore, 1) := by decide +kernel
theorem dL_plotOf_10 : decode cL_plotOf 10 = .ok (.goto 11, 3) := by decide +kernel
theorem dL_plotOf_13 : decode cL_plotOf 13 = .ok (.astore 4, 2) := by decide +kernel
theorem dL_plotOf_15 : decode cL_plotOf 15 = .ok (.iconst 1, 1) := by decide +kernel
theorem dL_plotOf_16 : decode cL_plotOf 16 = .ok (.ireturn, 1) := by decide +kernel
theorem dL_plotOf_17 : decode cL_plotOf 17 = .ok (.astore 4, 2) := by decide +kernel
theorem dL_plotOf_19 : decode cL_plotOf 19 = .ok (.iconst 2, 1) := by decide +kernel
theorem dL_plotOf_20 : decode cL_plotOf 20 = .ok (.ireturn, 1) := by decide +kernel
theorem dL_plotOf_21 : decode cL_plotOf 21 = .ok (.iconst 0, 1) := by decide +kernel
theorem dL_plotOf_22 : decode cL_plotOf 22 = .ok (.ireturn, 1) := by decide +kernel
theorem dL_own_0 : decode cL_own 0 = .ok (.aload 4, 2) := by decide +kernel
theorem dL_own_2 : decode cL_own 2 = .ok (.iconst 0, 1) := by decide +kernel
theorem dL_own_3 : decode cL_own 3 = .ok (.aload_n 0, 1) := by decide +kernel
theorem dL_own_4 : decode cL_own 4 = .ok (.iload_n 1, 1) := by decide +kernel
theorem dL_own_5 : decode cL_own 5 = .ok (.iload_n 2, 1) := by decide +kernel
theorem dL_own_6 : decode cL_own 6 = .ok (.iload_n 3, 1) := by decide +kernel
theorem dL_own_7 : decode cL_own 7 = .ok (.invokevirtual 33, 3) := by decide +kernel
theorem dL_own_10 : decode cL_own 10 = .ok (.i2l, 1) := by decide +kernel
theorem dL_own_11 : decode cL_own 11 = .ok (.lastore, 1) := by decide +kernel
theorem dL_own_12 : decode cL_own 12 = .ok (.goto 15, 3) := by decide +kernel
theorem dL_own_15 : decode cL_own 15 = .ok (.astore 5, 2) := by decide +kernel
theorem dL_own_17 : decode cL_own 17 = .ok (.iconst 1, 1) := by decide +kernel
theorem dL_own_18 : decode cL_own 18 = .ok (.ireturn, 1) := by decide +kernel
theorem dL_own_19 : decode cL_own 19 = .ok (.astore 5, 2) := by decide +kernel
theorem dL_own_21 : decode cL_own 21 = .ok (.iconst 2, 1) := by decide +kernel
theorem dL_own_22 : decode cL_own 22 = .ok (.ireturn, 1) := by decide +kernel
theorem dL_own_23 : decode cL_own 23 = .ok (.astore 5, 2) := by decide +kernel
theorem dL_own_25 : decode cL_own 25 = .ok (.iconst 3, 1) := by decide +kernel
theorem dL_own_26 : decode cL_own 26 = .ok (.ireturn, 1) := by decide +kernel
theorem dL_own_27 : decode cL_own 27 = .ok (.iconst 0, 1) := by decide +kernel
theorem dL_own_28 : decode cL_own 28 = .ok (.ireturn, 1) := by decide +kernel
theorem dL_lease_0 : decode cL_lease 0 = .ok (.aload 5, 2) := by decide +kernel
theorem dL_lease_2 : decode cL_lease 2 = .ok (.iconst 0, 1) := by decide +kernel
theorem dL_lease_3 : decode cL_lease 3 = .ok (.aload_n 0, 1) := by decide +kernel
theorem dL_lease_4 : decode cL_lease 4 = .ok (.iload_n 1, 1) := by decide +kernel
theorem dL_lease_5 : decode cL_lease 5 = .ok (.iload_n 2, 1) := by decide +kernel
theorem dL_lease_6 : decode cL_lease 6 = .ok (.iload_n 3, 1) := by decide +kernel
theorem dL_lease_7 : decode cL_lease 7 = .ok (.iload 4, 2) := by decide +kernel
theorem dL_lease_9 : decode cL_lease 9 = .ok (.invokevirtual 36, 3) := by decide +kernel
theorem dL_lease_12 : decode cL_lease 12 = .ok (.i2l, 1) := by decide +kernel
theorem dL_lease_13 : decode cL_lease 13 = .ok (.lastore, 1) := by decide +kernel
theorem dL_lease_14 : decode cL_lease 14 = .ok (.goto 15, 3) := by decide +kernel
theorem dL_lease_17 : decode cL_lease 17 = .ok (.astore 6, 2) := by decide +kernel
theorem dL_lease_19 : decode cL_lease 19 = .ok (.iconst 1, 1) := by decide +kernel
theorem dL_lease_20 : decode cL_lease 20 = .ok (.ireturn, 1) := by decide +kernel
theorem dL_lease_21 : decode cL_lease 21 = .ok (.astore 6, 2) := by decide +kernel
theorem dL_lease_23 : decode cL_lease 23 = .ok (.iconst 2, 1) := by decide +kernel
theorem dL_lease_24 : decode cL_lease 24 = .ok (.ireturn, 1) := by decide +kernel
theorem dL_lease_25 : decode cL_lease 25 = .ok (.astore 6, 2) := by decide +kernel
theorem dL_lease_27 : decode cL_lease 27 = .ok (.iconst 3, 1) := by decide +kernel
theorem dL_lease_28 : decode cL_lease 28 = .ok (.ireturn, 1) := by decide +kernel
theorem dL_lease_29 : decode cL_lease 29 = .ok (.iconst 0, 1) := by decide +kernel
theorem dL_lease_30 : decode cL_lease 30 = .ok (.ireturn, 1) := by decide +kernel
theorem dL_charge_0 : decode cL_charge 0 = .ok (.aload 4, 2) := by decide +kernel
theorem dL_charge_2 : decode cL_charge 2 = .ok (.iconst 0, 1) := by decide +kernel
theorem dL_charge_3 : decode cL_charge 3 = .ok (.aload_n 0, 1) := by decide +kernel
theorem dL_charge_4 : decode cL_charge 4 = .ok (.iload_n 1, 1) := by decide +kernel
theorem dL_charge_5 : decode cL_charge 5 = .ok (.iload_n 2, 1) := by decide +kernel
theorem dL_charge_6 : decode cL_charge 6 = .ok (.iload_n 3, 1) := by decide +kernel
theorem dL_charge_7 : decode cL_charge 7 = .ok (.invokevirtual 40, 3) := by decide +kernel
theorem dL_charge_10 : decode cL_charge 10 = .ok (.i2l, 1) := by decide +kernel
theorem dL_charge_11 : decode cL_charge 11 = .ok (.lastore, 1) := by decide +kernel
theorem dL_charge_12 : decode cL_charge 12 = .ok (.goto 15, 3) := by decide +kernel
theorem dL_charge_15 : decode cL_charge 15 = .ok (.astore 5, 2) := by decide +kernel
theorem dL_charge_17 : decode cL_charge 17 = .ok (.iconst 1, 1) := by decide +kernel
theorem dL_charge_18 : decode cL_charge 18 = .ok (.ireturn, 1) := by decide +kernel
theorem dL_charge_19 : decode cL_charge 19 = .ok (.astore 5, 2) := by decide +kernel
theorem dL_charge_21 : decode cL_charge 21 = .ok (.iconst 2, 1) := by decide +kernel
theorem dL_charge_22 : decode cL_charge 22 = .ok (.ireturn, 1) := by decide +kernel
theorem dL_charge_23 : decode cL_charge 23 = .ok (.astore 5, 2) := by decide +kernel
theorem dL_charge_25 : decode cL_charge 25 = .ok (.iconst 3, 1) := by decide +kernel
theorem dL_charge_26 : decode cL_charge 26 = .ok (.ireturn, 1) := by decide +kernel
theorem dL_charge_27 : decode cL_charge 27 = .ok (.iconst 0, 1) := by decide +kernel
theorem dL_charge_28 : decode cL_charge 28 = .ok (.ireturn, 1) := by decide +kernel
theorem dL_interestOf_0 : decode cL_interestOf 0 = .ok (.aload_n 3, 1) := by decide +kernel
theorem dL_interestOf_1 : decode cL_interestOf 1 = .ok (.iconst 0, 1) := by decide +kernel
theorem dL_interestOf_2 : decode cL_interestOf 2 = .ok (.aload_n 0, 1) := by decide +kernel
theorem dL_interestOf_3 : decode cL_interestOf 3 = .ok (.iload_n 1, 1) := by decide +kernel
theorem dL_interestOf_4 : decode cL_interestOf 4 = .ok (.iload_n 2, 1) := by decide +kernel
theorem dL_interestOf_5 : decode cL_interestOf 5 = .ok (.invokevirtual 43, 3) := by decide +kernel
theorem dL_interestOf_8 : decode cL_interestOf 8 = .ok (.lastore, 1) := by decide +kernel
theorem dL_interestOf_9 : decode cL_interestOf 9 = .ok (.goto 11, 3) := by decide +kernel
theorem dL_interestOf_12 : decode cL_interestOf 12 = .ok (.astore 4, 2) := by decide +kernel
theorem dL_interestOf_14 : decode cL_interestOf 14 = .ok (.iconst 1, 1) := by decide +kernel
theorem dL_interestOf_15 : decode cL_interestOf 15 = .ok (.ireturn, 1) := by decide +kernel
theorem dL_interestOf_16 : decode cL_interestOf 16 = .ok (.astore 4, 2) := by decide +kernel
theorem dL_interestOf_18 : decode cL_interestOf 18 = .ok (.iconst 2, 1) := by decide +kernel
theorem dL_interestOf_19 : decode cL_interestOf 19 = .ok (.ireturn, 1) := by decide +kernel
theorem dL_interestOf_20 : decode cL_interestOf 20 = .ok (.iconst 0, 1) := by decide +kernel
theorem dL_interestOf_21 : decode cL_interestOf 21 = .ok (.ireturn, 1) := by decide +kernel
theorem dL_scheme_0 : decode cL_scheme 0 = .ok (.aload_n 3, 1) := by decide +kernel
theorem dL_scheme_1 : decode cL_scheme 1 = .ok (.iconst 0, 1) := by decide +kernel
theorem dL_scheme_2 : decode cL_scheme 2 = .ok (.aload_n 0, 1) := by decide +kernel
theorem dL_scheme_3 : decode cL_scheme 3 = .ok (.iload_n 1, 1) := by decide +kernel
theorem dL_scheme_4 : decode cL_scheme 4 = .ok (.iload_n 2, 1) := by decide +kernel
theorem dL_scheme_5 : decode cL_scheme 5 = .ok (.invokevirtual 47, 3) := by decide +kernel
theorem dL_scheme_8 : decode cL_scheme 8 = .ok (.i2l, 1) := by decide +kernel
theorem dL_scheme_9 : decode cL_scheme 9 = .ok (.lastore, 1) := by decide +kernel
theorem dL_scheme_10 : decode cL_scheme 10 = .ok (.goto 11, 3) := by decide +kernel
theorem dL_scheme_13 : decode cL_scheme 13 = .ok (.astore 4, 2) := by decide +kernel
theorem dL_scheme_15 : decode cL_scheme 15 = .ok (.iconst 1, 1) := by decide +kernel
theorem dL_scheme_16 : decode cL_scheme 16 = .ok (.ireturn, 1) := by decide +kernel
theorem dL_scheme_17 : decode cL_scheme 17 = .ok (.astore 4, 2) := by decide +kernel
theorem dL_scheme_19 : decode cL_scheme 19 = .ok (.iconst 2, 1) := by decide +kernel
theorem dL_scheme_20 : decode cL_scheme 20 = .ok (.ireturn, 1) := by decide +kernel
theorem dL_scheme_21 : decode cL_scheme 21 = .ok (.iconst 0, 1) := by decide +kernel
theorem dL_scheme_22 : decode cL_scheme 22 = .ok (.ireturn, 1) := by decide +kernel
theorem dL_draw_0 : decode cL_draw 0 = .ok (.aload 4, 2) := by decide +kernel
theorem dL_draw_2 : decode cL_draw 2 = .ok (.iconst 0, 1) := by decide +kernel
theorem dL_draw_3 : decode cL_draw 3 = .ok (.aload_n 0, 1) := by decide +kernel
theorem dL_draw_4 : decode cL_draw 4 = .ok (.iload_n 1, 1) := by decide +kernel
theorem dL_draw_5 : decode cL_draw 5 = .ok (.iload_n 2, 1) := by decide +kernel
theorem dL_draw_6 : decode cL_draw 6 = .ok (.iload_n 3, 1) := by decide +kernel
theorem dL_draw_7 : decode cL_draw 7 = .ok (.invokevirtual 50, 3) := by decide +kernel
theorem dL_draw_10 : decode cL_draw 10 = .ok (.i2l, 1) := by decide +kernel
theorem dL_draw_11 : decode cL_draw 11 = .ok (.lastore, 1) := by decide +kernel
theorem dL_draw_12 : decode cL_draw 12 = .ok (.goto 15, 3) := by decide +kernel
theorem dL_draw_15 : decode cL_draw 15 = .ok (.astore 5, 2) := by decide +kernel
theorem dL_draw_17 : decode cL_draw 17 = .ok (.iconst 1, 1) := by decide +kernel
theorem dL_draw_18 : decode cL_draw 18 = .ok (.ireturn, 1) := by decide +kernel
theorem dL_draw_19 : decode cL_draw 19 = .ok (.astore 5, 2) := by decide +kernel
theorem dL_draw_21 : decode cL_draw 21 = .ok (.iconst 2, 1) := by decide +kernel
theorem dL_draw_22 : decode cL_draw 22 = .ok (.ireturn, 1) := by decide +kernel
theorem dL_draw_23 : decode cL_draw 23 = .ok (.astore 5, 2) := by decide +kernel
theorem dL_draw_25 : decode cL_draw 25 = .ok (.iconst 3, 1) := by decide +kernel
theorem dL_draw_26 : decode cL_draw 26 = .ok (.ireturn, 1) := by decide +kernel
theorem dL_draw_27 : decode cL_draw 27 = .ok (.iconst 0, 1) := by decide +kernel
theorem dL_draw_28 : decode cL_draw 28 = .ok (.ireturn, 1) := by decide +kernel
theorem dL_notice_0 : decode cL_notice 0 = .ok (.aload_n 2, 1) := by decide +kernel
theorem dL_notice_1 : decode cL_notice 1 = .ok (.iconst 0, 1) := by decide +kernel
theorem dL_notice_2 : decode cL_notice 2 = .ok (.aload_n 0, 1) := by decide +kernel
theorem dL_notice_3 : decode cL_notice 3 = .ok (.iload_n 1, 1) := by decide +kernel
theorem dL_notice_4 : decode cL_notice 4 = .ok (.invokevirtual 53, 3) := by decide +kernel
theorem dL_notice_7 : decode cL_notice 7 = .ok (.i2l, 1) := by decide +kernel
theorem dL_notice_8 : decode cL_notice 8 = .ok (.lastore, 1) := by decide +kernel
theorem dL_notice_9 : decode cL_notice 9 = .ok (.goto 9, 3) := by decide +kernel
theorem dL_notice_12 : decode cL_notice 12 = .ok (.astore_n 3, 1) := by decide +kernel
theorem dL_notice_13 : decode cL_notice 13 = .ok (.iconst 1, 1) := by decide +kernel
theorem dL_notice_14 : decode cL_notice 14 = .ok (.ireturn, 1) := by decide +kernel
theorem dL_notice_15 : decode cL_notice 15 = .ok (.astore_n 3, 1) := by decide +kernel
theorem dL_notice_16 : decode cL_notice 16 = .ok (.iconst 2, 1) := by decide +kernel
theorem dL_notice_17 : decode cL_notice 17 = .ok (.ireturn, 1) := by decide +kernel
theorem dL_notice_18 : decode cL_notice 18 = .ok (.iconst 0, 1) := by decide +kernel
theorem dL_notice_19 : decode cL_notice 19 = .ok (.ireturn, 1) := by decide +kernel
theorem dL_object_0 : decode cL_object 0 = .ok (.aload_n 2, 1) := by decide +kernel
theorem dL_object_1 : decode cL_object 1 = .ok (.iconst 0, 1) := by decide +kernel
theorem dL_object_2 : decode cL_object 2 = .ok (.aload_n 0, 1) := by decide +kernel
theorem dL_object_3 : decode cL_object 3 = .ok (.iload_n 1, 1) := by decide +kernel
theorem dL_object_4 : decode cL_object 4 = .ok (.invokevirtual 56, 3) := by decide +kernel
theorem dL_object_7 : decode cL_object 7 = .ok (.i2l, 1) := by decide +kernel
theorem dL_object_8 : decode cL_object 8 = .ok (.lastore, 1) := by decide +kernel
theorem dL_object_9 : decode cL_object 9 = .ok (.goto 9, 3) := by decide +kernel
theorem dL_object_12 : decode cL_object 12 = .ok (.astore_n 3, 1) := by decide +kernel
theorem dL_object_13 : decode cL_object 13 = .ok (.iconst 1, 1) := by decide +kernel
theorem dL_object_14 : decode cL_object 14 = .ok (.ireturn, 1) := by decide +kernel
theorem dL_object_15 : decode cL_object 15 = .ok (.astore_n 3, 1) := by decide +kernel
theorem dL_object_16 : decode cL_object 16 = .ok (.iconst 2, 1) := by decide +kernel
theorem dL_object_17 : decode cL_object 17 = .ok (.ireturn, 1) := by decide +kernel
theorem dL_object_18 : decode cL_object 18 = .ok (.iconst 0, 1) := by decide +kernel
theorem dL_object_19 : decode cL_object 19 = .ok (.ireturn, 1) := by decide +kernel
theorem dL_hear_0 : decode cL_hear 0 = .ok (.aload_n 3, 1) := by decide +kernel
theorem dL_hear_1 : decode cL_hear 1 = .ok (.iconst 0, 1) := by decide +kernel
theorem dL_hear_2 : decode cL_hear 2 = .ok (.aload_n 0, 1) := by decide +kernel
theorem dL_hear_3 : decode cL_hear 3 = .ok (.iload_n 1, 1) := by decide +kernel
theorem dL_hear_4 : decode cL_hear 4 = .ok (.iload_n 2, 1) := by decide +kernel
theorem dL_hear_5 : decode cL_hear 5 = .ok (.invokevirtual 59, 3) := by decide +kernel
theorem dL_hear_8 : decode cL_hear 8 = .ok (.i2l, 1) := by decide +kernel
theorem dL_hear_9 : decode cL_hear 9 = .ok (.lastore, 1) := by decide +kernel
theorem dL_hear_10 : decode cL_hear 10 = .ok (.goto 11, 3) := by decide +kernel
theorem dL_hear_13 : decode cL_hear 13 = .ok (.astore 4, 2) := by decide +kernel
theorem dL_hear_15 : decode cL_hear 15 = .ok (.iconst 1, 1) := by decide +kernel
theorem dL_hear_16 : decode cL_hear 16 = .ok (.ireturn, 1) := by decide +kernel
theorem dL_hear_17 : decode cL_hear 17 = .ok (.astore 4, 2) := by decide +kernel
theorem dL_hear_19 : decode cL_hear 19 = .ok (.iconst 2, 1) := by decide +kernel
theorem dL_hear_20 : decode cL_hear 20 = .ok (.ireturn, 1) := by decide +kernel
theorem dL_hear_21 : decode cL_hear 21 = .ok (.iconst 0, 1) := by decide +kernel
theorem dL_hear_22 : decode cL_hear 22 = .ok (.ireturn, 1) := by decide +kernel
theorem dL_confirm_0 : decode cL_confirm 0 = .ok (.aload_n 2, 1) := by decide +kernel
theorem dL_confirm_1 : decode cL_confirm 1 = .ok (.iconst 0, 1) := by decide +kernel
theorem dL_confirm_2 : decode cL_confirm 2 = .ok (.aload_n 0, 1) := by decide +kernel
theorem dL_confirm_3 : decode cL_confirm 3 = .ok (.iload_n 1, 1) := by decide +kernel
theorem dL_confirm_4 : decode cL_confirm 4 = .ok (.invokevirtual 63, 3) := by decide +kernel
theorem dL_confirm_7 : decode cL_confirm 7 = .ok (.i2l, 1) := by decide +kernel
theorem dL_confirm_8 : decode cL_confirm 8 = .ok (.lastore, 1) := by decide +kernel
theorem dL_confirm_9 : decode cL_confirm 9 = .ok (.goto 9, 3) := by decide +kernel
theorem dL_confirm_12 : decode cL_confirm 12 = .ok (.astore_n 3, 1) := by decide +kernel
theorem dL_confirm_13 : decode cL_confirm 13 = .ok (.iconst 1, 1) := by decide +kernel
theorem dL_confirm_14 : decode cL_confirm 14 = .ok (.ireturn, 1) := by decide +kernel
theorem dL_confirm_15 : decode cL_confirm 15 = .ok (.astore_n 3, 1) := by decide +kernel
theorem dL_confirm_16 : decode cL_confirm 16 = .ok (.iconst 2, 1) := by decide +kernel
theorem dL_confirm_17 : decode cL_confirm 17 = .ok (.ireturn, 1) := by decide +kernel
theorem dL_confirm_18 : decode cL_confirm 18 = .ok (.iconst 0, 1) := by decide +kernel
theorem dL_confirm_19 : decode cL_confirm 19 = .ok (.ireturn, 1) := by decide +kernel
theorem dL_whoStops_0 : decode cL_whoStops 0 = .ok (.aload_n 2, 1) := by decide +kernel
theorem dL_whoStops_1 : decode cL_whoStops 1 = .ok (.iconst 0, 1) := by decide +kernel
theorem dL_whoStops_2 : decode cL_whoStops 2 = .ok (.aload_n 0, 1) := by decide +kernel
theorem dL_whoStops_3 : decode cL_whoStops 3 = .ok (.iload_n 1, 1) := by decide +kernel
theorem dL_whoStops_4 : decode cL_whoStops 4 = .ok (.invokevirtual 66, 3) := by decide +kernel
theorem dL_whoStops_7 : decode cL_whoStops 7 = .ok (.i2l, 1) := by decide +kernel
theorem dL_whoStops_8 : decode cL_whoStops 8 = .ok (.lastore, 1) := by decide +kernel
theorem dL_whoStops_9 : decode cL_whoStops 9 = .ok (.goto 6, 3) := by decide +kernel
theorem dL_whoStops_12 : decode cL_whoStops 12 = .ok (.astore_n 3, 1) := by decide +kernel
theorem dL_whoStops_13 : decode cL_whoStops 13 = .ok (.iconst 1, 1) := by decide +kernel
theorem dL_whoStops_14 : decode cL_whoStops 14 = .ok (.ireturn, 1) := by decide +kernel
theorem dL_whoStops_15 : decode cL_whoStops 15 = .ok (.iconst 0, 1) := by decide +kernel
theorem dL_whoStops_16 : decode cL_whoStops 16 = .ok (.ireturn, 1) := by decide +kernel
theorem dL_drop_0 : decode cL_drop 0 = .ok (.aload_n 2, 1) := by decide +kernel
theorem dL_drop_1 : decode cL_drop 1 = .ok (.iconst 0, 1) := by decide +kernel
theorem dL_drop_2 : decode cL_drop 2 = .ok (.aload_n 0, 1) := by decide +kernel
theorem dL_drop_3 : decode cL_drop 3 = .ok (.iload_n 1, 1) := by decide +kernel
theorem dL_drop_4 : decode cL_drop 4 = .ok (.invokevirtual 69, 3) := by decide +kernel
theorem dL_drop_7 : decode cL_drop 7 = .ok (.i2l, 1) := by decide +kernel
theorem dL_drop_8 : decode cL_drop 8 = .ok (.lastore, 1) := by decide +kernel
theorem dL_drop_9 : decode cL_drop 9 = .ok (.goto 9, 3) := by decide +kernel
theorem dL_drop_12 : decode cL_drop 12 = .ok (.astore_n 3, 1) := by decide +kernel
theorem dL_drop_13 : decode cL_drop 13 = .ok (.iconst 1, 1) := by decide +kernel
theorem dL_drop_14 : decode cL_drop 14 = .ok (.ireturn, 1) := by decide +kernel
theorem dL_drop_15 : decode cL_drop 15 = .ok (.astore_n 3, 1) := by decide +kernel
theorem dL_drop_16 : decode cL_drop 16 = .ok (.iconst 2, 1) := by decide +kernel
theorem dL_drop_17 : decode cL_drop 17 = .ok (.ireturn, 1) := by decide +kernel
theorem dL_drop_18 : decode cL_drop 18 = .ok (.iconst 0, 1) := by decide +kernel
theorem dL_drop_19 : decode cL_drop 19 = .ok (.ireturn, 1) := by decide +kernel
theorem dL_schemeOf_0 : decode cL_schemeOf 0 = .ok (.aload_n 3, 1) := by decide +kernel
theorem dL_schemeOf_1 : decode cL_schemeOf 1 = .ok (.iconst 0, 1) := by decide +kernel
theorem dL_schemeOf_2 : decode cL_schemeOf 2 = .ok (.aload_n 0, 1) := by decide +kernel
theorem dL_schemeOf_3 : decode cL_schemeOf 3 = .ok (.iload_n 1, 1) := by decide +kernel
theorem dL_schemeOf_4 : decode cL_schemeOf 4 = .ok (.iload_n 2, 1) := by decide +kernel
theorem dL_schemeOf_5 : decode cL_schemeOf 5 = .ok (.invokevirtual 72, 3) := by decide +kernel
theorem dL_schemeOf_8 : decode cL_schemeOf 8 = .ok (.i2l, 1) := by decide +kernel
theorem dL_schemeOf_9 : decode cL_schemeOf 9 = .ok (.lastore, 1) := by decide +kernel
theorem dL_schemeOf_10 : decode cL_schemeOf 10 = .ok (.goto 11, 3) := by decide +kernel
theorem dL_schemeOf_13 : decode cL_schemeOf 13 = .ok (.astore 4, 2) := by decide +kernel
theorem dL_schemeOf_15 : decode cL_schemeOf 15 = .ok (.iconst 1, 1) := by decide +kernel
theorem dL_schemeOf_16 : decode cL_schemeOf 16 = .ok (.ireturn, 1) := by decide +kernel
theorem dL_schemeOf_17 : decode cL_schemeOf 17 = .ok (.astore 4, 2) := by decide +kernel
theorem dL_schemeOf_19 : decode cL_schemeOf 19 = .ok (.iconst 2, 1) := by decide +kernel
theorem dL_schemeOf_20 : decode cL_schemeOf 20 = .ok (.ireturn, 1) := by decide +kernel
theorem dL_schemeOf_21 : decode cL_schemeOf 21 = .ok (.iconst 0, 1) := by decide +kernel
theorem dL_schemeOf_22 : decode cL_schemeOf 22 = .ok (.ireturn, 1) := by decide +kernel
theorem dL_enter_0 : decode cL_enter 0 = .ok (.aload_n 2, 1) := by decide +kernel
theorem dL_enter_1 : decode cL_enter 1 = .ok (.iconst 0, 1) := by decide +kernel
theorem dL_enter_2 : decode cL_enter 2 = .ok (.aload_n 0, 1) := by decide +kernel
theorem dL_enter_3 : decode cL_enter 3 = .ok (.iload_n 1, 1) := by decide +kernel
theorem dL_enter_4 : decode cL_enter 4 = .ok (.invokevirtual 75, 3) := by decide +kernel
theorem dL_enter_7 : decode cL_enter 7 = .ok (.i2l, 1) := by decide +kernel
theorem dL_enter_8 : decode cL_enter 8 = .ok (.lastore, 1) := by decide +kernel
theorem dL_enter_9 : decode cL_enter 9 = .ok (.goto 9, 3) := by decide +kernel
theorem dL_enter_12 : decode cL_enter 12 = .ok (.astore_n 3, 1) := by decide +kernel
theorem dL_enter_13 : decode cL_enter 13 = .ok (.iconst 1, 1) := by decide +kernel
theorem dL_enter_14 : decode cL_enter 14 = .ok (.ireturn, 1) := by decide +kernel
theorem dL_enter_15 : decode cL_enter 15 = .ok (.astore_n 3, 1) := by decide +kernel
theorem dL_enter_16 : decode cL_enter 16 = .ok (.iconst 2, 1) := by decide +kernel
theorem dL_enter_17 : decode cL_enter 17 = .ok (.ireturn, 1) := by decide +kernel
theorem dL_enter_18 : decode cL_enter 18 = .ok (.iconst 0, 1) := by decide +kernel
theorem dL_enter_19 : decode cL_enter 19 = .ok (.ireturn, 1) := by decide +kernel
theorem dL_blight_0 : decode cL_blight 0 = .ok (.aload_n 2, 1) := by decide +kernel
theorem dL_blight_1 : decode cL_blight 1 = .ok (.iconst 0, 1) := by decide +kernel
theorem dL_blight_2 : decode cL_blight 2 = .ok (.aload_n 0, 1) := by decide +kernel
theorem dL_blight_3 : decode cL_blight 3 = .ok (.iload_n 1, 1) := by decide +kernel
theorem dL_blight_4 : decode cL_blight 4 = .ok (.invokevirtual 78, 3) := by decide +kernel
theorem dL_blight_7 : decode cL_blight 7 = .ok (.i2l, 1) := by decide +kernel
theorem dL_blight_8 : decode cL_blight 8 = .ok (.lastore, 1) := by decide +kernel
theorem dL_blight_9 : decode cL_blight 9 = .ok (.goto 12, 3) := by decide +kernel
theorem dL_blight_12 : decode cL_blight 12 = .ok (.astore_n 3, 1) := by decide +kernel
theorem dL_blight_13 : decode cL_blight 13 = .ok (.iconst 1, 1) := by decide +kernel
theorem dL_blight_14 : decode cL_blight 14 = .ok (.ireturn, 1) := by decide +kernel
theorem dL_blight_15 : decode cL_blight 15 = .ok (.astore_n 3, 1) := by decide +kernel
theorem dL_blight_16 : decode cL_blight 16 = .ok (.iconst 2, 1) := by decide +kernel
theorem dL_blight_17 : decode cL_blight 17 = .ok (.ireturn, 1) := by decide +kernel
theorem dL_blight_18 : decode cL_blight 18 = .ok (.astore_n 3, 1) := by decide +kernel
theorem dL_blight_19 : decode cL_blight 19 = .ok (.iconst 3, 1) := by decide +kernel
theorem dL_blight_20 : decode cL_blight 20 = .ok (.ireturn, 1) := by decide +kernel
theorem dL_blight_21 : decode cL_blight 21 = .ok (.iconst 0, 1) := by decide +kernel
theorem dL_blight_22 : decode cL_blight 22 = .ok (.ireturn, 1) := by decide +kernel
theorem dL_works_0 : decode cL_works 0 = .ok (.aload_n 2, 1) := by decide +kernel
theorem dL_works_1 : decode cL_works 1 = .ok (.iconst 0, 1) := by decide +kernel
theorem dL_works_2 : decode cL_works 2 = .ok (.aload_n 0, 1) := by decide +kernel
theorem dL_works_3 : decode cL_works 3 = .ok (.iload_n 1, 1) := by decide +kernel
theorem dL_works_4 : decode cL_works 4 = .ok (.invokevirtual 81, 3) := by decide +kernel
theorem dL_works_7 : decode cL_works 7 = .ok (.i2l, 1) := by decide +kernel
theorem dL_works_8 : decode cL_works 8 = .ok (.lastore, 1) := by decide +kernel
theorem dL_works_9 : decode cL_works 9 = .ok (.goto 9, 3) := by decide +kernel
theorem dL_works_12 : decode cL_works 12 = .ok (.astore_n 3, 1) := by decide +kernel
theorem dL_works_13 : decode cL_works 13 = .ok (.iconst 1, 1) := by decide +kernel
theorem dL_works_14 : decode cL_works 14 = .ok (.ireturn, 1) := by decide +kernel
theorem dL_works_15 : decode cL_works 15 = .ok (.astore_n 3, 1) := by decide +kernel
theorem dL_works_16 : decode cL_works 16 = .ok (.iconst 2, 1) := by decide +kernel
theorem dL_works_17 : decode cL_works 17 = .ok (.ireturn, 1) := by decide +kernel
theorem dL_works_18 : decode cL_works 18 = .ok (.iconst 0, 1) := by decide +kernel
theorem dL_works_19 : decode cL_works 19 = .ok (.ireturn, 1) := by decide +kernel
theorem dL_sumAnew_0 : decode cL_sumAnew 0 = .ok (.aload_n 2, 1) := by decide +kernel
theorem dL_sumAnew_1 : decode cL_sumAnew 1 = .ok (.iconst 0, 1) := by decide +kernel
theorem dL_sumAnew_2 : decode cL_sumAnew 2 = .ok (.aload_n 0, 1) := by decide +kernel
theorem dL_sumAnew_3 : decode cL_sumAnew 3 = .ok (.iload_n 1, 1) := by decide +kernel
theorem dL_sumAnew_4 : decode cL_sumAnew 4 = .ok (.invokevirtual 84, 3) := by decide +kernel
theorem dL_sumAnew_7 : decode cL_sumAnew 7 = .ok (.lastore, 1) := by decide +kernel
theorem dL_sumAnew_8 : decode cL_sumAnew 8 = .ok (.goto 6, 3) := by decide +kernel
theorem dL_sumAnew_11 : decode cL_sumAnew 11 = .ok (.astore_n 3, 1) := by decide +kernel
theorem dL_sumAnew_12 : decode cL_sumAnew 12 = .ok (.iconst 1, 1) := by decide +kernel
theorem dL_sumAnew_13 : decode cL_sumAnew 13 = .ok (.ireturn, 1) := by decide +kernel
theorem dL_sumAnew_14 : decode cL_sumAnew 14 = .ok (.iconst 0, 1) := by decide +kernel
theorem dL_sumAnew_15 : decode cL_sumAnew 15 = .ok (.ireturn, 1) := by decide +kernel
theorem dL_owed_0 : decode cL_owed 0 = .ok (.aload_n 2, 1) := by decide +kernel
theorem dL_owed_1 : decode cL_owed 1 = .ok (.iconst 0, 1) := by decide +kernel
theorem dL_owed_2 : decode cL_owed 2 = .ok (.aload_n 0, 1) := by decide +kernel
theorem dL_owed_3 : decode cL_owed 3 = .ok (.iload_n 1, 1) := by decide +kernel
theorem dL_owed_4 : decode cL_owed 4 = .ok (.invokevirtual 88, 3) := by decide +kernel
theorem dL_owed_7 : decode cL_owed 7 = .ok (.lastore, 1) := by decide +kernel
theorem dL_owed_8 : decode cL_owed 8 = .ok (.goto 6, 3) := by decide +kernel
theorem dL_owed_11 : decode cL_owed 11 = .ok (.astore_n 3, 1) := by decide +kernel
theorem dL_owed_12 : decode cL_owed 12 = .ok (.iconst 1, 1) := by decide +kernel
theorem dL_owed_13 : decode cL_owed 13 = .ok (.ireturn, 1) := by decide +kernel
theorem dL_owed_14 : decode cL_owed 14 = .ok (.iconst 0, 1) := by decide +kernel
theorem dL_owed_15 : decode cL_owed 15 = .ok (.ireturn, 1) := by decide +kernel
theorem dL_advance_0 : decode cL_advance 0 = .ok (.aload_n 2, 1) := by decide +kernel
theorem dL_advance_1 : decode cL_advance 1 = .ok (.iconst 0, 1) := by decide +kernel
theorem dL_advance_2 : decode cL_advance 2 = .ok (.aload_n 0, 1) := by decide +kernel
theorem dL_advance_3 : decode cL_advance 3 = .ok (.iload_n 1, 1) := by decide +kernel
theorem dL_advance_4 : decode cL_advance 4 = .ok (.invokevirtual 91, 3) := by decide +kernel
theorem dL_advance_7 : decode cL_advance 7 = .ok (.lastore, 1) := by decide +kernel
theorem dL_advance_8 : decode cL_advance 8 = .ok (.goto 9, 3) := by decide +kernel
theorem dL_advance_11 : decode cL_advance 11 = .ok (.astore_n 3, 1) := by decide +kernel
theorem dL_advance_12 : decode cL_advance 12 = .ok (.iconst 1, 1) := by decide +kernel
theorem dL_advance_13 : decode cL_advance 13 = .ok (.ireturn, 1) := by decide +kernel
theorem dL_advance_14 : decode cL_advance 14 = .ok (.astore_n 3, 1) := by decide +kernel
theorem dL_advance_15 : decode cL_advance 15 = .ok (.iconst 2, 1) := by decide +kernel
theorem dL_advance_16 : decode cL_advance 16 = .ok (.ireturn, 1) := by decide +kernel
theorem dL_advance_17 : decode cL_advance 17 = .ok (.iconst 0, 1) := by decide +kernel
theorem dL_advance_18 : decode cL_advance 18 = .ok (.ireturn, 1) := by decide +kernel
theorem dL_settle_0 : decode cL_settle 0 = .ok (.aload_n 2, 1) := by decide +kernel
theorem dL_settle_1 : decode cL_settle 1 = .ok (.iconst 0, 1) := by decide +kernel
theorem dL_settle_2 : decode cL_settle 2 = .ok (.aload_n 0, 1) := by decide +kernel
theorem dL_settle_3 : decode cL_settle 3 = .ok (.iload_n 1, 1) := by decide +kernel
theorem dL_settle_4 : decode cL_settle 4 = .ok (.invokevirtual 94, 3) := by decide +kernel
theorem dL_settle_7 : decode cL_settle 7 = .ok (.lastore, 1) := by decide +kernel
theorem dL_settle_8 : decode cL_settle 8 = .ok (.goto 9, 3) := by decide +kernel
theorem dL_settle_11 : decode cL_settle 11 = .ok (.astore_n 3, 1) := by decide +kernel
theorem dL_settle_12 : decode cL_settle 12 = .ok (.iconst 1, 1) := by decide +kernel
theorem dL_settle_13 : decode cL_settle 13 = .ok (.ireturn, 1) := by decide +kernel
theorem dL_settle_14 : decode cL_settle 14 = .ok (.astore_n 3, 1) := by decide +kernel
theorem dL_settle_15 : decode cL_settle 15 = .ok (.iconst 2, 1) := by decide +kernel
theorem dL_settle_16 : decode cL_settle 16 = .ok (.ireturn, 1) := by decide +kernel
theorem dL_settle_17 : decode cL_settle 17 = .ok (.iconst 0, 1) := by decide +kernel
theorem dL_settle_18 : decode cL_settle 18 = .ok (.ireturn, 1) := by decide +kernel
theorem dL_refuse_0 : decode cL_refuse 0 = .ok (.aload_n 2, 1) := by decide +kernel
theorem dL_refuse_1 : decode cL_refuse 1 = .ok (.iconst 0, 1) := by decide +kernel
theorem dL_refuse_2 : decode cL_refuse 2 = .ok (.aload_n 0, 1) := by decide +kernel
theorem dL_refuse_3 : decode cL_refuse 3 = .ok (.iload_n 1, 1) := by decide +kernel
theorem dL_refuse_4 : decode cL_refuse 4 = .ok (.invokevirtual 97, 3) := by decide +kernel
theorem dL_refuse_7 : decode cL_refuse 7 = .ok (.i2l, 1) := by decide +kernel
theorem dL_refuse_8 : decode cL_refuse 8 = .ok (.lastore, 1) := by decide +kernel
theorem dL_refuse_9 : decode cL_refuse 9 = .ok (.goto 9, 3) := by decide +kernel
theorem dL_refuse_12 : decode cL_refuse 12 = .ok (.astore_n 3, 1) := by decide +kernel
theorem dL_refuse_13 : decode cL_refuse 13 = .ok (.iconst 1, 1) := by decide +kernel
theorem dL_refuse_14 : decode cL_refuse 14 = .ok (.ireturn, 1) := by decide +kernel
theorem dL_refuse_15 : decode cL_refuse 15 = .ok (.astore_n 3, 1) := by decide +kernel
theorem dL_refuse_16 : decode cL_refuse 16 = .ok (.iconst 2, 1) := by decide +kernel
theorem dL_refuse_17 : decode cL_refuse 17 = .ok (.ireturn, 1) := by decide +kernel
theorem dL_refuse_18 : decode cL_refuse 18 = .ok (.iconst 0, 1) := by decide +kernel
theorem dL_refuse_19 : decode cL_refuse 19 = .ok (.ireturn, 1) := by decide +kernel
theorem dL_accept_0 : decode cL_accept 0 = .ok (.aload_n 2, 1) := by decide +kernel
theorem dL_accept_1 : decode cL_accept 1 = .ok (.iconst 0, 1) := by decide +kernel
theorem dL_accept_2 : decode cL_accept 2 = .ok (.aload_n 0, 1) := by decide +kernel
theorem dL_accept_3 : decode cL_accept 3 = .ok (.iload_n 1, 1) := by decide +kernel
theorem dL_accept_4 : decode cL_accept 4 = .ok (.invokevirtual 100, 3) := by decide +kernel
theorem dL_accept_7 : decode cL_accept 7 = .ok (.i2l, 1) := by decide +kernel
theorem dL_accept_8 : decode cL_accept 8 = .ok (.lastore, 1) := by decide +kernel
theorem dL_accept_9 : decode cL_accept 9 = .ok (.goto 9, 3) := by decide +kernel
theorem dL_accept_12 : decode cL_accept 12 = .ok (.astore_n 3, 1) := by decide +kernel
theorem dL_accept_13 : decode cL_accept 13 = .ok (.iconst 1, 1) := by decide +kernel
theorem dL_accept_14 : decode cL_accept 14 = .ok (.ireturn, 1) := by decide +kernel
theorem dL_accept_15 : decode cL_accept 15 = .ok (.astore_n 3, 1) := by decide +kernel
theorem dL_accept_16 : decode cL_accept 16 = .ok (.iconst 2, 1) := by decide +kernel
theorem dL_accept_17 : decode cL_accept 17 = .ok (.ireturn, 1) := by decide +kernel
theorem dL_accept_18 : decode cL_accept 18 = .ok (.iconst 0, 1) := by decide +kernel
theorem dL_accept_19 : decode cL_accept 19 = .ok (.ireturn, 1) := by decide +kernel
theorem dL_pass_0 : decode cL_pass 0 = .ok (.aload_n 2, 1) := by decide +kernel
theorem dL_pass_1 : decode cL_pass 1 = .ok (.iconst 0, 1) := by decide +kernel
theorem dL_pass_2 : decode cL_pass 2 = .ok (.aload_n 0, 1) := by decide +kernel
theorem dL_pass_3 : decode cL_pass 3 = .ok (.iload_n 1, 1) := by decide +kernel
theorem dL_pass_4 : decode cL_pass 4 = .ok (.invokevirtual 103, 3) := by decide +kernel
theorem dL_pass_7 : decode cL_pass 7 = .ok (.i2l, 1) := by decide +kernel
theorem dL_pass_8 : decode cL_pass 8 = .ok (.lastore, 1) := by decide +kernel
theorem dL_pass_9 : decode cL_pass 9 = .ok (.goto 9, 3) := by decide +kernel
theorem dL_pass_12 : decode cL_pass 12 = .ok (.astore_n 3, 1) := by decide +kernel
theorem dL_pass_13 : decode cL_pass 13 = .ok (.iconst 1, 1) := by decide +kernel
theorem dL_pass_14 : decode cL_pass 14 = .ok (.ireturn, 1) := by decide +kernel
theorem dL_pass_15 : decode cL_pass 15 = .ok (.astore_n 3, 1) := by decide +kernel
theorem dL_pass_16 : decode cL_pass 16 = .ok (.iconst 2, 1) := by decide +kernel
theorem dL_pass_17 : decode cL_pass 17 = .ok (.ireturn, 1) := by decide +kernel
theorem dL_pass_18 : decode cL_pass 18 = .ok (.iconst 0, 1) := by decide +kernel
theorem dL_pass_19 : decode cL_pass 19 = .ok (.ireturn, 1) := by decide +kernel
theorem dL_total_0 : decode cL_total 0 = .ok (.aload_n 2, 1) := by decide +kernel
theorem dL_total_1 : decode cL_total 1 = .ok (.iconst 0, 1) := by decide +kernel
theorem dL_total_2 : decode cL_total 2 = .ok (.aload_n 0, 1) := by decide +kernel
theorem dL_total_3 : decode cL_total 3 = .ok (.iload_n 1, 1) := by decide +kernel
theorem dL_total_4 : decode cL_total 4 = .ok (.invokevirtual 106, 3) := by decide +kernel
theorem dL_total_7 : decode cL_total 7 = .ok (.lastore, 1) := by decide +kernel
theorem dL_total_8 : decode cL_total 8 = .ok (.goto 6, 3) := by decide +kernel
theorem dL_total_11 : decode cL_total 11 = .ok (.astore_n 3, 1) := by decide +kernel
theorem dL_total_12 : decode cL_total 12 = .ok (.iconst 1, 1) := by decide +kernel
theorem dL_total_13 : decode cL_total 13 = .ok (.ireturn, 1) := by decide +kernel
theorem dL_total_14 : decode cL_total 14 = .ok (.iconst 0, 1) := by decide +kernel
theorem dL_total_15 : decode cL_total 15 = .ok (.ireturn, 1) := by decide +kernel
theorem dL_creditors_0 : decode cL_creditors 0 = .ok (.aload_n 2, 1) := by decide +kernel
theorem dL_creditors_1 : decode cL_creditors 1 = .ok (.iconst 0, 1) := by decide +kernel
theorem dL_creditors_2 : decode cL_creditors 2 = .ok (.aload_n 0, 1) := by decide +kernel
theorem dL_creditors_3 : decode cL_creditors 3 = .ok (.iload_n 1, 1) := by decide +kernel
theorem dL_creditors_4 : decode cL_creditors 4 = .ok (.invokevirtual 109, 3) := by decide +kernel
theorem dL_creditors_7 : decode cL_creditors 7 = .ok (.i2l, 1) := by decide +kernel
theorem dL_creditors_8 : decode cL_creditors 8 = .ok (.lastore, 1) := by decide +kernel
theorem dL_creditors_9 : decode cL_creditors 9 = .ok (.goto 6, 3) := by decide +kernel
theorem dL_creditors_12 : decode cL_creditors 12 = .ok (.astore_n 3, 1) := by decide +kernel
theorem dL_creditors_13 : decode cL_creditors 13 = .ok (.iconst 1, 1) := by decide +kernel
theorem dL_creditors_14 : decode cL_creditors 14 = .ok (.ireturn, 1) := by decide +kernel
theorem dL_creditors_15 : decode cL_creditors 15 = .ok (.iconst 0, 1) := by decide +kernel
theorem dL_creditors_16 : decode cL_creditors 16 = .ok (.ireturn, 1) := by decide +kernel
theorem dL_law_0 : decode cL_law 0 = .ok (.new 8, 3) := by decide +kernel
theorem dL_law_3 : decode cL_law 3 = .ok (.dup, 1) := by decide +kernel
theorem dL_law_4 : decode cL_law 4 = .ok (.invokespecial 112, 3) := by decide +kernel
theorem dL_law_7 : decode cL_law 7 = .ok (.astore_n 1, 1) := by decide +kernel
theorem dL_law_8 : decode cL_law 8 = .ok (.new 113, 3) := by decide +kernel
theorem dL_law_11 : decode cL_law 11 = .ok (.dup, 1) := by decide +kernel
theorem dL_law_12 : decode cL_law 12 = .ok (.invokespecial 115, 3) := by decide +kernel
theorem dL_law_15 : decode cL_law 15 = .ok (.astore_n 2, 1) := by decide +kernel
theorem dL_law_16 : decode cL_law 16 = .ok (.iconst 1, 1) := by decide +kernel
theorem dL_law_17 : decode cL_law 17 = .ok (.newarray .long, 2) := by decide +kernel
theorem dL_law_19 : decode cL_law 19 = .ok (.astore_n 3, 1) := by decide +kernel
theorem dL_law_20 : decode cL_law 20 = .ok (.iconst 0, 1) := by decide +kernel
theorem dL_law_21 : decode cL_law 21 = .ok (.istore 4, 2) := by decide +kernel
theorem dL_law_23 : decode cL_law 23 = .ok (.iload 4, 2) := by decide +kernel
theorem dL_law_25 : decode cL_law 25 = .ok (.aload_n 0, 1) := by decide +kernel
theorem dL_law_26 : decode cL_law 26 = .ok (.arraylength, 1) := by decide +kernel
theorem dL_law_27 : decode cL_law 27 = .ok (.iconst 5, 1) := by decide +kernel
theorem dL_law_28 : decode cL_law 28 = .ok (.isub, 1) := by decide +kernel
theorem dL_law_29 : decode cL_law 29 = .ok (.if_icmp .gt 2072, 3) := by decide +kernel
theorem dL_law_32 : decode cL_law 32 = .ok (.aload_n 0, 1) := by decide +kernel
theorem dL_law_33 : decode cL_law 33 = .ok (.iload 4, 2) := by decide +kernel
theorem dL_law_35 : decode cL_law 35 = .ok (.iaload, 1) := by decide +kernel
theorem dL_law_36 : decode cL_law 36 = .ok (.bipush 31, 2) := by decide +kernel
theorem dL_law_38 : decode cL_law 38 = .ok (.iand, 1) := by decide +kernel
theorem dL_law_39 : decode cL_law 39 = .ok (.tableswitch 2056 0 30 #[137, 217, 285, 353, 409, 477, 557, 649, 729, 796, 864, 944, 1000, 1056, 1140, 1196, 1252, 1308, 1376, 1432, 1488, 1544, 1599, 1654, 1709, 1764, 1820, 1876, 1932, 1945, 2000], 137) := by decide +kernel
theorem dL_law_176 : decode cL_law 176 = .ok (.aload_n 1, 1) := by decide +kernel
theorem dL_law_177 : decode cL_law 177 = .ok (.aload_n 0, 1) := by decide +kernel
theorem dL_law_178 : decode cL_law 178 = .ok (.iload 4, 2) := by decide +kernel
theorem dL_law_180 : decode cL_law 180 = .ok (.iconst 1, 1) := by decide +kernel
theorem dL_law_181 : decode cL_law 181 = .ok (.iadd, 1) := by decide +kernel
theorem dL_law_182 : decode cL_law 182 = .ok (.iaload, 1) := by decide +kernel
theorem dL_law_183 : decode cL_law 183 = .ok (.aload_n 0, 1) := by decide +kernel
theorem dL_law_184 : decode cL_law 184 = .ok (.iload 4, 2) := by decide +kernel
theorem dL_law_186 : decode cL_law 186 = .ok (.iconst 2, 1) := by decide +kernel
theorem dL_law_187 : decode cL_law 187 = .ok (.iadd, 1) := by decide +kernel
theorem dL_law_188 : decode cL_law 188 = .ok (.iaload, 1) := by decide +kernel
theorem dL_law_189 : decode cL_law 189 = .ok (.aload_n 0, 1) := by decide +kernel
theorem dL_law_190 : decode cL_law 190 = .ok (.iload 4, 2) := by decide +kernel
theorem dL_law_192 : decode cL_law 192 = .ok (.iconst 3, 1) := by decide +kernel
theorem dL_law_193 : decode cL_law 193 = .ok (.iadd, 1) := by decide +kernel
theorem dL_law_194 : decode cL_law 194 = .ok (.iaload, 1) := by decide +kernel
theorem dL_law_195 : decode cL_law 195 = .ok (.aload_n 3, 1) := by decide +kernel
theorem dL_law_196 : decode cL_law 196 = .ok (.invokestatic 116, 3) := by decide +kernel
theorem dL_law_199 : decode cL_law 199 = .ok (.istore 5, 2) := by decide +kernel
theorem dL_law_201 : decode cL_law 201 = .ok (.aload_n 2, 1) := by decide +kernel
theorem dL_law_202 : decode cL_law 202 = .ok (.aload_n 0, 1) := by decide +kernel
theorem dL_law_203 : decode cL_law 203 = .ok (.iload 4, 2) := by decide +kernel
theorem dL_law_205 : decode cL_law 205 = .ok (.iconst 1, 1) := by decide +kernel
theorem dL_law_206 : decode cL_law 206 = .ok (.iadd, 1) := by decide +kernel
theorem dL_law_207 : decode cL_law 207 = .ok (.iaload, 1) := by decide +kernel
theorem dL_law_208 : decode cL_law 208 = .ok (.aload_n 0, 1) := by decide +kernel
theorem dL_law_209 : decode cL_law 209 = .ok (.iload 4, 2) := by decide +kernel
theorem dL_law_211 : decode cL_law 211 = .ok (.iconst 2, 1) := by decide +kernel
theorem dL_law_212 : decode cL_law 212 = .ok (.iadd, 1) := by decide +kernel
theorem dL_law_213 : decode cL_law 213 = .ok (.iaload, 1) := by decide +kernel
theorem dL_law_214 : decode cL_law 214 = .ok (.aload_n 0, 1) := by decide +kernel
theorem dL_law_215 : decode cL_law 215 = .ok (.iload 4, 2) := by decide +kernel
theorem dL_law_217 : decode cL_law 217 = .ok (.iconst 3, 1) := by decide +kernel
theorem dL_law_218 : decode cL_law 218 = .ok (.iadd, 1) := by decide +kernel
theorem dL_law_219 : decode cL_law 219 = .ok (.iaload, 1) := by decide +kernel
theorem dL_law_220 : decode cL_law 220 = .ok (.invokevirtual 121, 3) := by decide +kernel
theorem dL_law_223 : decode cL_law 223 = .ok (.istore 6, 2) := by decide +kernel
theorem dL_law_225 : decode cL_law 225 = .ok (.aload_n 2, 1) := by decide +kernel
theorem dL_law_226 : decode cL_law 226 = .ok (.invokevirtual 122, 3) := by decide +kernel
theorem dL_law_229 : decode cL_law 229 = .ok (.iload 5, 2) := by decide +kernel
theorem dL_law_231 : decode cL_law 231 = .ok (.if_icmp .eq 5, 3) := by decide +kernel
theorem dL_law_234 : decode cL_law 234 = .ok (.iconst 0, 1) := by decide +kernel
theorem dL_law_235 : decode cL_law 235 = .ok (.ireturn, 1) := by decide +kernel
theorem dL_law_236 : decode cL_law 236 = .ok (.iload 5, 2) := by decide +kernel
theorem dL_law_238 : decode cL_law 238 = .ok (.ifCond .ne 15, 3) := by decide +kernel
theorem dL_law_241 : decode cL_law 241 = .ok (.aload_n 3, 1) := by decide +kernel
theorem dL_law_242 : decode cL_law 242 = .ok (.iconst 0, 1) := by decide +kernel
theorem dL_law_243 : decode cL_law 243 = .ok (.laload, 1) := by decide +kernel
theorem dL_law_244 : decode cL_law 244 = .ok (.iload 6, 2) := by decide +kernel
theorem dL_law_246 : decode cL_law 246 = .ok (.i2l, 1) := by decide +kernel
theorem dL_law_247 : decode cL_law 247 = .ok (.lcmp, 1) := by decide +kernel
theorem dL_law_248 : decode cL_law 248 = .ok (.ifCond .eq 5, 3) := by decide +kernel
theorem dL_law_251 : decode cL_law 251 = .ok (.iconst 0, 1) := by decide +kernel
theorem dL_law_252 : decode cL_law 252 = .ok (.ireturn, 1) := by decide +kernel
theorem dL_law_253 : decode cL_law 253 = .ok (.goto 1842, 3) := by decide +kernel
theorem dL_law_256 : decode cL_law 256 = .ok (.aload_n 1, 1) := by decide +kernel
theorem dL_law_257 : decode cL_law 257 = .ok (.aload_n 0, 1) := by decide +kernel
theorem dL_law_258 : decode cL_law 258 = .ok (.iload 4, 2) := by decide +kernel
theorem dL_law_260 : decode cL_law 260 = .ok (.iconst 1, 1) := by decide +kernel
theorem dL_law_261 : decode cL_law 261 = .ok (.iadd, 1) := by decide +kernel
theorem dL_law_262 : decode cL_law 262 = .ok (.iaload, 1) := by decide +kernel
theorem dL_law_263 : decode cL_law 263 = .ok (.aload_n 0, 1) := by decide +kernel
theorem dL_law_264 : decode cL_law 264 = .ok (.iload 4, 2) := by decide +kernel
theorem dL_law_266 : decode cL_law 266 = .ok (.iconst 2, 1) := by decide +kernel
theorem dL_law_267 : decode cL_law 267 = .ok (.iadd, 1) := by decide +kernel
theorem dL_law_268 : decode cL_law 268 = .ok (.iaload, 1) := by decide +kernel
theorem dL_law_269 : decode cL_law 269 = .ok (.aload_n 3, 1) := by decide +kernel
theorem dL_law_270 : decode cL_law 270 = .ok (.invokestatic 126, 3) := by decide +kernel
theorem dL_law_273 : decode cL_law 273 = .ok (.istore 5, 2) := by decide +kernel
theorem dL_law_275 : decode cL_law 275 = .ok (.aload_n 2, 1) := by decide +kernel
theorem dL_law_276 : decode cL_law 276 = .ok (.aload_n 0, 1) := by decide +kernel
theorem dL_law_277 : decode cL_law 277 = .ok (.iload 4, 2) := by decide +kernel
theorem dL_law_279 : decode cL_law 279 = .ok (.iconst 1, 1) := by decide +kernel
theorem dL_law_280 : decode cL_law 280 = .ok (.iadd, 1) := by decide +kernel
theorem dL_law_281 : decode cL_law 281 = .ok (.iaload, 1) := by decide +kernel
theorem dL_law_282 : decode cL_law 282 = .ok (.aload_n 0, 1) := by decide +kernel
theorem dL_law_283 : decode cL_law 283 = .ok (.iload 4, 2) := by decide +kernel
theorem dL_law_285 : decode cL_law 285 = .ok (.iconst 2, 1) := by decide +kernel
theorem dL_law_286 : decode cL_law 286 = .ok (.iadd, 1) := by decide +kernel
theorem dL_law_287 : decode cL_law 287 = .ok (.iaload, 1) := by decide +kernel
theorem dL_law_288 : decode cL_law 288 = .ok (.invokevirtual 129, 3) := by decide +kernel
theorem dL_law_291 : decode cL_law 291 = .ok (.istore 6, 2) := by decide +kernel
theorem dL_law_293 : decode cL_law 293 = .ok (.aload_n 2, 1) := by decide +kernel
theorem dL_law_294 : decode cL_law 294 = .ok (.invokevirtual 122, 3) := by decide +kernel
theorem dL_law_297 : decode cL_law 297 = .ok (.iload 5, 2) := by decide +kernel
theorem dL_law_299 : decode cL_law 299 = .ok (.if_icmp .eq 5, 3) := by decide +kernel
theorem dL_law_302 : decode cL_law 302 = .ok (.iconst 0, 1) := by decide +kernel
theorem dL_law_303 : decode cL_law 303 = .ok (.ireturn, 1) := by decide +kernel
theorem dL_law_304 : decode cL_law 304 = .ok (.iload 5, 2) := by decide +kernel
theorem dL_law_306 : decode cL_law 306 = .ok (.ifCond .ne 15, 3) := by decide +kernel
theorem dL_law_309 : decode cL_law 309 = .ok (.aload_n 3, 1) := by decide +kernel
theorem dL_law_310 : decode cL_law 310 = .ok (.iconst 0, 1) := by decide +kernel
theorem dL_law_311 : decode cL_law 311 = .ok (.laload, 1) := by decide +kernel
theorem dL_law_312 : decode cL_law 312 = .ok (.iload 6, 2) := by decide +kernel
theorem dL_law_314 : decode cL_law 314 = .ok (.i2l, 1) := by decide +kernel
theorem dL_law_315 : decode cL_law 315 = .ok (.lcmp, 1) := by decide +kernel
theorem dL_law_316 : decode cL_law 316 = .ok (.ifCond .eq 5, 3) := by decide +kernel
theorem dL_law_319 : decode cL_law 319 = .ok (.iconst 0, 1) := by decide +kernel
theorem dL_law_320 : decode cL_law 320 = .ok (.ireturn, 1) := by decide +kernel
theorem dL_law_321 : decode cL_law 321 = .ok (.goto 1774, 3) := by decide +kernel
theorem dL_law_324 : decode cL_law 324 = .ok (.aload_n 1, 1) := by decide +kernel
theorem dL_law_325 : decode cL_law 325 = .ok (.aload_n 0, 1) := by decide +kernel
theorem dL_law_326 : decode cL_law 326 = .ok (.iload 4, 2) := by decide +kernel
theorem dL_law_328 : decode cL_law 328 = .ok (.iconst 1, 1) := by decide +kernel
theorem dL_law_329 : decode cL_law 329 = .ok (.iadd, 1) := by decide +kernel
theorem dL_law_330 : decode cL_law 330 = .ok (.iaload, 1) := by decide +kernel
theorem dL_law_331 : decode cL_law 331 = .ok (.aload_n 0, 1) := by decide +kernel
theorem dL_law_332 : decode cL_law 332 = .ok (.iload 4, 2) := by decide +kernel
theorem dL_law_334 : decode cL_law 334 = .ok (.iconst 2, 1) := by decide +kernel
theorem dL_law_335 : decode cL_law 335 = .ok (.iadd, 1) := by decide +kernel
theorem dL_law_336 : decode cL_law 336 = .ok (.iaload, 1) := by decide +kernel
theorem dL_law_337 : decode cL_law 337 = .ok (.aload_n 3, 1) := by decide +kernel
theorem dL_law_338 : decode cL_law 338 = .ok (.invokestatic 130, 3) := by decide +kernel
theorem dL_law_341 : decode cL_law 341 = .ok (.istore 5, 2) := by decide +kernel
theorem dL_law_343 : decode cL_law 343 = .ok (.aload_n 2, 1) := by decide +kernel
theorem dL_law_344 : decode cL_law 344 = .ok (.aload_n 0, 1) := by decide +kernel
theorem dL_law_345 : decode cL_law 345 = .ok (.iload 4, 2) := by decide +kernel
theorem dL_law_347 : decode cL_law 347 = .ok (.iconst 1, 1) := by decide +kernel
theorem dL_law_348 : decode cL_law 348 = .ok (.iadd, 1) := by decide +kernel
theorem dL_law_349 : decode cL_law 349 = .ok (.iaload, 1) := by decide +kernel
theorem dL_law_350 : decode cL_law 350 = .ok (.aload_n 0, 1) := by decide +kernel
theorem dL_law_351 : decode cL_law 351 = .ok (.iload 4, 2) := by decide +kernel
theorem dL_law_353 : decode cL_law 353 = .ok (.iconst 2, 1) := by decide +kernel
theorem dL_law_354 : decode cL_law 354 = .ok (.iadd, 1) := by decide +kernel
theorem dL_law_355 : decode cL_law 355 = .ok (.iaload, 1) := by decide +kernel
theorem dL_law_356 : decode cL_law 356 = .ok (.invokevirtual 132, 3) := by decide +kernel
theorem dL_law_359 : decode cL_law 359 = .ok (.istore 6, 2) := by decide +kernel
theorem dL_law_361 : decode cL_law 361 = .ok (.aload_n 2, 1) := by decide +kernel
theorem dL_law_362 : decode cL_law 362 = .ok (.invokevirtual 122, 3) := by decide +kernel
theorem dL_law_365 : decode cL_law 365 = .ok (.iload 5, 2) := by decide +kernel
theorem dL_law_367 : decode cL_law 367 = .ok (.if_icmp .eq 5, 3) := by decide +kernel
theorem dL_law_370 : decode cL_law 370 = .ok (.iconst 0, 1) := by decide +kernel
theorem dL_law_371 : decode cL_law 371 = .ok (.ireturn, 1) := by decide +kernel
theorem dL_law_372 : decode cL_law 372 = .ok (.iload 5, 2) := by decide +kernel
theorem dL_law_374 : decode cL_law 374 = .ok (.ifCond .ne 15, 3) := by decide +kernel
theorem dL_law_377 : decode cL_law 377 = .ok (.aload_n 3, 1) := by decide +kernel
theorem dL_law_378 : decode cL_law 378 = .ok (.iconst 0, 1) := by decide +kernel
theorem dL_law_379 : decode cL_law 379 = .ok (.laload, 1) := by decide +kernel
theorem dL_law_380 : decode cL_law 380 = .ok (.iload 6, 2) := by decide +kernel
theorem dL_law_382 : decode cL_law 382 = .ok (.i2l, 1) := by decide +kernel
theorem dL_law_383 : decode cL_law 383 = .ok (.lcmp, 1) := by decide +kernel
theorem dL_law_384 : decode cL_law 384 = .ok (.ifCond .eq 5, 3) := by decide +kernel
theorem dL_law_387 : decode cL_law 387 = .ok (.iconst 0, 1) := by decide +kernel
theorem dL_law_388 : decode cL_law 388 = .ok (.ireturn, 1) := by decide +kernel
theorem dL_law_389 : decode cL_law 389 = .ok (.goto 1706, 3) := by decide +kernel
theorem dL_law_392 : decode cL_law 392 = .ok (.aload_n 1, 1) := by decide +kernel
theorem dL_law_393 : decode cL_law 393 = .ok (.aload_n 0, 1) := by decide +kernel
theorem dL_law_394 : decode cL_law 394 = .ok (.iload 4, 2) := by decide +kernel
theorem dL_law_396 : decode cL_law 396 = .ok (.iconst 1, 1) := by decide +kernel
theorem dL_law_397 : decode cL_law 397 = .ok (.iadd, 1) := by decide +kernel
theorem dL_law_398 : decode cL_law 398 = .ok (.iaload, 1) := by decide +kernel
theorem dL_law_399 : decode cL_law 399 = .ok (.aload_n 3, 1) := by decide +kernel
theorem dL_law_400 : decode cL_law 400 = .ok (.invokestatic 133, 3) := by decide +kernel
theorem dL_law_403 : decode cL_law 403 = .ok (.istore 5, 2) := by decide +kernel
theorem dL_law_405 : decode cL_law 405 = .ok (.aload_n 2, 1) := by decide +kernel
theorem dL_law_406 : decode cL_law 406 = .ok (.aload_n 0, 1) := by decide +kernel
theorem dL_law_407 : decode cL_law 407 = .ok (.iload 4, 2) := by decide +kernel
theorem dL_law_409 : decode cL_law 409 = .ok (.iconst 1, 1) := by decide +kernel
theorem dL_law_410 : decode cL_law 410 = .ok (.iadd, 1) := by decide +kernel
theorem dL_law_411 : decode cL_law 411 = .ok (.iaload, 1) := by decide +kernel
theorem dL_law_412 : decode cL_law 412 = .ok (.invokevirtual 136, 3) := by decide +kernel
theorem dL_law_415 : decode cL_law 415 = .ok (.istore 6, 2) := by decide +kernel
theorem dL_law_417 : decode cL_law 417 = .ok (.aload_n 2, 1) := by decide +kernel
theorem dL_law_418 : decode cL_law 418 = .ok (.invokevirtual 122, 3) := by decide +kernel
theorem dL_law_421 : decode cL_law 421 = .ok (.iload 5, 2) := by decide +kernel
theorem dL_law_423 : decode cL_law 423 = .ok (.if_icmp .eq 5, 3) := by decide +kernel
theorem dL_law_426 : decode cL_law 426 = .ok (.iconst 0, 1) := by decide +kernel
theorem dL_law_427 : decode cL_law 427 = .ok (.ireturn, 1) := by decide +kernel
theorem dL_law_428 : decode cL_law 428 = .ok (.iload 5, 2) := by decide +kernel
theorem dL_law_430 : decode cL_law 430 = .ok (.ifCond .ne 15, 3) := by decide +kernel
theorem dL_law_433 : decode cL_law 433 = .ok (.aload_n 3, 1) := by decide +kernel
theorem dL_law_434 : decode cL_law 434 = .ok (.iconst 0, 1) := by decide +kernel
theorem dL_law_435 : decode cL_law 435 = .ok (.laload, 1) := by decide +kernel
theorem dL_law_436 : decode cL_law 436 = .ok (.iload 6, 2) := by decide +kernel
theorem dL_law_438 : decode cL_law 438 = .ok (.i2l, 1) := by decide +kernel
theorem dL_law_439 : decode cL_law 439 = .ok (.lcmp, 1) := by decide +kernel
theorem dL_law_440 : decode cL_law 440 = .ok (.ifCond .eq 5, 3) := by decide +kernel
theorem dL_law_443 : decode cL_law 443 = .ok (.iconst 0, 1) := by decide +kernel
theorem dL_law_444 : decode cL_law 444 = .ok (.ireturn, 1) := by decide +kernel
theorem dL_law_445 : decode cL_law 445 = .ok (.goto 1650, 3) := by decide +kernel
theorem dL_law_448 : decode cL_law 448 = .ok (.aload_n 1, 1) := by decide +kernel
theorem dL_law_449 : decode cL_law 449 = .ok (.aload_n 0, 1) := by decide +kernel
theorem dL_law_450 : decode cL_law 450 = .ok (.iload 4, 2) := by decide +kernel
theorem dL_law_452 : decode cL_law 452 = .ok (.iconst 1, 1) := by decide +kernel
theorem dL_law_453 : decode cL_law 453 = .ok (.iadd, 1) := by decide +kernel
theorem dL_law_454 : decode cL_law 454 = .ok (.iaload, 1) := by decide +kernel
theorem dL_law_455 : decode cL_law 455 = .ok (.aload_n 0, 1) := by decide +kernel
theorem dL_law_456 : decode cL_law 456 = .ok (.iload 4, 2) := by decide +kernel
theorem dL_law_458 : decode cL_law 458 = .ok (.iconst 2, 1) := by decide +kernel
theorem dL_law_459 : decode cL_law 459 = .ok (.iadd, 1) := by decide +kernel
theorem dL_law_460 : decode cL_law 460 = .ok (.iaload, 1) := by decide +kernel
theorem dL_law_461 : decode cL_law 461 = .ok (.aload_n 3, 1) := by decide +kernel
theorem dL_law_462 : decode cL_law 462 = .ok (.invokestatic 137, 3) := by decide +kernel
theorem dL_law_465 : decode cL_law 465 = .ok (.istore 5, 2) := by decide +kernel
theorem dL_law_467 : decode cL_law 467 = .ok (.aload_n 2, 1) := by decide +kernel
theorem dL_law_468 : decode cL_law 468 = .ok (.aload_n 0, 1) := by decide +kernel
theorem dL_law_469 : decode cL_law 469 = .ok (.iload 4, 2) := by decide +kernel
theorem dL_law_471 : decode cL_law 471 = .ok (.iconst 1, 1) := by decide +kernel
theorem dL_law_472 : decode cL_law 472 = .ok (.iadd, 1) := by decide +kernel
theorem dL_law_473 : decode cL_law 473 = .ok (.iaload, 1) := by decide +kernel
theorem dL_law_474 : decode cL_law 474 = .ok (.aload_n 0, 1) := by decide +kernel
theorem dL_law_475 : decode cL_law 475 = .ok (.iload 4, 2) := by decide +kernel
theorem dL_law_477 : decode cL_law 477 = .ok (.iconst 2, 1) := by decide +kernel
theorem dL_law_478 : decode cL_law 478 = .ok (.iadd, 1) := by decide +kernel
theorem dL_law_479 : decode cL_law 479 = .ok (.iaload, 1) := by decide +kernel
theorem dL_law_480 : decode cL_law 480 = .ok (.invokevirtual 139, 3) := by decide +kernel
theorem dL_law_483 : decode cL_law 483 = .ok (.istore 6, 2) := by decide +kernel
theorem dL_law_485 : decode cL_law 485 = .ok (.aload_n 2, 1) := by decide +kernel
theorem dL_law_486 : decode cL_law 486 = .ok (.invokevirtual 122, 3) := by decide +kernel
theorem dL_law_489 : decode cL_law 489 = .ok (.iload 5, 2) := by decide +kernel
theorem dL_law_491 : decode cL_law 491 = .ok (.if_icmp .eq 5, 3) := by decide +kernel
theorem dL_law_494 : decode cL_law 494 = .ok (.iconst 0, 1) := by decide +kernel
theorem dL_law_495 : decode cL_law 495 = .ok (.ireturn, 1) := by decide +kernel
theorem dL_law_496 : decode cL_law 496 = .ok (.iload 5, 2) := by decide +kernel
theorem dL_law_498 : decode cL_law 498 = .ok (.ifCond .ne 15, 3) := by decide +kernel
theorem dL_law_501 : decode cL_law 501 = .ok (.aload_n 3, 1) := by decide +kernel
theorem dL_law_502 : decode cL_law 502 = .ok (.iconst 0, 1) := by decide +kernel
theorem dL_law_503 : decode cL_law 503 = .ok (.laload, 1) := by decide +kernel
theorem dL_law_504 : decode cL_law 504 = .ok (.iload 6, 2) := by decide +kernel
theorem dL_law_506 : decode cL_law 506 = .ok (.i2l, 1) := by decide +kernel
theorem dL_law_507 : decode cL_law 507 = .ok (.lcmp, 1) := by decide +kernel
theorem dL_law_508 : decode cL_law 508 = .ok (.ifCond .eq 5, 3) := by decide +kernel
theorem dL_law_511 : decode cL_law 511 = .ok (.iconst 0, 1) := by decide +kernel
theorem dL_law_512 : decode cL_law 512 = .ok (.ireturn, 1) := by decide +kernel
theorem dL_law_513 : decode cL_law 513 = .ok (.goto 1582, 3) := by decide +kernel
theorem dL_law_516 : decode cL_law 516 = .ok (.aload_n 1, 1) := by decide +kernel
theorem dL_law_517 : decode cL_law 517 = .ok (.aload_n 0, 1) := by decide +kernel
theorem dL_law_518 : decode cL_law 518 = .ok (.iload 4, 2) := by decide +kernel
theorem dL_law_520 : decode cL_law 520 = .ok (.iconst 1, 1) := by decide +kernel
theorem dL_law_521 : decode cL_law 521 = .ok (.iadd, 1) := by decide +kernel
theorem dL_law_522 : decode cL_law 522 = .ok (.iaload, 1) := by decide +kernel
theorem dL_law_523 : decode cL_law 523 = .ok (.aload_n 0, 1) := by decide +kernel
theorem dL_law_524 : decode cL_law 524 = .ok (.iload 4, 2) := by decide +kernel
theorem dL_law_526 : decode cL_law 526 = .ok (.iconst 2, 1) := by decide +kernel
theorem dL_law_527 : decode cL_law 527 = .ok (.iadd, 1) := by decide +kernel
theorem dL_law_528 : decode cL_law 528 = .ok (.iaload, 1) := by decide +kernel
theorem dL_law_529 : decode cL_law 529 = .ok (.aload_n 0, 1) := by decide +kernel
theorem dL_law_530 : decode cL_law 530 = .ok (.iload 4, 2) := by decide +kernel
theorem dL_law_532 : decode cL_law 532 = .ok (.iconst 3, 1) := by decide +kernel
theorem dL_law_533 : decode cL_law 533 = .ok (.iadd, 1) := by decide +kernel
theorem dL_law_534 : decode cL_law 534 = .ok (.iaload, 1) := by decide +kernel
theorem dL_law_535 : decode cL_law 535 = .ok (.aload_n 3, 1) := by decide +kernel
theorem dL_law_536 : decode cL_law 536 = .ok (.invokestatic 140, 3) := by decide +kernel
theorem dL_law_539 : decode cL_law 539 = .ok (.istore 5, 2) := by decide +kernel
theorem dL_law_541 : decode cL_law 541 = .ok (.aload_n 2, 1) := by decide +kernel
theorem dL_law_542 : decode cL_law 542 = .ok (.aload_n 0, 1) := by decide +kernel
theorem dL_law_543 : decode cL_law 543 = .ok (.iload 4, 2) := by decide +kernel
theorem dL_law_545 : decode cL_law 545 = .ok (.iconst 1, 1) := by decide +kernel
theorem dL_law_546 : decode cL_law 546 = .ok (.iadd, 1) := by decide +kernel
theorem dL_law_547 : decode cL_law 547 = .ok (.iaload, 1) := by decide +kernel
theorem dL_law_548 : decode cL_law 548 = .ok (.aload_n 0, 1) := by decide +kernel
theorem dL_law_549 : decode cL_law 549 = .ok (.iload 4, 2) := by decide +kernel
theorem dL_law_551 : decode cL_law 551 = .ok (.iconst 2, 1) := by decide +kernel
theorem dL_law_552 : decode cL_law 552 = .ok (.iadd, 1) := by decide +kernel
theorem dL_law_553 : decode cL_law 553 = .ok (.iaload, 1) := by decide +kernel
theorem dL_law_554 : decode cL_law 554 = .ok (.aload_n 0, 1) := by decide +kernel
theorem dL_law_555 : decode cL_law 555 = .ok (.iload 4, 2) := by decide +kernel
theorem dL_law_557 : decode cL_law 557 = .ok (.iconst 3, 1) := by decide +kernel
theorem dL_law_558 : decode cL_law 558 = .ok (.iadd, 1) := by decide +kernel
theorem dL_law_559 : decode cL_law 559 = .ok (.iaload, 1) := by decide +kernel
theorem dL_law_560 : decode cL_law 560 = .ok (.invokevirtual 142, 3) := by decide +kernel
theorem dL_law_563 : decode cL_law 563 = .ok (.istore 6, 2) := by decide +kernel
theorem dL_law_565 : decode cL_law 565 = .ok (.aload_n 2, 1) := by decide +kernel
theorem dL_law_566 : decode cL_law 566 = .ok (.invokevirtual 122, 3) := by decide +kernel
theorem dL_law_569 : decode cL_law 569 = .ok (.iload 5, 2) := by decide +kernel
theorem dL_law_571 : decode cL_law 571 = .ok (.if_icmp .eq 5, 3) := by decide +kernel
theorem dL_law_574 : decode cL_law 574 = .ok (.iconst 0, 1) := by decide +kernel
theorem dL_law_575 : decode cL_law 575 = .ok (.ireturn, 1) := by decide +kernel
theorem dL_law_576 : decode cL_law 576 = .ok (.iload 5, 2) := by decide +kernel
theorem dL_law_578 : decode cL_law 578 = .ok (.ifCond .ne 15, 3) := by decide +kernel
theorem dL_law_581 : decode cL_law 581 = .ok (.aload_n 3, 1) := by decide +kernel
theorem dL_law_582 : decode cL_law 582 = .ok (.iconst 0, 1) := by decide +kernel
theorem dL_law_583 : decode cL_law 583 = .ok (.laload, 1) := by decide +kernel
theorem dL_law_584 : decode cL_law 584 = .ok (.iload 6, 2) := by decide +kernel
theorem dL_law_586 : decode cL_law 586 = .ok (.i2l, 1) := by decide +kernel
theorem dL_law_587 : decode cL_law 587 = .ok (.lcmp, 1) := by decide +kernel
theorem dL_law_588 : decode cL_law 588 = .ok (.ifCond .eq 5, 3) := by decide +kernel
theorem dL_law_591 : decode cL_law 591 = .ok (.iconst 0, 1) := by decide +kernel
theorem dL_law_592 : decode cL_law 592 = .ok (.ireturn, 1) := by decide +kernel
theorem dL_law_593 : decode cL_law 593 = .ok (.goto 1502, 3) := by decide +kernel
theorem dL_law_596 : decode cL_law 596 = .ok (.aload_n 1, 1) := by decide +kernel
theorem dL_law_597 : decode cL_law 597 = .ok (.aload_n 0, 1) := by decide +kernel
theorem dL_law_598 : decode cL_law 598 = .ok (.iload 4, 2) := by decide +kernel
theorem dL_law_600 : decode cL_law 600 = .ok (.iconst 1, 1) := by decide +kernel
theorem dL_law_601 : decode cL_law 601 = .ok (.iadd, 1) := by decide +kernel
theorem dL_law_602 : decode cL_law 602 = .ok (.iaload, 1) := by decide +kernel
theorem dL_law_603 : decode cL_law 603 = .ok (.aload_n 0, 1) := by decide +kernel
theorem dL_law_604 : decode cL_law 604 = .ok (.iload 4, 2) := by decide +kernel
theorem dL_law_606 : decode cL_law 606 = .ok (.iconst 2, 1) := by decide +kernel
theorem dL_law_607 : decode cL_law 607 = .ok (.iadd, 1) := by decide +kernel
theorem dL_law_608 : decode cL_law 608 = .ok (.iaload, 1) := by decide +kernel
theorem dL_law_609 : decode cL_law 609 = .ok (.aload_n 0, 1) := by decide +kernel
theorem dL_law_610 : decode cL_law 610 = .ok (.iload 4, 2) := by decide +kernel
theorem dL_law_612 : decode cL_law 612 = .ok (.iconst 3, 1) := by decide +kernel
theorem dL_law_613 : decode cL_law 613 = .ok (.iadd, 1) := by decide +kernel
theorem dL_law_614 : decode cL_law 614 = .ok (.iaload, 1) := by decide +kernel
theorem dL_law_615 : decode cL_law 615 = .ok (.aload_n 0, 1) := by decide +kernel
theorem dL_law_616 : decode cL_law 616 = .ok (.iload 4, 2) := by decide +kernel
theorem dL_law_618 : decode cL_law 618 = .ok (.iconst 4, 1) := by decide +kernel
theorem dL_law_619 : decode cL_law 619 = .ok (.iadd, 1) := by decide +kernel
theorem dL_law_620 : decode cL_law 620 = .ok (.iaload, 1) := by decide +kernel
theorem dL_law_621 : decode cL_law 621 = .ok (.aload_n 3, 1) := by decide +kernel
theorem dL_law_622 : decode cL_law 622 = .ok (.invokestatic 143, 3) := by decide +kernel
theorem dL_law_625 : decode cL_law 625 = .ok (.istore 5, 2) := by decide +kernel
theorem dL_law_627 : decode cL_law 627 = .ok (.aload_n 2, 1) := by decide +kernel
theorem dL_law_628 : decode cL_law 628 = .ok (.aload_n 0, 1) := by decide +kernel
theorem dL_law_629 : decode cL_law 629 = .ok (.iload 4, 2) := by decide +kernel
theorem dL_law_631 : decode cL_law 631 = .ok (.iconst 1, 1) := by decide +kernel
theorem dL_law_632 : decode cL_law 632 = .ok (.iadd, 1) := by decide +kernel
theorem dL_law_633 : decode cL_law 633 = .ok (.iaload, 1) := by decide +kernel
theorem dL_law_634 : decode cL_law 634 = .ok (.aload_n 0, 1) := by decide +kernel
theorem dL_law_635 : decode cL_law 635 = .ok (.iload 4, 2) := by decide +kernel
theorem dL_law_637 : decode cL_law 637 = .ok (.iconst 2, 1) := by decide +kernel
theorem dL_law_638 : decode cL_law 638 = .ok (.iadd, 1) := by decide +kernel
theorem dL_law_639 : decode cL_law 639 = .ok (.iaload, 1) := by decide +kernel
theorem dL_law_640 : decode cL_law 640 = .ok (.aload_n 0, 1) := by decide +kernel
theorem dL_law_641 : decode cL_law 641 = .ok (.iload 4, 2) := by decide +kernel
theorem dL_law_643 : decode cL_law 643 = .ok (.iconst 3, 1) := by decide +kernel
theorem dL_law_644 : decode cL_law 644 = .ok (.iadd, 1) := by decide +kernel
theorem dL_law_645 : decode cL_law 645 = .ok (.iaload, 1) := by decide +kernel
theorem dL_law_646 : decode cL_law 646 = .ok (.aload_n 0, 1) := by decide +kernel
theorem dL_law_647 : decode cL_law 647 = .ok (.iload 4, 2) := by decide +kernel
theorem dL_law_649 : decode cL_law 649 = .ok (.iconst 4, 1) := by decide +kernel
theorem dL_law_650 : decode cL_law 650 = .ok (.iadd, 1) := by decide +kernel
theorem dL_law_651 : decode cL_law 651 = .ok (.iaload, 1) := by decide +kernel
theorem dL_law_652 : decode cL_law 652 = .ok (.invokevirtual 146, 3) := by decide +kernel
theorem dL_law_655 : decode cL_law 655 = .ok (.istore 6, 2) := by decide +kernel
theorem dL_law_657 : decode cL_law 657 = .ok (.aload_n 2, 1) := by decide +kernel
theorem dL_law_658 : decode cL_law 658 = .ok (.invokevirtual 122, 3) := by decide +kernel
theorem dL_law_661 : decode cL_law 661 = .ok (.iload 5, 2) := by decide +kernel
theorem dL_law_663 : decode cL_law 663 = .ok (.if_icmp .eq 5, 3) := by decide +kernel
theorem dL_law_666 : decode cL_law 666 = .ok (.iconst 0, 1) := by decide +kernel
theorem dL_law_667 : decode cL_law 667 = .ok (.ireturn, 1) := by decide +kernel
theorem dL_law_668 : decode cL_law 668 = .ok (.iload 5, 2) := by decide +kernel
theorem dL_law_670 : decode cL_law 670 = .ok (.ifCond .ne 15, 3) := by decide +kernel
theorem dL_law_673 : decode cL_law 673 = .ok (.aload_n 3, 1) := by decide +kernel
theorem dL_law_674 : decode cL_law 674 = .ok (.iconst 0, 1) := by decide +kernel
theorem dL_law_675 : decode cL_law 675 = .ok (.laload, 1) := by decide +kernel
theorem dL_law_676 : decode cL_law 676 = .ok (.iload 6, 2) := by decide +kernel
theorem dL_law_678 : decode cL_law 678 = .ok (.i2l, 1) := by decide +kernel
theorem dL_law_679 : decode cL_law 679 = .ok (.lcmp, 1) := by decide +kernel
theorem dL_law_680 : decode cL_law 680 = .ok (.ifCond .eq 5, 3) := by decide +kernel
theorem dL_law_683 : decode cL_law 683 = .ok (.iconst 0, 1) := by decide +kernel
theorem dL_law_684 : decode cL_law 684 = .ok (.ireturn, 1) := by decide +kernel
theorem dL_law_685 : decode cL_law 685 = .ok (.goto 1410, 3) := by decide +kernel
theorem dL_law_688 : decode cL_law 688 = .ok (.aload_n 1, 1) := by decide +kernel
theorem dL_law_689 : decode cL_law 689 = .ok (.aload_n 0, 1) := by decide +kernel
theorem dL_law_690 : decode cL_law 690 = .ok (.iload 4, 2) := by decide +kernel
theorem dL_law_692 : decode cL_law 692 = .ok (.iconst 1, 1) := by decide +kernel
theorem dL_law_693 : decode cL_law 693 = .ok (.iadd, 1) := by decide +kernel
theorem dL_law_694 : decode cL_law 694 = .ok (.iaload, 1) := by decide +kernel
theorem dL_law_695 : decode cL_law 695 = .ok (.aload_n 0, 1) := by decide +kernel
theorem dL_law_696 : decode cL_law 696 = .ok (.iload 4, 2) := by decide +kernel
theorem dL_law_698 : decode cL_law 698 = .ok (.iconst 2, 1) := by decide +kernel
theorem dL_law_699 : decode cL_law 699 = .ok (.iadd, 1) := by decide +kernel
theorem dL_law_700 : decode cL_law 700 = .ok (.iaload, 1) := by decide +kernel
theorem dL_law_701 : decode cL_law 701 = .ok (.aload_n 0, 1) := by decide +kernel
theorem dL_law_702 : decode cL_law 702 = .ok (.iload 4, 2) := by decide +kernel
theorem dL_law_704 : decode cL_law 704 = .ok (.iconst 3, 1) := by decide +kernel
theorem dL_law_705 : decode cL_law 705 = .ok (.iadd, 1) := by decide +kernel
theorem dL_law_706 : decode cL_law 706 = .ok (.iaload, 1) := by decide +kernel
theorem dL_law_707 : decode cL_law 707 = .ok (.aload_n 3, 1) := by decide +kernel
theorem dL_law_708 : decode cL_law 708 = .ok (.invokestatic 147, 3) := by decide +kernel
theorem dL_law_711 : decode cL_law 711 = .ok (.istore 5, 2) := by decide +kernel
theorem dL_law_713 : decode cL_law 713 = .ok (.aload_n 2, 1) := by decide +kernel
theorem dL_law_714 : decode cL_law 714 = .ok (.aload_n 0, 1) := by decide +kernel
theorem dL_law_715 : decode cL_law 715 = .ok (.iload 4, 2) := by decide +kernel
theorem dL_law_717 : decode cL_law 717 = .ok (.iconst 1, 1) := by decide +kernel
theorem dL_law_718 : decode cL_law 718 = .ok (.iadd, 1) := by decide +kernel
theorem dL_law_719 : decode cL_law 719 = .ok (.iaload, 1) := by decide +kernel
theorem dL_law_720 : decode cL_law 720 = .ok (.aload_n 0, 1) := by decide +kernel
theorem dL_law_721 : decode cL_law 721 = .ok (.iload 4, 2) := by decide +kernel
theorem dL_law_723 : decode cL_law 723 = .ok (.iconst 2, 1) := by decide +kernel
theorem dL_law_724 : decode cL_law 724 = .ok (.iadd, 1) := by decide +kernel
theorem dL_law_725 : decode cL_law 725 = .ok (.iaload, 1) := by decide +kernel
theorem dL_law_726 : decode cL_law 726 = .ok (.aload_n 0, 1) := by decide +kernel
theorem dL_law_727 : decode cL_law 727 = .ok (.iload 4, 2) := by decide +kernel
theorem dL_law_729 : decode cL_law 729 = .ok (.iconst 3, 1) := by decide +kernel
theorem dL_law_730 : decode cL_law 730 = .ok (.iadd, 1) := by decide +kernel
theorem dL_law_731 : decode cL_law 731 = .ok (.iaload, 1) := by decide +kernel
theorem dL_law_732 : decode cL_law 732 = .ok (.invokevirtual 149, 3) := by decide +kernel
theorem dL_law_735 : decode cL_law 735 = .ok (.istore 6, 2) := by decide +kernel
theorem dL_law_737 : decode cL_law 737 = .ok (.aload_n 2, 1) := by decide +kernel
theorem dL_law_738 : decode cL_law 738 = .ok (.invokevirtual 122, 3) := by decide +kernel
theorem dL_law_741 : decode cL_law 741 = .ok (.iload 5, 2) := by decide +kernel
theorem dL_law_743 : decode cL_law 743 = .ok (.if_icmp .eq 5, 3) := by decide +kernel
theorem dL_law_746 : decode cL_law 746 = .ok (.iconst 0, 1) := by decide +kernel
theorem dL_law_747 : decode cL_law 747 = .ok (.ireturn, 1) := by decide +kernel
theorem dL_law_748 : decode cL_law 748 = .ok (.iload 5, 2) := by decide +kernel
theorem dL_law_750 : decode cL_law 750 = .ok (.ifCond .ne 15, 3) := by decide +kernel
theorem dL_law_753 : decode cL_law 753 = .ok (.aload_n 3, 1) := by decide +kernel
theorem dL_law_754 : decode cL_law 754 = .ok (.iconst 0, 1) := by decide +kernel
theorem dL_law_755 : decode cL_law 755 = .ok (.laload, 1) := by decide +kernel
theorem dL_law_756 : decode cL_law 756 = .ok (.iload 6, 2) := by decide +kernel
