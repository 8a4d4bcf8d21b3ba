theorem dX4_worthToday_5 : decode cX4_worthToday 5 = .ok (.goto 19, 3) := by decide +kernel
theorem dX4_worthToday_8 : decode cX4_worthToday 8 = .ok (.aload_n 1, 1) := by decide +kernel
theorem dX4_worthToday_9 : decode cX4_worthToday 9 = .ok (.aload_n 0, 1) := by decide +kernel
theorem dX4_worthToday_10 : decode cX4_worthToday 10 = .ok (.aload_n 1, 1) := by decide +kernel
theorem dX4_worthToday_11 : decode cX4_worthToday 11 = .ok (.getfield 79, 3) := by decide +kernel
theorem dX4_worthToday_14 : decode cX4_worthToday 14 = .ok (.aload_n 0, 1) := by decide +kernel
theorem dX4_worthToday_15 : decode cX4_worthToday 15 = .ok (.getfield 84, 3) := by decide +kernel
theorem dX4_worthToday_18 : decode cX4_worthToday 18 = .ok (.invokevirtual 87, 3) := by decide +kernel
theorem dX4_worthToday_21 : decode cX4_worthToday 21 = .ok (.invokestatic 97, 3) := by decide +kernel
theorem dX4_worthToday_24 : decode cX4_worthToday 24 = .ok (.ireturn, 1) := by decide +kernel
theorem dX4_isBesideNeeded_0 : decode cX4_isBesideNeeded 0 = .ok (.iload_n 1, 1) := by decide +kernel
theorem dX4_isBesideNeeded_1 : decode cX4_isBesideNeeded 1 = .ok (.bipush 6, 2) := by decide +kernel
theorem dX4_isBesideNeeded_3 : decode cX4_isBesideNeeded 3 = .ok (.irem, 1) := by decide +kernel
theorem dX4_isBesideNeeded_4 : decode cX4_isBesideNeeded 4 = .ok (.istore_n 2, 1) := by decide +kernel
theorem dX4_isBesideNeeded_5 : decode cX4_isBesideNeeded 5 = .ok (.iload_n 2, 1) := by decide +kernel
theorem dX4_isBesideNeeded_6 : decode cX4_isBesideNeeded 6 = .ok (.ifCond .le 16, 3) := by decide +kernel
theorem dX4_isBesideNeeded_9 : decode cX4_isBesideNeeded 9 = .ok (.aload_n 0, 1) := by decide +kernel
theorem dX4_isBesideNeeded_10 : decode cX4_isBesideNeeded 10 = .ok (.iload_n 1, 1) := by decide +kernel
theorem dX4_isBesideNeeded_11 : decode cX4_isBesideNeeded 11 = .ok (.iconst 1, 1) := by decide +kernel
theorem dX4_isBesideNeeded_12 : decode cX4_isBesideNeeded 12 = .ok (.isub, 1) := by decide +kernel
theorem dX4_isBesideNeeded_13 : decode cX4_isBesideNeeded 13 = .ok (.invokevirtual 39, 3) := by decide +kernel
theorem dX4_isBesideNeeded_16 : decode cX4_isBesideNeeded 16 = .ok (.invokestatic 67, 3) := by decide +kernel
theorem dX4_isBesideNeeded_19 : decode cX4_isBesideNeeded 19 = .ok (.ifCond .ne 49, 3) := by decide +kernel
theorem dX4_isBesideNeeded_22 : decode cX4_isBesideNeeded 22 = .ok (.iload_n 2, 1) := by decide +kernel
theorem dX4_isBesideNeeded_23 : decode cX4_isBesideNeeded 23 = .ok (.iconst 5, 1) := by decide +kernel
theorem dX4_isBesideNeeded_24 : decode cX4_isBesideNeeded 24 = .ok (.if_icmp .ge 16, 3) := by decide +kernel
theorem dX4_isBesideNeeded_27 : decode cX4_isBesideNeeded 27 = .ok (.aload_n 0, 1) := by decide +kernel
theorem dX4_isBesideNeeded_28 : decode cX4_isBesideNeeded 28 = .ok (.iload_n 1, 1) := by decide +kernel
theorem dX4_isBesideNeeded_29 : decode cX4_isBesideNeeded 29 = .ok (.iconst 1, 1) := by decide +kernel
theorem dX4_isBesideNeeded_30 : decode cX4_isBesideNeeded 30 = .ok (.iadd, 1) := by decide +kernel
theorem dX4_isBesideNeeded_31 : decode cX4_isBesideNeeded 31 = .ok (.invokevirtual 39, 3) := by decide +kernel
theorem dX4_isBesideNeeded_34 : decode cX4_isBesideNeeded 34 = .ok (.invokestatic 67, 3) := by decide +kernel
theorem dX4_isBesideNeeded_37 : decode cX4_isBesideNeeded 37 = .ok (.ifCond .ne 31, 3) := by decide +kernel
theorem dX4_isBesideNeeded_40 : decode cX4_isBesideNeeded 40 = .ok (.aload_n 0, 1) := by decide +kernel
theorem dX4_isBesideNeeded_41 : decode cX4_isBesideNeeded 41 = .ok (.iload_n 1, 1) := by decide +kernel
theorem dX4_isBesideNeeded_42 : decode cX4_isBesideNeeded 42 = .ok (.bipush 6, 2) := by decide +kernel
theorem dX4_isBesideNeeded_44 : decode cX4_isBesideNeeded 44 = .ok (.isub, 1) := by decide +kernel
theorem dX4_isBesideNeeded_45 : decode cX4_isBesideNeeded 45 = .ok (.invokevirtual 39, 3) := by decide +kernel
theorem dX4_isBesideNeeded_48 : decode cX4_isBesideNeeded 48 = .ok (.invokestatic 67, 3) := by decide +kernel
theorem dX4_isBesideNeeded_51 : decode cX4_isBesideNeeded 51 = .ok (.ifCond .ne 17, 3) := by decide +kernel
theorem dX4_isBesideNeeded_54 : decode cX4_isBesideNeeded 54 = .ok (.aload_n 0, 1) := by decide +kernel
theorem dX4_isBesideNeeded_55 : decode cX4_isBesideNeeded 55 = .ok (.iload_n 1, 1) := by decide +kernel
theorem dX4_isBesideNeeded_56 : decode cX4_isBesideNeeded 56 = .ok (.bipush 6, 2) := by decide +kernel
theorem dX4_isBesideNeeded_58 : decode cX4_isBesideNeeded 58 = .ok (.iadd, 1) := by decide +kernel
theorem dX4_isBesideNeeded_59 : decode cX4_isBesideNeeded 59 = .ok (.invokevirtual 39, 3) := by decide +kernel
theorem dX4_isBesideNeeded_62 : decode cX4_isBesideNeeded 62 = .ok (.invokestatic 67, 3) := by decide +kernel
theorem dX4_isBesideNeeded_65 : decode cX4_isBesideNeeded 65 = .ok (.ifCond .eq 7, 3) := by decide +kernel
theorem dX4_isBesideNeeded_68 : decode cX4_isBesideNeeded 68 = .ok (.iconst 1, 1) := by decide +kernel
theorem dX4_isBesideNeeded_69 : decode cX4_isBesideNeeded 69 = .ok (.goto 4, 3) := by decide +kernel
theorem dX4_isBesideNeeded_72 : decode cX4_isBesideNeeded 72 = .ok (.iconst 0, 1) := by decide +kernel
theorem dX4_isBesideNeeded_73 : decode cX4_isBesideNeeded 73 = .ok (.ireturn, 1) := by decide +kernel
theorem dX4_neederOf_0 : decode cX4_neederOf 0 = .ok (.aload_n 0, 1) := by decide +kernel
theorem dX4_neederOf_1 : decode cX4_neederOf 1 = .ok (.ifnonnull 7, 3) := by decide +kernel
theorem dX4_neederOf_4 : decode cX4_neederOf 4 = .ok (.aconst_null, 1) := by decide +kernel
theorem dX4_neederOf_5 : decode cX4_neederOf 5 = .ok (.goto 7, 3) := by decide +kernel
theorem dX4_neederOf_8 : decode cX4_neederOf 8 = .ok (.aload_n 0, 1) := by decide +kernel
theorem dX4_neederOf_9 : decode cX4_neederOf 9 = .ok (.getfield 230, 3) := by decide +kernel
theorem dX4_neederOf_12 : decode cX4_neederOf 12 = .ok (.astore_n 1, 1) := by decide +kernel
theorem dX4_neederOf_13 : decode cX4_neederOf 13 = .ok (.aload_n 1, 1) := by decide +kernel
theorem dX4_neederOf_14 : decode cX4_neederOf 14 = .ok (.ifnull 11, 3) := by decide +kernel
theorem dX4_neederOf_17 : decode cX4_neederOf 17 = .ok (.aload_n 1, 1) := by decide +kernel
theorem dX4_neederOf_18 : decode cX4_neederOf 18 = .ok (.getfield 227, 3) := by decide +kernel
theorem dX4_neederOf_21 : decode cX4_neederOf 21 = .ok (.iconst 2, 1) := by decide +kernel
theorem dX4_neederOf_22 : decode cX4_neederOf 22 = .ok (.if_icmp .ne 7, 3) := by decide +kernel
theorem dX4_neederOf_25 : decode cX4_neederOf 25 = .ok (.aconst_null, 1) := by decide +kernel
theorem dX4_neederOf_26 : decode cX4_neederOf 26 = .ok (.goto 4, 3) := by decide +kernel
theorem dX4_neederOf_29 : decode cX4_neederOf 29 = .ok (.aload_n 1, 1) := by decide +kernel
theorem dX4_neederOf_30 : decode cX4_neederOf 30 = .ok (.areturn, 1) := by decide +kernel
theorem dX4_isNeeded_0 : decode cX4_isNeeded 0 = .ok (.aload_n 0, 1) := by decide +kernel
theorem dX4_isNeeded_1 : decode cX4_isNeeded 1 = .ok (.invokestatic 115, 3) := by decide +kernel
theorem dX4_isNeeded_4 : decode cX4_isNeeded 4 = .ok (.ifnull 7, 3) := by decide +kernel
theorem dX4_isNeeded_7 : decode cX4_isNeeded 7 = .ok (.iconst 1, 1) := by decide +kernel
theorem dX4_isNeeded_8 : decode cX4_isNeeded 8 = .ok (.goto 4, 3) := by decide +kernel
theorem dX4_isNeeded_11 : decode cX4_isNeeded 11 = .ok (.iconst 0, 1) := by decide +kernel
theorem dX4_isNeeded_12 : decode cX4_isNeeded 12 = .ok (.ireturn, 1) := by decide +kernel
theorem dX4_isNeededBy_0 : decode cX4_isNeededBy 0 = .ok (.aload_n 1, 1) := by decide +kernel
theorem dX4_isNeededBy_1 : decode cX4_isNeededBy 1 = .ok (.ifnull 15, 3) := by decide +kernel
theorem dX4_isNeededBy_4 : decode cX4_isNeededBy 4 = .ok (.aload_n 0, 1) := by decide +kernel
theorem dX4_isNeededBy_5 : decode cX4_isNeededBy 5 = .ok (.invokestatic 115, 3) := by decide +kernel
theorem dX4_isNeededBy_8 : decode cX4_isNeededBy 8 = .ok (.aload_n 1, 1) := by decide +kernel
theorem dX4_isNeededBy_9 : decode cX4_isNeededBy 9 = .ok (.if_acmp .ne 7, 3) := by decide +kernel
theorem dX4_isNeededBy_12 : decode cX4_isNeededBy 12 = .ok (.iconst 1, 1) := by decide +kernel
theorem dX4_isNeededBy_13 : decode cX4_isNeededBy 13 = .ok (.goto 4, 3) := by decide +kernel
theorem dX4_isNeededBy_16 : decode cX4_isNeededBy 16 = .ok (.iconst 0, 1) := by decide +kernel
theorem dX4_isNeededBy_17 : decode cX4_isNeededBy 17 = .ok (.ireturn, 1) := by decide +kernel
theorem dX4_isFreeAndNeededBy_0 : decode cX4_isFreeAndNeededBy 0 = .ok (.aload_n 0, 1) := by decide +kernel
theorem dX4_isFreeAndNeededBy_1 : decode cX4_isFreeAndNeededBy 1 = .ok (.ifnull 22, 3) := by decide +kernel
theorem dX4_isFreeAndNeededBy_4 : decode cX4_isFreeAndNeededBy 4 = .ok (.aload_n 0, 1) := by decide +kernel
theorem dX4_isFreeAndNeededBy_5 : decode cX4_isFreeAndNeededBy 5 = .ok (.getfield 63, 3) := by decide +kernel
theorem dX4_isFreeAndNeededBy_8 : decode cX4_isFreeAndNeededBy 8 = .ok (.ifCond .ne 15, 3) := by decide +kernel
theorem dX4_isFreeAndNeededBy_11 : decode cX4_isFreeAndNeededBy 11 = .ok (.aload_n 0, 1) := by decide +kernel
theorem dX4_isFreeAndNeededBy_12 : decode cX4_isFreeAndNeededBy 12 = .ok (.aload_n 1, 1) := by decide +kernel
theorem dX4_isFreeAndNeededBy_13 : decode cX4_isFreeAndNeededBy 13 = .ok (.invokestatic 275, 3) := by decide +kernel
theorem dX4_isFreeAndNeededBy_16 : decode cX4_isFreeAndNeededBy 16 = .ok (.ifCond .eq 7, 3) := by decide +kernel
theorem dX4_isFreeAndNeededBy_19 : decode cX4_isFreeAndNeededBy 19 = .ok (.iconst 1, 1) := by decide +kernel
theorem dX4_isFreeAndNeededBy_20 : decode cX4_isFreeAndNeededBy 20 = .ok (.goto 4, 3) := by decide +kernel
theorem dX4_isFreeAndNeededBy_23 : decode cX4_isFreeAndNeededBy 23 = .ok (.iconst 0, 1) := by decide +kernel
theorem dX4_isFreeAndNeededBy_24 : decode cX4_isFreeAndNeededBy 24 = .ok (.ireturn, 1) := by decide +kernel
theorem dX4_draftOfFreePlot_0 : decode cX4_draftOfFreePlot 0 = .ok (.aload_n 0, 1) := by decide +kernel
theorem dX4_draftOfFreePlot_1 : decode cX4_draftOfFreePlot 1 = .ok (.invokestatic 115, 3) := by decide +kernel
theorem dX4_draftOfFreePlot_4 : decode cX4_draftOfFreePlot 4 = .ok (.astore_n 1, 1) := by decide +kernel
theorem dX4_draftOfFreePlot_5 : decode cX4_draftOfFreePlot 5 = .ok (.aload_n 1, 1) := by decide +kernel
theorem dX4_draftOfFreePlot_6 : decode cX4_draftOfFreePlot 6 = .ok (.ifnull 22, 3) := by decide +kernel
theorem dX4_draftOfFreePlot_9 : decode cX4_draftOfFreePlot 9 = .ok (.aload_n 1, 1) := by decide +kernel
theorem dX4_draftOfFreePlot_10 : decode cX4_draftOfFreePlot 10 = .ok (.getfield 227, 3) := by decide +kernel
theorem dX4_draftOfFreePlot_13 : decode cX4_draftOfFreePlot 13 = .ok (.ifCond .ne 15, 3) := by decide +kernel
theorem dX4_draftOfFreePlot_16 : decode cX4_draftOfFreePlot 16 = .ok (.aload_n 0, 1) := by decide +kernel
theorem dX4_draftOfFreePlot_17 : decode cX4_draftOfFreePlot 17 = .ok (.aload_n 1, 1) := by decide +kernel
theorem dX4_draftOfFreePlot_18 : decode cX4_draftOfFreePlot 18 = .ok (.invokestatic 370, 3) := by decide +kernel
theorem dX4_draftOfFreePlot_21 : decode cX4_draftOfFreePlot 21 = .ok (.ifCond .eq 7, 3) := by decide +kernel
theorem dX4_draftOfFreePlot_24 : decode cX4_draftOfFreePlot 24 = .ok (.aload_n 1, 1) := by decide +kernel
theorem dX4_draftOfFreePlot_25 : decode cX4_draftOfFreePlot 25 = .ok (.goto 4, 3) := by decide +kernel
theorem dX4_draftOfFreePlot_28 : decode cX4_draftOfFreePlot 28 = .ok (.aconst_null, 1) := by decide +kernel
theorem dX4_draftOfFreePlot_29 : decode cX4_draftOfFreePlot 29 = .ok (.areturn, 1) := by decide +kernel
theorem dX4_countNeeded_0 : decode cX4_countNeeded 0 = .ok (.iconst 0, 1) := by decide +kernel
theorem dX4_countNeeded_1 : decode cX4_countNeeded 1 = .ok (.istore_n 2, 1) := by decide +kernel
theorem dX4_countNeeded_2 : decode cX4_countNeeded 2 = .ok (.aload_n 0, 1) := by decide +kernel
theorem dX4_countNeeded_3 : decode cX4_countNeeded 3 = .ok (.getfield 11, 3) := by decide +kernel
theorem dX4_countNeeded_6 : decode cX4_countNeeded 6 = .ok (.astore_n 3, 1) := by decide +kernel
theorem dX4_countNeeded_7 : decode cX4_countNeeded 7 = .ok (.aload_n 3, 1) := by decide +kernel
theorem dX4_countNeeded_8 : decode cX4_countNeeded 8 = .ok (.arraylength, 1) := by decide +kernel
theorem dX4_countNeeded_9 : decode cX4_countNeeded 9 = .ok (.istore 4, 2) := by decide +kernel
theorem dX4_countNeeded_11 : decode cX4_countNeeded 11 = .ok (.iconst 0, 1) := by decide +kernel
theorem dX4_countNeeded_12 : decode cX4_countNeeded 12 = .ok (.istore 5, 2) := by decide +kernel
theorem dX4_countNeeded_14 : decode cX4_countNeeded 14 = .ok (.iload 5, 2) := by decide +kernel
theorem dX4_countNeeded_16 : decode cX4_countNeeded 16 = .ok (.iload 4, 2) := by decide +kernel
theorem dX4_countNeeded_18 : decode cX4_countNeeded 18 = .ok (.if_icmp .ge 27, 3) := by decide +kernel
theorem dX4_countNeeded_21 : decode cX4_countNeeded 21 = .ok (.aload_n 3, 1) := by decide +kernel
theorem dX4_countNeeded_22 : decode cX4_countNeeded 22 = .ok (.iload 5, 2) := by decide +kernel
theorem dX4_countNeeded_24 : decode cX4_countNeeded 24 = .ok (.aaload, 1) := by decide +kernel
theorem dX4_countNeeded_25 : decode cX4_countNeeded 25 = .ok (.astore 6, 2) := by decide +kernel
theorem dX4_countNeeded_27 : decode cX4_countNeeded 27 = .ok (.aload 6, 2) := by decide +kernel
theorem dX4_countNeeded_29 : decode cX4_countNeeded 29 = .ok (.aload_n 1, 1) := by decide +kernel
theorem dX4_countNeeded_30 : decode cX4_countNeeded 30 = .ok (.invokestatic 275, 3) := by decide +kernel
theorem dX4_countNeeded_33 : decode cX4_countNeeded 33 = .ok (.ifCond .eq 6, 3) := by decide +kernel
theorem dX4_countNeeded_36 : decode cX4_countNeeded 36 = .ok (.iinc 2 1, 3) := by decide +kernel
theorem dX4_countNeeded_39 : decode cX4_countNeeded 39 = .ok (.iinc 5 1, 3) := by decide +kernel
theorem dX4_countNeeded_42 : decode cX4_countNeeded 42 = .ok (.goto (-28), 3) := by decide +kernel
theorem dX4_countNeeded_45 : decode cX4_countNeeded 45 = .ok (.iload_n 2, 1) := by decide +kernel
theorem dX4_countNeeded_46 : decode cX4_countNeeded 46 = .ok (.ireturn, 1) := by decide +kernel
theorem dX4_countFreeNeeded_0 : decode cX4_countFreeNeeded 0 = .ok (.iconst 0, 1) := by decide +kernel
theorem dX4_countFreeNeeded_1 : decode cX4_countFreeNeeded 1 = .ok (.istore_n 2, 1) := by decide +kernel
theorem dX4_countFreeNeeded_2 : decode cX4_countFreeNeeded 2 = .ok (.aload_n 0, 1) := by decide +kernel
theorem dX4_countFreeNeeded_3 : decode cX4_countFreeNeeded 3 = .ok (.getfield 11, 3) := by decide +kernel
theorem dX4_countFreeNeeded_6 : decode cX4_countFreeNeeded 6 = .ok (.astore_n 3, 1) := by decide +kernel
theorem dX4_countFreeNeeded_7 : decode cX4_countFreeNeeded 7 = .ok (.aload_n 3, 1) := by decide +kernel
theorem dX4_countFreeNeeded_8 : decode cX4_countFreeNeeded 8 = .ok (.arraylength, 1) := by decide +kernel
theorem dX4_countFreeNeeded_9 : decode cX4_countFreeNeeded 9 = .ok (.istore 4, 2) := by decide +kernel
theorem dX4_countFreeNeeded_11 : decode cX4_countFreeNeeded 11 = .ok (.iconst 0, 1) := by decide +kernel
theorem dX4_countFreeNeeded_12 : decode cX4_countFreeNeeded 12 = .ok (.istore 5, 2) := by decide +kernel
theorem dX4_countFreeNeeded_14 : decode cX4_countFreeNeeded 14 = .ok (.iload 5, 2) := by decide +kernel
theorem dX4_countFreeNeeded_16 : decode cX4_countFreeNeeded 16 = .ok (.iload 4, 2) := by decide +kernel
theorem dX4_countFreeNeeded_18 : decode cX4_countFreeNeeded 18 = .ok (.if_icmp .ge 27, 3) := by decide +kernel
theorem dX4_countFreeNeeded_21 : decode cX4_countFreeNeeded 21 = .ok (.aload_n 3, 1) := by decide +kernel
theorem dX4_countFreeNeeded_22 : decode cX4_countFreeNeeded 22 = .ok (.iload 5, 2) := by decide +kernel
theorem dX4_countFreeNeeded_24 : decode cX4_countFreeNeeded 24 = .ok (.aaload, 1) := by decide +kernel
theorem dX4_countFreeNeeded_25 : decode cX4_countFreeNeeded 25 = .ok (.astore 6, 2) := by decide +kernel
theorem dX4_countFreeNeeded_27 : decode cX4_countFreeNeeded 27 = .ok (.aload 6, 2) := by decide +kernel
theorem dX4_countFreeNeeded_29 : decode cX4_countFreeNeeded 29 = .ok (.aload_n 1, 1) := by decide +kernel
theorem dX4_countFreeNeeded_30 : decode cX4_countFreeNeeded 30 = .ok (.invokestatic 370, 3) := by decide +kernel
theorem dX4_countFreeNeeded_33 : decode cX4_countFreeNeeded 33 = .ok (.ifCond .eq 6, 3) := by decide +kernel
theorem dX4_countFreeNeeded_36 : decode cX4_countFreeNeeded 36 = .ok (.iinc 2 1, 3) := by decide +kernel
theorem dX4_countFreeNeeded_39 : decode cX4_countFreeNeeded 39 = .ok (.iinc 5 1, 3) := by decide +kernel
theorem dX4_countFreeNeeded_42 : decode cX4_countFreeNeeded 42 = .ok (.goto (-28), 3) := by decide +kernel
theorem dX4_countFreeNeeded_45 : decode cX4_countFreeNeeded 45 = .ok (.iload_n 2, 1) := by decide +kernel
theorem dX4_countFreeNeeded_46 : decode cX4_countFreeNeeded 46 = .ok (.ireturn, 1) := by decide +kernel
theorem dX4_countWorks_0 : decode cX4_countWorks 0 = .ok (.iconst 0, 1) := by decide +kernel
theorem dX4_countWorks_1 : decode cX4_countWorks 1 = .ok (.istore_n 1, 1) := by decide +kernel
theorem dX4_countWorks_2 : decode cX4_countWorks 2 = .ok (.aload_n 0, 1) := by decide +kernel
theorem dX4_countWorks_3 : decode cX4_countWorks 3 = .ok (.getfield 11, 3) := by decide +kernel
theorem dX4_countWorks_6 : decode cX4_countWorks 6 = .ok (.astore_n 2, 1) := by decide +kernel
theorem dX4_countWorks_7 : decode cX4_countWorks 7 = .ok (.aload_n 2, 1) := by decide +kernel
theorem dX4_countWorks_8 : decode cX4_countWorks 8 = .ok (.arraylength, 1) := by decide +kernel
theorem dX4_countWorks_9 : decode cX4_countWorks 9 = .ok (.istore_n 3, 1) := by decide +kernel
theorem dX4_countWorks_10 : decode cX4_countWorks 10 = .ok (.iconst 0, 1) := by decide +kernel
theorem dX4_countWorks_11 : decode cX4_countWorks 11 = .ok (.istore 4, 2) := by decide +kernel
theorem dX4_countWorks_13 : decode cX4_countWorks 13 = .ok (.iload 4, 2) := by decide +kernel
theorem dX4_countWorks_15 : decode cX4_countWorks 15 = .ok (.iload_n 3, 1) := by decide +kernel
theorem dX4_countWorks_16 : decode cX4_countWorks 16 = .ok (.if_icmp .ge 31, 3) := by decide +kernel
theorem dX4_countWorks_19 : decode cX4_countWorks 19 = .ok (.aload_n 2, 1) := by decide +kernel
theorem dX4_countWorks_20 : decode cX4_countWorks 20 = .ok (.iload 4, 2) := by decide +kernel
theorem dX4_countWorks_22 : decode cX4_countWorks 22 = .ok (.aaload, 1) := by decide +kernel
theorem dX4_countWorks_23 : decode cX4_countWorks 23 = .ok (.astore 5, 2) := by decide +kernel
theorem dX4_countWorks_25 : decode cX4_countWorks 25 = .ok (.aload 5, 2) := by decide +kernel
theorem dX4_countWorks_27 : decode cX4_countWorks 27 = .ok (.ifnull 14, 3) := by decide +kernel
theorem dX4_countWorks_30 : decode cX4_countWorks 30 = .ok (.aload 5, 2) := by decide +kernel
theorem dX4_countWorks_32 : decode cX4_countWorks 32 = .ok (.getfield 129, 3) := by decide +kernel
theorem dX4_countWorks_35 : decode cX4_countWorks 35 = .ok (.ifCond .eq 6, 3) := by decide +kernel
theorem dX4_countWorks_38 : decode cX4_countWorks 38 = .ok (.iinc 1 1, 3) := by decide +kernel
theorem dX4_countWorks_41 : decode cX4_countWorks 41 = .ok (.iinc 4 1, 3) := by decide +kernel
theorem dX4_countWorks_44 : decode cX4_countWorks 44 = .ok (.goto (-31), 3) := by decide +kernel
theorem dX4_countWorks_47 : decode cX4_countWorks 47 = .ok (.iload_n 1, 1) := by decide +kernel
theorem dX4_countWorks_48 : decode cX4_countWorks 48 = .ok (.ireturn, 1) := by decide +kernel
theorem dX4_countOpenObjections_0 : decode cX4_countOpenObjections 0 = .ok (.iconst 0, 1) := by decide +kernel
theorem dX4_countOpenObjections_1 : decode cX4_countOpenObjections 1 = .ok (.istore_n 2, 1) := by decide +kernel
theorem dX4_countOpenObjections_2 : decode cX4_countOpenObjections 2 = .ok (.aload_n 0, 1) := by decide +kernel
theorem dX4_countOpenObjections_3 : decode cX4_countOpenObjections 3 = .ok (.getfield 23, 3) := by decide +kernel
theorem dX4_countOpenObjections_6 : decode cX4_countOpenObjections 6 = .ok (.astore_n 3, 1) := by decide +kernel
theorem dX4_countOpenObjections_7 : decode cX4_countOpenObjections 7 = .ok (.aload_n 3, 1) := by decide +kernel
theorem dX4_countOpenObjections_8 : decode cX4_countOpenObjections 8 = .ok (.arraylength, 1) := by decide +kernel
theorem dX4_countOpenObjections_9 : decode cX4_countOpenObjections 9 = .ok (.istore 4, 2) := by decide +kernel
theorem dX4_countOpenObjections_11 : decode cX4_countOpenObjections 11 = .ok (.iconst 0, 1) := by decide +kernel
theorem dX4_countOpenObjections_12 : decode cX4_countOpenObjections 12 = .ok (.istore 5, 2) := by decide +kernel
theorem dX4_countOpenObjections_14 : decode cX4_countOpenObjections 14 = .ok (.iload 5, 2) := by decide +kernel
theorem dX4_countOpenObjections_16 : decode cX4_countOpenObjections 16 = .ok (.iload 4, 2) := by decide +kernel
theorem dX4_countOpenObjections_18 : decode cX4_countOpenObjections 18 = .ok (.if_icmp .ge 43, 3) := by decide +kernel
theorem dX4_countOpenObjections_21 : decode cX4_countOpenObjections 21 = .ok (.aload_n 3, 1) := by decide +kernel
theorem dX4_countOpenObjections_22 : decode cX4_countOpenObjections 22 = .ok (.iload 5, 2) := by decide +kernel
theorem dX4_countOpenObjections_24 : decode cX4_countOpenObjections 24 = .ok (.aaload, 1) := by decide +kernel
theorem dX4_countOpenObjections_25 : decode cX4_countOpenObjections 25 = .ok (.astore 6, 2) := by decide +kernel
theorem dX4_countOpenObjections_27 : decode cX4_countOpenObjections 27 = .ok (.aload 6, 2) := by decide +kernel
theorem dX4_countOpenObjections_29 : decode cX4_countOpenObjections 29 = .ok (.ifnull 26, 3) := by decide +kernel
theorem dX4_countOpenObjections_32 : decode cX4_countOpenObjections 32 = .ok (.aload 6, 2) := by decide +kernel
theorem dX4_countOpenObjections_34 : decode cX4_countOpenObjections 34 = .ok (.getfield 196, 3) := by decide +kernel
theorem dX4_countOpenObjections_37 : decode cX4_countOpenObjections 37 = .ok (.ifCond .eq 18, 3) := by decide +kernel
theorem dX4_countOpenObjections_40 : decode cX4_countOpenObjections 40 = .ok (.aload 6, 2) := by decide +kernel
theorem dX4_countOpenObjections_42 : decode cX4_countOpenObjections 42 = .ok (.getfield 178, 3) := by decide +kernel
theorem dX4_countOpenObjections_45 : decode cX4_countOpenObjections 45 = .ok (.aload_n 1, 1) := by decide +kernel
theorem dX4_countOpenObjections_46 : decode cX4_countOpenObjections 46 = .ok (.invokestatic 370, 3) := by decide +kernel
theorem dX4_countOpenObjections_49 : decode cX4_countOpenObjections 49 = .ok (.ifCond .eq 6, 3) := by decide +kernel
theorem dX4_countOpenObjections_52 : decode cX4_countOpenObjections 52 = .ok (.iinc 2 1, 3) := by decide +kernel
theorem dX4_countOpenObjections_55 : decode cX4_countOpenObjections 55 = .ok (.iinc 5 1, 3) := by decide +kernel
theorem dX4_countOpenObjections_58 : decode cX4_countOpenObjections 58 = .ok (.goto (-44), 3) := by decide +kernel
theorem dX4_countOpenObjections_61 : decode cX4_countOpenObjections 61 = .ok (.iload_n 2, 1) := by decide +kernel
theorem dX4_countOpenObjections_62 : decode cX4_countOpenObjections 62 = .ok (.ireturn, 1) := by decide +kernel
theorem dX4_lowestThatStops_0 : decode cX4_lowestThatStops 0 = .ok (.aload_n 0, 1) := by decide +kernel
theorem dX4_lowestThatStops_1 : decode cX4_lowestThatStops 1 = .ok (.getfield 23, 3) := by decide +kernel
theorem dX4_lowestThatStops_4 : decode cX4_lowestThatStops 4 = .ok (.astore_n 2, 1) := by decide +kernel
theorem dX4_lowestThatStops_5 : decode cX4_lowestThatStops 5 = .ok (.aload_n 2, 1) := by decide +kernel
theorem dX4_lowestThatStops_6 : decode cX4_lowestThatStops 6 = .ok (.arraylength, 1) := by decide +kernel
theorem dX4_lowestThatStops_7 : decode cX4_lowestThatStops 7 = .ok (.istore_n 3, 1) := by decide +kernel
theorem dX4_lowestThatStops_8 : decode cX4_lowestThatStops 8 = .ok (.iconst 0, 1) := by decide +kernel
theorem dX4_lowestThatStops_9 : decode cX4_lowestThatStops 9 = .ok (.istore 4, 2) := by decide +kernel
theorem dX4_lowestThatStops_11 : decode cX4_lowestThatStops 11 = .ok (.iload 4, 2) := by decide +kernel
theorem dX4_lowestThatStops_13 : decode cX4_lowestThatStops 13 = .ok (.iload_n 3, 1) := by decide +kernel
theorem dX4_lowestThatStops_14 : decode cX4_lowestThatStops 14 = .ok (.if_icmp .ge 44, 3) := by decide +kernel
theorem dX4_lowestThatStops_17 : decode cX4_lowestThatStops 17 = .ok (.aload_n 2, 1) := by decide +kernel
theorem dX4_lowestThatStops_18 : decode cX4_lowestThatStops 18 = .ok (.iload 4, 2) := by decide +kernel
theorem dX4_lowestThatStops_20 : decode cX4_lowestThatStops 20 = .ok (.aaload, 1) := by decide +kernel
theorem dX4_lowestThatStops_21 : decode cX4_lowestThatStops 21 = .ok (.astore 5, 2) := by decide +kernel
theorem dX4_lowestThatStops_23 : decode cX4_lowestThatStops 23 = .ok (.aload 5, 2) := by decide +kernel
theorem dX4_lowestThatStops_25 : decode cX4_lowestThatStops 25 = .ok (.ifnull 27, 3) := by decide +kernel
theorem dX4_lowestThatStops_28 : decode cX4_lowestThatStops 28 = .ok (.aload 5, 2) := by decide +kernel
theorem dX4_lowestThatStops_30 : decode cX4_lowestThatStops 30 = .ok (.getfield 178, 3) := by decide +kernel
theorem dX4_lowestThatStops_33 : decode cX4_lowestThatStops 33 = .ok (.aload_n 1, 1) := by decide +kernel
theorem dX4_lowestThatStops_34 : decode cX4_lowestThatStops 34 = .ok (.invokestatic 370, 3) := by decide +kernel
theorem dX4_lowestThatStops_37 : decode cX4_lowestThatStops 37 = .ok (.ifCond .eq 15, 3) := by decide +kernel
theorem dX4_lowestThatStops_40 : decode cX4_lowestThatStops 40 = .ok (.aload_n 0, 1) := by decide +kernel
theorem dX4_lowestThatStops_41 : decode cX4_lowestThatStops 41 = .ok (.aload 5, 2) := by decide +kernel
theorem dX4_lowestThatStops_43 : decode cX4_lowestThatStops 43 = .ok (.invokevirtual 373, 3) := by decide +kernel
theorem dX4_lowestThatStops_46 : decode cX4_lowestThatStops 46 = .ok (.ifCond .eq 6, 3) := by decide +kernel
theorem dX4_lowestThatStops_49 : decode cX4_lowestThatStops 49 = .ok (.aload 5, 2) := by decide +kernel
theorem dX4_lowestThatStops_51 : decode cX4_lowestThatStops 51 = .ok (.areturn, 1) := by decide +kernel
theorem dX4_lowestThatStops_52 : decode cX4_lowestThatStops 52 = .ok (.iinc 4 1, 3) := by decide +kernel
theorem dX4_lowestThatStops_55 : decode cX4_lowestThatStops 55 = .ok (.goto (-44), 3) := by decide +kernel
theorem dX4_lowestThatStops_58 : decode cX4_lowestThatStops 58 = .ok (.aconst_null, 1) := by decide +kernel
theorem dX4_lowestThatStops_59 : decode cX4_lowestThatStops 59 = .ok (.areturn, 1) := by decide +kernel
theorem dX4_stops_0 : decode cX4_stops 0 = .ok (.aload_n 1, 1) := by decide +kernel
theorem dX4_stops_1 : decode cX4_stops 1 = .ok (.ifnull 14, 3) := by decide +kernel
theorem dX4_stops_4 : decode cX4_stops 4 = .ok (.aload_n 1, 1) := by decide +kernel
theorem dX4_stops_5 : decode cX4_stops 5 = .ok (.aload_n 0, 1) := by decide +kernel
theorem dX4_stops_6 : decode cX4_stops 6 = .ok (.getfield 84, 3) := by decide +kernel
theorem dX4_stops_9 : decode cX4_stops 9 = .ok (.invokestatic 377, 3) := by decide +kernel
theorem dX4_stops_12 : decode cX4_stops 12 = .ok (.ifCond .eq 5, 3) := by decide +kernel
theorem dX4_stops_15 : decode cX4_stops 15 = .ok (.iconst 0, 1) := by decide +kernel
theorem dX4_stops_16 : decode cX4_stops 16 = .ok (.ireturn, 1) := by decide +kernel
theorem dX4_stops_17 : decode cX4_stops 17 = .ok (.aload_n 1, 1) := by decide +kernel
theorem dX4_stops_18 : decode cX4_stops 18 = .ok (.getfield 193, 3) := by decide +kernel
theorem dX4_stops_21 : decode cX4_stops 21 = .ok (.iconst (-1), 1) := by decide +kernel
theorem dX4_stops_22 : decode cX4_stops 22 = .ok (.if_icmp .eq 24, 3) := by decide +kernel
theorem dX4_stops_25 : decode cX4_stops 25 = .ok (.aload_n 0, 1) := by decide +kernel
theorem dX4_stops_26 : decode cX4_stops 26 = .ok (.getfield 84, 3) := by decide +kernel
theorem dX4_stops_29 : decode cX4_stops 29 = .ok (.aload_n 1, 1) := by decide +kernel
theorem dX4_stops_30 : decode cX4_stops 30 = .ok (.getfield 193, 3) := by decide +kernel
theorem dX4_stops_33 : decode cX4_stops 33 = .ok (.isub, 1) := by decide +kernel
theorem dX4_stops_34 : decode cX4_stops 34 = .ok (.bipush 21, 2) := by decide +kernel
theorem dX4_stops_36 : decode cX4_stops 36 = .ok (.if_icmp .lt 10, 3) := by decide +kernel
theorem dX4_stops_39 : decode cX4_stops 39 = .ok (.aload_n 1, 1) := by decide +kernel
theorem dX4_stops_40 : decode cX4_stops 40 = .ok (.getfield 196, 3) := by decide +kernel
theorem dX4_stops_43 : decode cX4_stops 43 = .ok (.ifCond .eq 7, 3) := by decide +kernel
theorem dX4_stops_46 : decode cX4_stops 46 = .ok (.iconst 1, 1) := by decide +kernel
theorem dX4_stops_47 : decode cX4_stops 47 = .ok (.goto 4, 3) := by decide +kernel
theorem dX4_stops_50 : decode cX4_stops 50 = .ok (.iconst 0, 1) := by decide +kernel
theorem dX4_stops_51 : decode cX4_stops 51 = .ok (.ireturn, 1) := by decide +kernel
theorem dX4_release_0 : decode cX4_release 0 = .ok (.aload_n 1, 1) := by decide +kernel
theorem dX4_release_1 : decode cX4_release 1 = .ok (.ifnonnull 4, 3) := by decide +kernel
theorem dX4_release_4 : decode cX4_release 4 = .ok (.return_, 1) := by decide +kernel
theorem dX4_release_5 : decode cX4_release 5 = .ok (.aload_n 1, 1) := by decide +kernel
theorem dX4_release_6 : decode cX4_release 6 = .ok (.aconst_null, 1) := by decide +kernel
theorem dX4_release_7 : decode cX4_release 7 = .ok (.putfield 230, 3) := by decide +kernel
theorem dX4_release_10 : decode cX4_release 10 = .ok (.aload_n 1, 1) := by decide +kernel
theorem dX4_release_11 : decode cX4_release 11 = .ok (.iconst 0, 1) := by decide +kernel
theorem dX4_release_12 : decode cX4_release 12 = .ok (.putfield 123, 3) := by decide +kernel
theorem dX4_release_15 : decode cX4_release 15 = .ok (.aload_n 0, 1) := by decide +kernel
theorem dX4_release_16 : decode cX4_release 16 = .ok (.getfield 23, 3) := by decide +kernel
theorem dX4_release_19 : decode cX4_release 19 = .ok (.astore_n 2, 1) := by decide +kernel
theorem dX4_release_20 : decode cX4_release 20 = .ok (.aload_n 2, 1) := by decide +kernel
theorem dX4_release_21 : decode cX4_release 21 = .ok (.arraylength, 1) := by decide +kernel
theorem dX4_release_22 : decode cX4_release 22 = .ok (.istore_n 3, 1) := by decide +kernel
theorem dX4_release_23 : decode cX4_release 23 = .ok (.iconst 0, 1) := by decide +kernel
theorem dX4_release_24 : decode cX4_release 24 = .ok (.istore 4, 2) := by decide +kernel
theorem dX4_release_26 : decode cX4_release 26 = .ok (.iload 4, 2) := by decide +kernel
theorem dX4_release_28 : decode cX4_release 28 = .ok (.iload_n 3, 1) := by decide +kernel
theorem dX4_release_29 : decode cX4_release 29 = .ok (.if_icmp .ge 47, 3) := by decide +kernel
theorem dX4_release_32 : decode cX4_release 32 = .ok (.aload_n 2, 1) := by decide +kernel
theorem dX4_release_33 : decode cX4_release 33 = .ok (.iload 4, 2) := by decide +kernel
theorem dX4_release_35 : decode cX4_release 35 = .ok (.aaload, 1) := by decide +kernel
theorem dX4_release_36 : decode cX4_release 36 = .ok (.astore 5, 2) := by decide +kernel
theorem dX4_release_38 : decode cX4_release 38 = .ok (.aload 5, 2) := by decide +kernel
theorem dX4_release_40 : decode cX4_release 40 = .ok (.ifnull 30, 3) := by decide +kernel
theorem dX4_release_43 : decode cX4_release 43 = .ok (.aload 5, 2) := by decide +kernel
theorem dX4_release_45 : decode cX4_release 45 = .ok (.getfield 178, 3) := by decide +kernel
theorem dX4_release_48 : decode cX4_release 48 = .ok (.aload_n 1, 1) := by decide +kernel
theorem dX4_release_49 : decode cX4_release 49 = .ok (.if_acmp .ne 21, 3) := by decide +kernel
theorem dX4_release_52 : decode cX4_release 52 = .ok (.aload 5, 2) := by decide +kernel
theorem dX4_release_54 : decode cX4_release 54 = .ok (.iconst (-1), 1) := by decide +kernel
theorem dX4_release_55 : decode cX4_release 55 = .ok (.putfield 193, 3) := by decide +kernel
theorem dX4_release_58 : decode cX4_release 58 = .ok (.aload 5, 2) := by decide +kernel
theorem dX4_release_60 : decode cX4_release 60 = .ok (.iconst 0, 1) := by decide +kernel
theorem dX4_release_61 : decode cX4_release 61 = .ok (.putfield 243, 3) := by decide +kernel
theorem dX4_release_64 : decode cX4_release 64 = .ok (.aload 5, 2) := by decide +kernel
theorem dX4_release_66 : decode cX4_release 66 = .ok (.iconst 0, 1) := by decide +kernel
theorem dX4_release_67 : decode cX4_release 67 = .ok (.putfield 196, 3) := by decide +kernel
theorem dX4_release_70 : decode cX4_release 70 = .ok (.iinc 4 1, 3) := by decide +kernel
theorem dX4_release_73 : decode cX4_release 73 = .ok (.goto (-47), 3) := by decide +kernel
theorem dX4_release_76 : decode cX4_release 76 = .ok (.return_, 1) := by decide +kernel
theorem dX4_letGo_0 : decode cX4_letGo 0 = .ok (.aload_n 1, 1) := by decide +kernel
theorem dX4_letGo_1 : decode cX4_letGo 1 = .ok (.ifnonnull 5, 3) := by decide +kernel
theorem dX4_letGo_4 : decode cX4_letGo 4 = .ok (.iconst 0, 1) := by decide +kernel
theorem dX4_letGo_5 : decode cX4_letGo 5 = .ok (.ireturn, 1) := by decide +kernel
theorem dX4_letGo_6 : decode cX4_letGo 6 = .ok (.aload_n 1, 1) := by decide +kernel
theorem dX4_letGo_7 : decode cX4_letGo 7 = .ok (.getfield 63, 3) := by decide +kernel
theorem dX4_letGo_10 : decode cX4_letGo 10 = .ok (.ifCond .ne 10, 3) := by decide +kernel
theorem dX4_letGo_13 : decode cX4_letGo 13 = .ok (.aload_n 0, 1) := by decide +kernel
theorem dX4_letGo_14 : decode cX4_letGo 14 = .ok (.aload_n 1, 1) := by decide +kernel
theorem dX4_letGo_15 : decode cX4_letGo 15 = .ok (.invokevirtual 253, 3) := by decide +kernel
theorem dX4_letGo_18 : decode cX4_letGo 18 = .ok (.iconst 0, 1) := by decide +kernel
theorem dX4_letGo_19 : decode cX4_letGo 19 = .ok (.ireturn, 1) := by decide +kernel
theorem dX4_letGo_20 : decode cX4_letGo 20 = .ok (.aload_n 1, 1) := by decide +kernel
theorem dX4_letGo_21 : decode cX4_letGo 21 = .ok (.getfield 129, 3) := by decide +kernel
theorem dX4_letGo_24 : decode cX4_letGo 24 = .ok (.ifCond .eq 5, 3) := by decide +kernel
theorem dX4_letGo_27 : decode cX4_letGo 27 = .ok (.iconst 0, 1) := by decide +kernel
theorem dX4_letGo_28 : decode cX4_letGo 28 = .ok (.ireturn, 1) := by decide +kernel
theorem dX4_letGo_29 : decode cX4_letGo 29 = .ok (.aload_n 1, 1) := by decide +kernel
theorem dX4_letGo_30 : decode cX4_letGo 30 = .ok (.aload_n 0, 1) := by decide +kernel
theorem dX4_letGo_31 : decode cX4_letGo 31 = .ok (.aload_n 1, 1) := by decide +kernel
theorem dX4_letGo_32 : decode cX4_letGo 32 = .ok (.aconst_null, 1) := by decide +kernel
theorem dX4_letGo_33 : decode cX4_letGo 33 = .ok (.invokevirtual 333, 3) := by decide +kernel
theorem dX4_letGo_36 : decode cX4_letGo 36 = .ok (.aload_n 0, 1) := by decide +kernel
theorem dX4_letGo_37 : decode cX4_letGo 37 = .ok (.aload_n 1, 1) := by decide +kernel
theorem dX4_letGo_38 : decode cX4_letGo 38 = .ok (.invokevirtual 101, 3) := by decide +kernel
theorem dX4_letGo_41 : decode cX4_letGo 41 = .ok (.aload_n 1, 1) := by decide +kernel
theorem dX4_letGo_42 : decode cX4_letGo 42 = .ok (.getfield 123, 3) := by decide +kernel
theorem dX4_letGo_45 : decode cX4_letGo 45 = .ok (.invokestatic 105, 3) := by decide +kernel
theorem dX4_letGo_48 : decode cX4_letGo 48 = .ok (.invokestatic 337, 3) := by decide +kernel
theorem dX4_letGo_51 : decode cX4_letGo 51 = .ok (.aload_n 1, 1) := by decide +kernel
theorem dX4_letGo_52 : decode cX4_letGo 52 = .ok (.getfield 133, 3) := by decide +kernel
theorem dX4_letGo_55 : decode cX4_letGo 55 = .ok (.ifnull 7, 3) := by decide +kernel
theorem dX4_letGo_58 : decode cX4_letGo 58 = .ok (.iconst 1, 1) := by decide +kernel
theorem dX4_letGo_59 : decode cX4_letGo 59 = .ok (.goto 4, 3) := by decide +kernel
theorem dX4_letGo_62 : decode cX4_letGo 62 = .ok (.iconst 0, 1) := by decide +kernel
theorem dX4_letGo_63 : decode cX4_letGo 63 = .ok (.ireturn, 1) := by decide +kernel
theorem dX4_canTellInterest_0 : decode cX4_canTellInterest 0 = .ok (.aload_n 1, 1) := by decide +kernel
theorem dX4_canTellInterest_1 : decode cX4_canTellInterest 1 = .ok (.ifnull 33, 3) := by decide +kernel
theorem dX4_canTellInterest_4 : decode cX4_canTellInterest 4 = .ok (.aload_n 1, 1) := by decide +kernel
theorem dX4_canTellInterest_5 : decode cX4_canTellInterest 5 = .ok (.getfield 63, 3) := by decide +kernel
theorem dX4_canTellInterest_8 : decode cX4_canTellInterest 8 = .ok (.ifCond .ne 26, 3) := by decide +kernel
theorem dX4_canTellInterest_11 : decode cX4_canTellInterest 11 = .ok (.aload_n 0, 1) := by decide +kernel
theorem dX4_canTellInterest_12 : decode cX4_canTellInterest 12 = .ok (.getfield 381, 3) := by decide +kernel
theorem dX4_canTellInterest_15 : decode cX4_canTellInterest 15 = .ok (.ifCond .lt 19, 3) := by decide +kernel
theorem dX4_canTellInterest_18 : decode cX4_canTellInterest 18 = .ok (.aload_n 0, 1) := by decide +kernel
theorem dX4_canTellInterest_19 : decode cX4_canTellInterest 19 = .ok (.getfield 381, 3) := by decide +kernel
theorem dX4_canTellInterest_22 : decode cX4_canTellInterest 22 = .ok (.aload_n 0, 1) := by decide +kernel
theorem dX4_canTellInterest_23 : decode cX4_canTellInterest 23 = .ok (.getfield 23, 3) := by decide +kernel
theorem dX4_canTellInterest_26 : decode cX4_canTellInterest 26 = .ok (.arraylength, 1) := by decide +kernel
theorem dX4_canTellInterest_27 : decode cX4_canTellInterest 27 = .ok (.if_icmp .ge 7, 3) := by decide +kernel
theorem dX4_canTellInterest_30 : decode cX4_canTellInterest 30 = .ok (.iconst 1, 1) := by decide +kernel
theorem dX4_canTellInterest_31 : decode cX4_canTellInterest 31 = .ok (.goto 4, 3) := by decide +kernel
theorem dX4_canTellInterest_34 : decode cX4_canTellInterest 34 = .ok (.iconst 0, 1) := by decide +kernel
theorem dX4_canTellInterest_35 : decode cX4_canTellInterest 35 = .ok (.ireturn, 1) := by decide +kernel
theorem dX4_tellInterest_0 : decode cX4_tellInterest 0 = .ok (.aload_n 0, 1) := by decide +kernel
theorem dX4_tellInterest_1 : decode cX4_tellInterest 1 = .ok (.getfield 381, 3) := by decide +kernel
theorem dX4_tellInterest_4 : decode cX4_tellInterest 4 = .ok (.istore 6, 2) := by decide +kernel
theorem dX4_tellInterest_6 : decode cX4_tellInterest 6 = .ok (.iload 6, 2) := by decide +kernel
theorem dX4_tellInterest_8 : decode cX4_tellInterest 8 = .ok (.ifCond .lt 13, 3) := by decide +kernel
theorem dX4_tellInterest_11 : decode cX4_tellInterest 11 = .ok (.iload 6, 2) := by decide +kernel
theorem dX4_tellInterest_13 : decode cX4_tellInterest 13 = .ok (.aload_n 0, 1) := by decide +kernel
theorem dX4_tellInterest_14 : decode cX4_tellInterest 14 = .ok (.getfield 23, 3) := by decide +kernel
theorem dX4_tellInterest_17 : decode cX4_tellInterest 17 = .ok (.arraylength, 1) := by decide +kernel
theorem dX4_tellInterest_18 : decode cX4_tellInterest 18 = .ok (.if_icmp .lt 5, 3) := by decide +kernel
theorem dX4_tellInterest_21 : decode cX4_tellInterest 21 = .ok (.iconst (-1), 1) := by decide +kernel
theorem dX4_tellInterest_22 : decode cX4_tellInterest 22 = .ok (.ireturn, 1) := by decide +kernel
theorem dX4_tellInterest_23 : decode cX4_tellInterest 23 = .ok (.aload_n 0, 1) := by decide +kernel
theorem dX4_tellInterest_24 : decode cX4_tellInterest 24 = .ok (.getfield 23, 3) := by decide +kernel
theorem dX4_tellInterest_27 : decode cX4_tellInterest 27 = .ok (.iload 6, 2) := by decide +kernel
theorem dX4_tellInterest_29 : decode cX4_tellInterest 29 = .ok (.new 21, 3) := by decide +kernel
theorem dX4_tellInterest_32 : decode cX4_tellInterest 32 = .ok (.dup, 1) := by decide +kernel
theorem dX4_tellInterest_33 : decode cX4_tellInterest 33 = .ok (.iload 6, 2) := by decide +kernel
theorem dX4_tellInterest_35 : decode cX4_tellInterest 35 = .ok (.iload_n 1, 1) := by decide +kernel
theorem dX4_tellInterest_36 : decode cX4_tellInterest 36 = .ok (.aload_n 2, 1) := by decide +kernel
theorem dX4_tellInterest_37 : decode cX4_tellInterest 37 = .ok (.iload_n 3, 1) := by decide +kernel
theorem dX4_tellInterest_38 : decode cX4_tellInterest 38 = .ok (.aload_n 0, 1) := by decide +kernel
theorem dX4_tellInterest_39 : decode cX4_tellInterest 39 = .ok (.getfield 84, 3) := by decide +kernel
theorem dX4_tellInterest_42 : decode cX4_tellInterest 42 = .ok (.iload 4, 2) := by decide +kernel
theorem dX4_tellInterest_44 : decode cX4_tellInterest 44 = .ok (.iload 5, 2) := by decide +kernel
theorem dX4_tellInterest_46 : decode cX4_tellInterest 46 = .ok (.invokespecial 384, 3) := by decide +kernel
theorem dX4_tellInterest_49 : decode cX4_tellInterest 49 = .ok (.aastore, 1) := by decide +kernel
theorem dX4_tellInterest_50 : decode cX4_tellInterest 50 = .ok (.aload_n 0, 1) := by decide +kernel
theorem dX4_tellInterest_51 : decode cX4_tellInterest 51 = .ok (.iload 6, 2) := by decide +kernel
theorem dX4_tellInterest_53 : decode cX4_tellInterest 53 = .ok (.iconst 1, 1) := by decide +kernel
theorem dX4_tellInterest_54 : decode cX4_tellInterest 54 = .ok (.iadd, 1) := by decide +kernel
theorem dX4_tellInterest_55 : decode cX4_tellInterest 55 = .ok (.putfield 381, 3) := by decide +kernel
theorem dX4_tellInterest_58 : decode cX4_tellInterest 58 = .ok (.iload 6, 2) := by decide +kernel
theorem dX4_tellInterest_60 : decode cX4_tellInterest 60 = .ok (.ireturn, 1) := by decide +kernel
theorem dX4_sharesOf_0 : decode cX4_sharesOf 0 = .ok (.iconst 0, 1) := by decide +kernel
theorem dX4_sharesOf_1 : decode cX4_sharesOf 1 = .ok (.istore_n 2, 1) := by decide +kernel
theorem dX4_sharesOf_2 : decode cX4_sharesOf 2 = .ok (.aload_n 0, 1) := by decide +kernel
theorem dX4_sharesOf_3 : decode cX4_sharesOf 3 = .ok (.getfield 23, 3) := by decide +kernel
theorem dX4_sharesOf_6 : decode cX4_sharesOf 6 = .ok (.astore_n 3, 1) := by decide +kernel
theorem dX4_sharesOf_7 : decode cX4_sharesOf 7 = .ok (.aload_n 3, 1) := by decide +kernel
theorem dX4_sharesOf_8 : decode cX4_sharesOf 8 = .ok (.arraylength, 1) := by decide +kernel
theorem dX4_sharesOf_9 : decode cX4_sharesOf 9 = .ok (.istore 4, 2) := by decide +kernel
theorem dX4_sharesOf_11 : decode cX4_sharesOf 11 = .ok (.iconst 0, 1) := by decide +kernel
theorem dX4_sharesOf_12 : decode cX4_sharesOf 12 = .ok (.istore 5, 2) := by decide +kernel
theorem dX4_sharesOf_14 : decode cX4_sharesOf 14 = .ok (.iload 5, 2) := by decide +kernel
theorem dX4_sharesOf_16 : decode cX4_sharesOf 16 = .ok (.iload 4, 2) := by decide +kernel
theorem dX4_sharesOf_18 : decode cX4_sharesOf 18 = .ok (.if_icmp .ge 45, 3) := by decide +kernel
theorem dX4_sharesOf_21 : decode cX4_sharesOf 21 = .ok (.aload_n 3, 1) := by decide +kernel
theorem dX4_sharesOf_22 : decode cX4_sharesOf 22 = .ok (.iload 5, 2) := by decide +kernel
theorem dX4_sharesOf_24 : decode cX4_sharesOf 24 = .ok (.aaload, 1) := by decide +kernel
theorem dX4_sharesOf_25 : decode cX4_sharesOf 25 = .ok (.astore 6, 2) := by decide +kernel
theorem dX4_sharesOf_27 : decode cX4_sharesOf 27 = .ok (.aload 6, 2) := by decide +kernel
theorem dX4_sharesOf_29 : decode cX4_sharesOf 29 = .ok (.ifnull 28, 3) := by decide +kernel
theorem dX4_sharesOf_32 : decode cX4_sharesOf 32 = .ok (.aload 6, 2) := by decide +kernel
theorem dX4_sharesOf_34 : decode cX4_sharesOf 34 = .ok (.getfield 175, 3) := by decide +kernel
theorem dX4_sharesOf_37 : decode cX4_sharesOf 37 = .ok (.ifCond .ne 20, 3) := by decide +kernel
theorem dX4_sharesOf_40 : decode cX4_sharesOf 40 = .ok (.aload 6, 2) := by decide +kernel
theorem dX4_sharesOf_42 : decode cX4_sharesOf 42 = .ok (.getfield 178, 3) := by decide +kernel
theorem dX4_sharesOf_45 : decode cX4_sharesOf 45 = .ok (.aload_n 1, 1) := by decide +kernel
theorem dX4_sharesOf_46 : decode cX4_sharesOf 46 = .ok (.if_acmp .ne 11, 3) := by decide +kernel
theorem dX4_sharesOf_49 : decode cX4_sharesOf 49 = .ok (.iload_n 2, 1) := by decide +kernel
theorem dX4_sharesOf_50 : decode cX4_sharesOf 50 = .ok (.aload 6, 2) := by decide +kernel
theorem dX4_sharesOf_52 : decode cX4_sharesOf 52 = .ok (.getfield 190, 3) := by decide +kernel
theorem dX4_sharesOf_55 : decode cX4_sharesOf 55 = .ok (.iadd, 1) := by decide +kernel
theorem dX4_sharesOf_56 : decode cX4_sharesOf 56 = .ok (.istore_n 2, 1) := by decide +kernel
theorem dX4_sharesOf_57 : decode cX4_sharesOf 57 = .ok (.iinc 5 1, 3) := by decide +kernel
theorem dX4_sharesOf_60 : decode cX4_sharesOf 60 = .ok (.goto (-46), 3) := by decide +kernel
theorem dX4_sharesOf_63 : decode cX4_sharesOf 63 = .ok (.iload_n 2, 1) := by decide +kernel
theorem dX4_sharesOf_64 : decode cX4_sharesOf 64 = .ok (.ireturn, 1) := by decide +kernel
theorem dX4_isOver_0 : decode cX4_isOver 0 = .ok (.aload_n 0, 1) := by decide +kernel
theorem dX4_isOver_1 : decode cX4_isOver 1 = .ok (.ifnull 23, 3) := by decide +kernel
theorem dX4_isOver_4 : decode cX4_isOver 4 = .ok (.aload_n 0, 1) := by decide +kernel
theorem dX4_isOver_5 : decode cX4_isOver 5 = .ok (.getfield 175, 3) := by decide +kernel
theorem dX4_isOver_8 : decode cX4_isOver 8 = .ok (.iconst 1, 1) := by decide +kernel
theorem dX4_isOver_9 : decode cX4_isOver 9 = .ok (.if_icmp .ne 15, 3) := by decide +kernel
theorem dX4_isOver_12 : decode cX4_isOver 12 = .ok (.iload_n 1, 1) := by decide +kernel
theorem dX4_isOver_13 : decode cX4_isOver 13 = .ok (.aload_n 0, 1) := by decide +kernel
theorem dX4_isOver_14 : decode cX4_isOver 14 = .ok (.getfield 190, 3) := by decide +kernel
theorem dX4_isOver_17 : decode cX4_isOver 17 = .ok (.if_icmp .lt 7, 3) := by decide +kernel
theorem dX4_isOver_20 : decode cX4_isOver 20 = .ok (.iconst 1, 1) := by decide +kernel
theorem dX4_isOver_21 : decode cX4_isOver 21 = .ok (.goto 4, 3) := by decide +kernel
theorem dX4_isOver_24 : decode cX4_isOver 24 = .ok (.iconst 0, 1) := by decide +kernel
theorem dX4_isOver_25 : decode cX4_isOver 25 = .ok (.ireturn, 1) := by decide +kernel
theorem dX4_wasTaken_0 : decode cX4_wasTaken 0 = .ok (.aload_n 0, 1) := by decide +kernel
theorem dX4_wasTaken_1 : decode cX4_wasTaken 1 = .ok (.ifnull 15, 3) := by decide +kernel
theorem dX4_wasTaken_4 : decode cX4_wasTaken 4 = .ok (.aload_n 0, 1) := by decide +kernel
theorem dX4_wasTaken_5 : decode cX4_wasTaken 5 = .ok (.getfield 126, 3) := by decide +kernel
theorem dX4_wasTaken_8 : decode cX4_wasTaken 8 = .ok (.iconst (-1), 1) := by decide +kernel
theorem dX4_wasTaken_9 : decode cX4_wasTaken 9 = .ok (.if_icmp .eq 7, 3) := by decide +kernel
theorem dX4_wasTaken_12 : decode cX4_wasTaken 12 = .ok (.iconst 1, 1) := by decide +kernel
theorem dX4_wasTaken_13 : decode cX4_wasTaken 13 = .ok (.goto 4, 3) := by decide +kernel
theorem dX4_wasTaken_16 : decode cX4_wasTaken 16 = .ok (.iconst 0, 1) := by decide +kernel
theorem dX4_wasTaken_17 : decode cX4_wasTaken 17 = .ok (.ireturn, 1) := by decide +kernel
theorem dX4_take_0 : decode cX4_take 0 = .ok (.aload_n 1, 1) := by decide +kernel
theorem dX4_take_1 : decode cX4_take 1 = .ok (.ifnonnull 5, 3) := by decide +kernel
theorem dX4_take_4 : decode cX4_take 4 = .ok (.iconst 0, 1) := by decide +kernel
theorem dX4_take_5 : decode cX4_take 5 = .ok (.ireturn, 1) := by decide +kernel
theorem dX4_take_6 : decode cX4_take 6 = .ok (.aload_n 1, 1) := by decide +kernel
theorem dX4_take_7 : decode cX4_take 7 = .ok (.iconst 1, 1) := by decide +kernel
theorem dX4_take_8 : decode cX4_take 8 = .ok (.putfield 63, 3) := by decide +kernel
theorem dX4_take_11 : decode cX4_take 11 = .ok (.aload_n 1, 1) := by decide +kernel
theorem dX4_take_12 : decode cX4_take 12 = .ok (.aload_n 0, 1) := by decide +kernel
theorem dX4_take_13 : decode cX4_take 13 = .ok (.getfield 84, 3) := by decide +kernel
theorem dX4_take_16 : decode cX4_take 16 = .ok (.putfield 126, 3) := by decide +kernel
theorem dX4_take_19 : decode cX4_take 19 = .ok (.aload_n 1, 1) := by decide +kernel
theorem dX4_take_20 : decode cX4_take 20 = .ok (.aload_n 0, 1) := by decide +kernel
theorem dX4_take_21 : decode cX4_take 21 = .ok (.aload_n 1, 1) := by decide +kernel
theorem dX4_take_22 : decode cX4_take 22 = .ok (.getfield 79, 3) := by decide +kernel
theorem dX4_take_25 : decode cX4_take 25 = .ok (.aload_n 0, 1) := by decide +kernel
theorem dX4_take_26 : decode cX4_take 26 = .ok (.getfield 84, 3) := by decide +kernel
theorem dX4_take_29 : decode cX4_take 29 = .ok (.invokevirtual 87, 3) := by decide +kernel
theorem dX4_take_32 : decode cX4_take 32 = .ok (.putfield 387, 3) := by decide +kernel
theorem dX4_take_35 : decode cX4_take 35 = .ok (.aload_n 1, 1) := by decide +kernel
theorem dX4_take_36 : decode cX4_take 36 = .ok (.invokestatic 303, 3) := by decide +kernel
theorem dX4_take_39 : decode cX4_take 39 = .ok (.istore_n 2, 1) := by decide +kernel
theorem dX4_take_40 : decode cX4_take 40 = .ok (.aload_n 0, 1) := by decide +kernel
theorem dX4_take_41 : decode cX4_take 41 = .ok (.getfield 23, 3) := by decide +kernel
theorem dX4_take_44 : decode cX4_take 44 = .ok (.astore_n 3, 1) := by decide +kernel
theorem dX4_take_45 : decode cX4_take 45 = .ok (.aload_n 3, 1) := by decide +kernel
theorem dX4_take_46 : decode cX4_take 46 = .ok (.arraylength, 1) := by decide +kernel
theorem dX4_take_47 : decode cX4_take 47 = .ok (.istore 4, 2) := by decide +kernel
theorem dX4_take_49 : decode cX4_take 49 = .ok (.iconst 0, 1) := by decide +kernel
theorem dX4_take_50 : decode cX4_take 50 = .ok (.istore 5, 2) := by decide +kernel
theorem dX4_take_52 : decode cX4_take 52 = .ok (.iload 5, 2) := by decide +kernel
theorem dX4_take_54 : decode cX4_take 54 = .ok (.iload 4, 2) := by decide +kernel
theorem dX4_take_56 : decode cX4_take 56 = .ok (.if_icmp .ge 55, 3) := by decide +kernel
theorem dX4_take_59 : decode cX4_take 59 = .ok (.aload_n 3, 1) := by decide +kernel
theorem dX4_take_60 : decode cX4_take 60 = .ok (.iload 5, 2) := by decide +kernel
theorem dX4_take_62 : decode cX4_take 62 = .ok (.aaload, 1) := by decide +kernel
theorem dX4_take_63 : decode cX4_take 63 = .ok (.astore 6, 2) := by decide +kernel
theorem dX4_take_65 : decode cX4_take 65 = .ok (.aload 6, 2) := by decide +kernel
theorem dX4_take_67 : decode cX4_take 67 = .ok (.ifnull 38, 3) := by decide +kernel
theorem dX4_take_70 : decode cX4_take 70 = .ok (.aload 6, 2) := by decide +kernel
theorem dX4_take_72 : decode cX4_take 72 = .ok (.getfield 178, 3) := by decide +kernel
theorem dX4_take_75 : decode cX4_take 75 = .ok (.aload_n 1, 1) := by decide +kernel
theorem dX4_take_76 : decode cX4_take 76 = .ok (.if_acmp .ne 29, 3) := by decide +kernel
theorem dX4_take_79 : decode cX4_take 79 = .ok (.aload 6, 2) := by decide +kernel
theorem dX4_take_81 : decode cX4_take 81 = .ok (.aload_n 0, 1) := by decide +kernel
theorem dX4_take_82 : decode cX4_take 82 = .ok (.aload 6, 2) := by decide +kernel
theorem dX4_take_84 : decode cX4_take 84 = .ok (.iload_n 2, 1) := by decide +kernel
theorem dX4_take_85 : decode cX4_take 85 = .ok (.invokevirtual 306, 3) := by decide +kernel
theorem dX4_take_88 : decode cX4_take 88 = .ok (.putfield 199, 3) := by decide +kernel
theorem dX4_take_91 : decode cX4_take 91 = .ok (.aload_n 0, 1) := by decide +kernel
theorem dX4_take_92 : decode cX4_take 92 = .ok (.dup, 1) := by decide +kernel
theorem dX4_take_93 : decode cX4_take 93 = .ok (.getfield 348, 3) := by decide +kernel
theorem dX4_take_96 : decode cX4_take 96 = .ok (.aload 6, 2) := by decide +kernel
theorem dX4_take_98 : decode cX4_take 98 = .ok (.getfield 199, 3) := by decide +kernel
theorem dX4_take_101 : decode cX4_take 101 = .ok (.ladd, 1) := by decide +kernel
theorem dX4_take_102 : decode cX4_take 102 = .ok (.putfield 348, 3) := by decide +kernel
theorem dX4_take_105 : decode cX4_take 105 = .ok (.iinc 5 1, 3) := by decide +kernel
theorem dX4_take_108 : decode cX4_take 108 = .ok (.goto (-56), 3) := by decide +kernel
theorem dX4_take_111 : decode cX4_take 111 = .ok (.aload_n 0, 1) := by decide +kernel
theorem dX4_take_112 : decode cX4_take 112 = .ok (.dup, 1) := by decide +kernel
theorem dX4_take_113 : decode cX4_take 113 = .ok (.getfield 351, 3) := by decide +kernel
theorem dX4_take_116 : decode cX4_take 116 = .ok (.aload_n 0, 1) := by decide +kernel
theorem dX4_take_117 : decode cX4_take 117 = .ok (.aload_n 1, 1) := by decide +kernel
theorem dX4_take_118 : decode cX4_take 118 = .ok (.iload_n 2, 1) := by decide +kernel
theorem dX4_take_119 : decode cX4_take 119 = .ok (.invokevirtual 390, 3) := by decide +kernel
theorem dX4_take_122 : decode cX4_take 122 = .ok (.i2l, 1) := by decide +kernel
theorem dX4_take_123 : decode cX4_take 123 = .ok (.ladd, 1) := by decide +kernel
theorem dX4_take_124 : decode cX4_take 124 = .ok (.putfield 351, 3) := by decide +kernel
theorem dX4_take_127 : decode cX4_take 127 = .ok (.aload_n 0, 1) := by decide +kernel
theorem dX4_take_128 : decode cX4_take 128 = .ok (.dup, 1) := by decide +kernel
theorem dX4_take_129 : decode cX4_take 129 = .ok (.getfield 354, 3) := by decide +kernel
theorem dX4_take_132 : decode cX4_take 132 = .ok (.iload_n 2, 1) := by decide +kernel
theorem dX4_take_133 : decode cX4_take 133 = .ok (.i2l, 1) := by decide +kernel
theorem dX4_take_134 : decode cX4_take 134 = .ok (.ladd, 1) := by decide +kernel
theorem dX4_take_135 : decode cX4_take 135 = .ok (.putfield 354, 3) := by decide +kernel
theorem dX4_take_138 : decode cX4_take 138 = .ok (.iload_n 2, 1) := by decide +kernel
theorem dX4_take_139 : decode cX4_take 139 = .ok (.ireturn, 1) := by decide +kernel
theorem dX4_landOf_0 : decode cX4_landOf 0 = .ok (.aload_n 0, 1) := by decide +kernel
theorem dX4_landOf_1 : decode cX4_landOf 1 = .ok (.ifnonnull 7, 3) := by decide +kernel
theorem dX4_landOf_4 : decode cX4_landOf 4 = .ok (.aconst_null, 1) := by decide +kernel
theorem dX4_landOf_5 : decode cX4_landOf 5 = .ok (.goto 7, 3) := by decide +kernel
theorem dX4_landOf_8 : decode cX4_landOf 8 = .ok (.aload_n 0, 1) := by decide +kernel
theorem dX4_landOf_9 : decode cX4_landOf 9 = .ok (.getfield 230, 3) := by decide +kernel
theorem dX4_landOf_12 : decode cX4_landOf 12 = .ok (.astore_n 1, 1) := by decide +kernel
theorem dX4_landOf_13 : decode cX4_landOf 13 = .ok (.aload_n 0, 1) := by decide +kernel
theorem dX4_landOf_14 : decode cX4_landOf 14 = .ok (.ifnull 7, 3) := by decide +kernel
theorem dX4_landOf_17 : decode cX4_landOf 17 = .ok (.aload_n 1, 1) := by decide +kernel
theorem dX4_landOf_18 : decode cX4_landOf 18 = .ok (.ifnonnull 5, 3) := by decide +kernel
theorem dX4_landOf_21 : decode cX4_landOf 21 = .ok (.iconst 0, 1) := by decide +kernel
theorem dX4_landOf_22 : decode cX4_landOf 22 = .ok (.ireturn, 1) := by decide +kernel
theorem dX4_landOf_23 : decode cX4_landOf 23 = .ok (.aload_n 0, 1) := by decide +kernel
theorem dX4_landOf_24 : decode cX4_landOf 24 = .ok (.aload_n 0, 1) := by decide +kernel
theorem dX4_landOf_25 : decode cX4_landOf 25 = .ok (.getfield 387, 3) := by decide +kernel
theorem dX4_landOf_28 : decode cX4_landOf 28 = .ok (.invokestatic 97, 3) := by decide +kernel
theorem dX4_landOf_31 : decode cX4_landOf 31 = .ok (.istore_n 2, 1) := by decide +kernel
theorem dX4_landOf_32 : decode cX4_landOf 32 = .ok (.iload_n 2, 1) := by decide +kernel
theorem dX4_landOf_33 : decode cX4_landOf 33 = .ok (.aload_n 0, 1) := by decide +kernel
theorem dX4_landOf_34 : decode cX4_landOf 34 = .ok (.getfield 123, 3) := by decide +kernel
theorem dX4_landOf_37 : decode cX4_landOf 37 = .ok (.invokestatic 105, 3) := by decide +kernel
theorem dX4_landOf_40 : decode cX4_landOf 40 = .ok (.istore_n 3, 1) := by decide +kernel
theorem dX4_landOf_41 : decode cX4_landOf 41 = .ok (.iload_n 2, 1) := by decide +kernel
theorem dX4_landOf_42 : decode cX4_landOf 42 = .ok (.iload_n 3, 1) := by decide +kernel
theorem dX4_landOf_43 : decode cX4_landOf 43 = .ok (.isub, 1) := by decide +kernel
theorem dX4_landOf_44 : decode cX4_landOf 44 = .ok (.istore 4, 2) := by decide +kernel
theorem dX4_landOf_46 : decode cX4_landOf 46 = .ok (.iload_n 3, 1) := by decide +kernel
theorem dX4_landOf_47 : decode cX4_landOf 47 = .ok (.iload 4, 2) := by decide +kernel
theorem dX4_landOf_49 : decode cX4_landOf 49 = .ok (.aload_n 1, 1) := by decide +kernel
theorem dX4_landOf_50 : decode cX4_landOf 50 = .ok (.getfield 394, 3) := by decide +kernel
theorem dX4_landOf_53 : decode cX4_landOf 53 = .ok (.invokestatic 105, 3) := by decide +kernel
theorem dX4_landOf_56 : decode cX4_landOf 56 = .ok (.iadd, 1) := by decide +kernel
theorem dX4_landOf_57 : decode cX4_landOf 57 = .ok (.iload 4, 2) := by decide +kernel
theorem dX4_landOf_59 : decode cX4_landOf 59 = .ok (.aload_n 1, 1) := by decide +kernel
theorem dX4_landOf_60 : decode cX4_landOf 60 = .ok (.getfield 397, 3) := by decide +kernel
theorem dX4_landOf_63 : decode cX4_landOf 63 = .ok (.invokestatic 105, 3) := by decide +kernel
theorem dX4_landOf_66 : decode cX4_landOf 66 = .ok (.isub, 1) := by decide +kernel
theorem dX4_landOf_67 : decode cX4_landOf 67 = .ok (.istore 5, 2) := by decide +kernel
theorem dX4_landOf_69 : decode cX4_landOf 69 = .ok (.iconst 0, 1) := by decide +kernel
theorem dX4_landOf_70 : decode cX4_landOf 70 = .ok (.iload 5, 2) := by decide +kernel
theorem dX4_landOf_72 : decode cX4_landOf 72 = .ok (.invokestatic 400, 3) := by decide +kernel
theorem dX4_landOf_75 : decode cX4_landOf 75 = .ok (.ireturn, 1) := by decide +kernel
theorem dX4_sumBy_0 : decode cX4_sumBy 0 = .ok (.aload_n 1, 1) := by decide +kernel
theorem dX4_sumBy_1 : decode cX4_sumBy 1 = .ok (.ifnull 10, 3) := by decide +kernel
theorem dX4_sumBy_4 : decode cX4_sumBy 4 = .ok (.aload_n 1, 1) := by decide +kernel
theorem dX4_sumBy_5 : decode cX4_sumBy 5 = .ok (.getfield 178, 3) := by decide +kernel
theorem dX4_sumBy_8 : decode cX4_sumBy 8 = .ok (.ifnonnull 5, 3) := by decide +kernel
theorem dX4_sumBy_11 : decode cX4_sumBy 11 = .ok (.lconst 0, 1) := by decide +kernel
theorem dX4_sumBy_12 : decode cX4_sumBy 12 = .ok (.lreturn, 1) := by decide +kernel
theorem dX4_sumBy_13 : decode cX4_sumBy 13 = .ok (.aload_n 1, 1) := by decide +kernel
theorem dX4_sumBy_14 : decode cX4_sumBy 14 = .ok (.getfield 175, 3) := by decide +kernel
theorem dX4_sumBy_17 : decode cX4_sumBy 17 = .ok (.lookupswitch 49 #[(0, 27), (1, 39)], 27) := by decide +kernel
theorem dX4_sumBy_44 : decode cX4_sumBy 44 = .ok (.aload_n 0, 1) := by decide +kernel
theorem dX4_sumBy_45 : decode cX4_sumBy 45 = .ok (.aload_n 1, 1) := by decide +kernel
theorem dX4_sumBy_46 : decode cX4_sumBy 46 = .ok (.aload_n 1, 1) := by decide +kernel
theorem dX4_sumBy_47 : decode cX4_sumBy 47 = .ok (.getfield 178, 3) := by decide +kernel
theorem dX4_sumBy_50 : decode cX4_sumBy 50 = .ok (.iload_n 2, 1) := by decide +kernel
theorem dX4_sumBy_51 : decode cX4_sumBy 51 = .ok (.invokevirtual 405, 3) := by decide +kernel
theorem dX4_sumBy_54 : decode cX4_sumBy 54 = .ok (.i2l, 1) := by decide +kernel
theorem dX4_sumBy_55 : decode cX4_sumBy 55 = .ok (.lreturn, 1) := by decide +kernel
theorem dX4_sumBy_56 : decode cX4_sumBy 56 = .ok (.aload_n 1, 1) := by decide +kernel
theorem dX4_sumBy_57 : decode cX4_sumBy 57 = .ok (.aload_n 1, 1) := by decide +kernel
theorem dX4_sumBy_58 : decode cX4_sumBy 58 = .ok (.getfield 178, 3) := by decide +kernel
theorem dX4_sumBy_61 : decode cX4_sumBy 61 = .ok (.invokestatic 409, 3) := by decide +kernel
theorem dX4_sumBy_64 : decode cX4_sumBy 64 = .ok (.i2l, 1) := by decide +kernel
theorem dX4_sumBy_65 : decode cX4_sumBy 65 = .ok (.lreturn, 1) := by decide +kernel
theorem dX4_sumBy_66 : decode cX4_sumBy 66 = .ok (.aload_n 1, 1) := by decide +kernel
theorem dX4_sumBy_67 : decode cX4_sumBy 67 = .ok (.getfield 190, 3) := by decide +kernel
theorem dX4_sumBy_70 : decode cX4_sumBy 70 = .ok (.aload_n 0, 1) := by decide +kernel
theorem dX4_sumBy_71 : decode cX4_sumBy 71 = .ok (.aload_n 1, 1) := by decide +kernel
theorem dX4_sumBy_72 : decode cX4_sumBy 72 = .ok (.getfield 178, 3) := by decide +kernel
theorem dX4_sumBy_75 : decode cX4_sumBy 75 = .ok (.iload_n 2, 1) := by decide +kernel
theorem dX4_sumBy_76 : decode cX4_sumBy 76 = .ok (.aload_n 1, 1) := by decide +kernel
theorem dX4_sumBy_77 : decode cX4_sumBy 77 = .ok (.getfield 359, 3) := by decide +kernel
theorem dX4_sumBy_80 : decode cX4_sumBy 80 = .ok (.invokevirtual 413, 3) := by decide +kernel
theorem dX4_sumBy_83 : decode cX4_sumBy 83 = .ok (.invokestatic 417, 3) := by decide +kernel
theorem dX4_sumBy_86 : decode cX4_sumBy 86 = .ok (.i2l, 1) := by decide +kernel
theorem dX4_sumBy_87 : decode cX4_sumBy 87 = .ok (.lreturn, 1) := by decide +kernel
theorem dX4_ownerSum_0 : decode cX4_ownerSum 0 = .ok (.aload_n 1, 1) := by decide +kernel
theorem dX4_ownerSum_1 : decode cX4_ownerSum 1 = .ok (.ifnull 7, 3) := by decide +kernel
theorem dX4_ownerSum_4 : decode cX4_ownerSum 4 = .ok (.aload_n 2, 1) := by decide +kernel
theorem dX4_ownerSum_5 : decode cX4_ownerSum 5 = .ok (.ifnonnull 5, 3) := by decide +kernel
theorem dX4_ownerSum_8 : decode cX4_ownerSum 8 = .ok (.iconst 0, 1) := by decide +kernel
theorem dX4_ownerSum_9 : decode cX4_ownerSum 9 = .ok (.ireturn, 1) := by decide +kernel
theorem dX4_ownerSum_10 : decode cX4_ownerSum 10 = .ok (.aload_n 0, 1) := by decide +kernel
theorem dX4_ownerSum_11 : decode cX4_ownerSum 11 = .ok (.aload_n 2, 1) := by decide +kernel
theorem dX4_ownerSum_12 : decode cX4_ownerSum 12 = .ok (.iload_n 3, 1) := by decide +kernel
theorem dX4_ownerSum_13 : decode cX4_ownerSum 13 = .ok (.bipush 24, 2) := by decide +kernel
theorem dX4_ownerSum_15 : decode cX4_ownerSum 15 = .ok (.invokevirtual 413, 3) := by decide +kernel
theorem dX4_ownerSum_18 : decode cX4_ownerSum 18 = .ok (.aload_n 1, 1) := by decide +kernel
theorem dX4_ownerSum_19 : decode cX4_ownerSum 19 = .ok (.getfield 190, 3) := by decide +kernel
theorem dX4_ownerSum_22 : decode cX4_ownerSum 22 = .ok (.invokestatic 105, 3) := by decide +kernel
theorem dX4_ownerSum_25 : decode cX4_ownerSum 25 = .ok (.istore 4, 2) := by decide +kernel
theorem dX4_ownerSum_27 : decode cX4_ownerSum 27 = .ok (.aload_n 2, 1) := by decide +kernel
theorem dX4_ownerSum_28 : decode cX4_ownerSum 28 = .ok (.getfield 79, 3) := by decide +kernel
theorem dX4_ownerSum_31 : decode cX4_ownerSum 31 = .ok (.iconst 1, 1) := by decide +kernel
theorem dX4_ownerSum_32 : decode cX4_ownerSum 32 = .ok (.if_icmp .ne 31, 3) := by decide +kernel
theorem dX4_ownerSum_35 : decode cX4_ownerSum 35 = .ok (.aload_n 2, 1) := by decide +kernel
theorem dX4_ownerSum_36 : decode cX4_ownerSum 36 = .ok (.getfield 123, 3) := by decide +kernel
theorem dX4_ownerSum_39 : decode cX4_ownerSum 39 = .ok (.bipush 100, 2) := by decide +kernel
theorem dX4_ownerSum_41 : decode cX4_ownerSum 41 = .ok (.if_icmp .ne 22, 3) := by decide +kernel
theorem dX4_ownerSum_44 : decode cX4_ownerSum 44 = .ok (.aload_n 2, 1) := by decide +kernel
theorem dX4_ownerSum_45 : decode cX4_ownerSum 45 = .ok (.getfield 126, 3) := by decide +kernel
theorem dX4_ownerSum_48 : decode cX4_ownerSum 48 = .ok (.aload_n 1, 1) := by decide +kernel
theorem dX4_ownerSum_49 : decode cX4_ownerSum 49 = .ok (.getfield 187, 3) := by decide +kernel
theorem dX4_ownerSum_52 : decode cX4_ownerSum 52 = .ok (.isub, 1) := by decide +kernel
theorem dX4_ownerSum_53 : decode cX4_ownerSum 53 = .ok (.sipush 365, 3) := by decide +kernel
theorem dX4_ownerSum_56 : decode cX4_ownerSum 56 = .ok (.if_icmp .lt 7, 3) := by decide +kernel
theorem dX4_ownerSum_59 : decode cX4_ownerSum 59 = .ok (.iconst 1, 1) := by decide +kernel
theorem dX4_ownerSum_60 : decode cX4_ownerSum 60 = .ok (.goto 4, 3) := by decide +kernel
theorem dX4_ownerSum_63 : decode cX4_ownerSum 63 = .ok (.iconst 0, 1) := by decide +kernel
theorem dX4_ownerSum_64 : decode cX4_ownerSum 64 = .ok (.istore 5, 2) := by decide +kernel
theorem dX4_ownerSum_66 : decode cX4_ownerSum 66 = .ok (.iload 5, 2) := by decide +kernel
theorem dX4_ownerSum_68 : decode cX4_ownerSum 68 = .ok (.ifCond .eq 14, 3) := by decide +kernel
theorem dX4_ownerSum_71 : decode cX4_ownerSum 71 = .ok (.iload 4, 2) := by decide +kernel
theorem dX4_ownerSum_73 : decode cX4_ownerSum 73 = .ok (.iload 4, 2) := by decide +kernel
theorem dX4_ownerSum_75 : decode cX4_ownerSum 75 = .ok (.bipush 10, 2) := by decide +kernel
theorem dX4_ownerSum_77 : decode cX4_ownerSum 77 = .ok (.idiv, 1) := by decide +kernel
theorem dX4_ownerSum_78 : decode cX4_ownerSum 78 = .ok (.iadd, 1) := by decide +kernel
theorem dX4_ownerSum_79 : decode cX4_ownerSum 79 = .ok (.goto 5, 3) := by decide +kernel
theorem dX4_ownerSum_82 : decode cX4_ownerSum 82 = .ok (.iload 4, 2) := by decide +kernel
theorem dX4_ownerSum_84 : decode cX4_ownerSum 84 = .ok (.ireturn, 1) := by decide +kernel
theorem dX4_leaseSum_0 : decode cX4_leaseSum 0 = .ok (.aload_n 0, 1) := by decide +kernel
theorem dX4_leaseSum_1 : decode cX4_leaseSum 1 = .ok (.ifnull 18, 3) := by decide +kernel
theorem dX4_leaseSum_4 : decode cX4_leaseSum 4 = .ok (.aload_n 1, 1) := by decide +kernel
theorem dX4_leaseSum_5 : decode cX4_leaseSum 5 = .ok (.ifnull 14, 3) := by decide +kernel
theorem dX4_leaseSum_8 : decode cX4_leaseSum 8 = .ok (.aload_n 0, 1) := by decide +kernel
theorem dX4_leaseSum_9 : decode cX4_leaseSum 9 = .ok (.aload_n 1, 1) := by decide +kernel
theorem dX4_leaseSum_10 : decode cX4_leaseSum 10 = .ok (.getfield 126, 3) := by decide +kernel
theorem dX4_leaseSum_13 : decode cX4_leaseSum 13 = .ok (.invokestatic 377, 3) := by decide +kernel
theorem dX4_leaseSum_16 : decode cX4_leaseSum 16 = .ok (.ifCond .eq 5, 3) := by decide +kernel
theorem dX4_leaseSum_19 : decode cX4_leaseSum 19 = .ok (.iconst 0, 1) := by decide +kernel
theorem dX4_leaseSum_20 : decode cX4_leaseSum 20 = .ok (.ireturn, 1) := by decide +kernel
theorem dX4_leaseSum_21 : decode cX4_leaseSum 21 = .ok (.sipush 730, 3) := by decide +kernel
theorem dX4_leaseSum_24 : decode cX4_leaseSum 24 = .ok (.aload_n 0, 1) := by decide +kernel
theorem dX4_leaseSum_25 : decode cX4_leaseSum 25 = .ok (.getfield 190, 3) := by decide +kernel
theorem dX4_leaseSum_28 : decode cX4_leaseSum 28 = .ok (.aload_n 1, 1) := by decide +kernel
theorem dX4_leaseSum_29 : decode cX4_leaseSum 29 = .ok (.getfield 126, 3) := by decide +kernel
theorem dX4_leaseSum_32 : decode cX4_leaseSum 32 = .ok (.isub, 1) := by decide +kernel
theorem dX4_leaseSum_33 : decode cX4_leaseSum 33 = .ok (.invokestatic 417, 3) := by decide +kernel
theorem dX4_leaseSum_36 : decode cX4_leaseSum 36 = .ok (.istore_n 2, 1) := by decide +kernel
theorem dX4_leaseSum_37 : decode cX4_leaseSum 37 = .ok (.aload_n 1, 1) := by decide +kernel
theorem dX4_leaseSum_38 : decode cX4_leaseSum 38 = .ok (.getfield 79, 3) := by decide +kernel
theorem dX4_leaseSum_41 : decode cX4_leaseSum 41 = .ok (.iconst 2, 1) := by decide +kernel
theorem dX4_leaseSum_42 : decode cX4_leaseSum 42 = .ok (.if_icmp .ne 10, 3) := by decide +kernel
theorem dX4_leaseSum_45 : decode cX4_leaseSum 45 = .ok (.iload_n 2, 1) := by decide +kernel
theorem dX4_leaseSum_46 : decode cX4_leaseSum 46 = .ok (.bipush 90, 2) := by decide +kernel
theorem dX4_leaseSum_48 : decode cX4_leaseSum 48 = .ok (.iadd, 1) := by decide +kernel
theorem dX4_leaseSum_49 : decode cX4_leaseSum 49 = .ok (.goto 4, 3) := by decide +kernel
