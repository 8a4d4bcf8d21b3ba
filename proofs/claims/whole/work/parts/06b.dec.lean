theorem dX4_isBesideNeeded_23 : decode cX4_isBesideNeeded 23 = .ok (.iconst 5, 1) := by decide +kernel
theorem dX4_isBesideNeeded_24 : decode cX4_isBesideNeeded 24 = .ok (.if_icmp .ge 16, 3) := by decide +kernel
theorem dX4_isBesideNeeded_27 : decode cX4_isBesideNeeded 27 = .ok (.aload_n 0, 1) := by decide +kernel
theorem dX4_isBesideNeeded_28 : decode cX4_isBesideNeeded 28 = .ok (.iload_n 1, 1) := by decide +kernel
theorem dX4_isBesideNeeded_29 : decode cX4_isBesideNeeded 29 = .ok (.iconst 1, 1) := by decide +kernel
theorem dX4_isBesideNeeded_30 : decode cX4_isBesideNeeded 30 = .ok (.iadd, 1) := by decide +kernel
theorem dX4_isBesideNeeded_31 : decode cX4_isBesideNeeded 31 = .ok (.invokevirtual 39, 3) := by decide +kernel
theorem dX4_isBesideNeeded_34 : decode cX4_isBesideNeeded 34 = .ok (.invokestatic 67, 3) := by decide +kernel
theorem dX4_isBesideNeeded_37 : decode cX4_isBesideNeeded 37 = .ok (.ifCond .ne 31, 3) := by decide +kernel
theorem dX4_isBesideNeeded_40 : decode cX4_isBesideNeeded 40 = .ok (.aload_n 0, 1) := by decide +kernel
theorem dX4_isBesideNeeded_41 : decode cX4_isBesideNeeded 41 = .ok (.iload_n 1, 1) := by decide +kernel
theorem dX4_isBesideNeeded_42 : decode cX4_isBesideNeeded 42 = .ok (.bipush 6, 2) := by decide +kernel
theorem dX4_isBesideNeeded_44 : decode cX4_isBesideNeeded 44 = .ok (.isub, 1) := by decide +kernel
theorem dX4_isBesideNeeded_45 : decode cX4_isBesideNeeded 45 = .ok (.invokevirtual 39, 3) := by decide +kernel
theorem dX4_isBesideNeeded_48 : decode cX4_isBesideNeeded 48 = .ok (.invokestatic 67, 3) := by decide +kernel
theorem dX4_isBesideNeeded_51 : decode cX4_isBesideNeeded 51 = .ok (.ifCond .ne 17, 3) := by decide +kernel
theorem dX4_isBesideNeeded_54 : decode cX4_isBesideNeeded 54 = .ok (.aload_n 0, 1) := by decide +kernel
theorem dX4_isBesideNeeded_55 : decode cX4_isBesideNeeded 55 = .ok (.iload_n 1, 1) := by decide +kernel
theorem dX4_isBesideNeeded_56 : decode cX4_isBesideNeeded 56 = .ok (.bipush 6, 2) := by decide +kernel
theorem dX4_isBesideNeeded_58 : decode cX4_isBesideNeeded 58 = .ok (.iadd, 1) := by decide +kernel
theorem dX4_isBesideNeeded_59 : decode cX4_isBesideNeeded 59 = .ok (.invokevirtual 39, 3) := by decide +kernel
theorem dX4_isBesideNeeded_62 : decode cX4_isBesideNeeded 62 = .ok (.invokestatic 67, 3) := by decide +kernel
theorem dX4_isBesideNeeded_65 : decode cX4_isBesideNeeded 65 = .ok (.ifCond .eq 7, 3) := by decide +kernel
theorem dX4_isBesideNeeded_68 : decode cX4_isBesideNeeded 68 = .ok (.iconst 1, 1) := by decide +kernel
theorem dX4_isBesideNeeded_69 : decode cX4_isBesideNeeded 69 = .ok (.goto 4, 3) := by decide +kernel
theorem dX4_isBesideNeeded_72 : decode cX4_isBesideNeeded 72 = .ok (.iconst 0, 1) := by decide +kernel
theorem dX4_isBesideNeeded_73 : decode cX4_isBesideNeeded 73 = .ok (.ireturn, 1) := by decide +kernel
theorem dX4_neederOf_0 : decode cX4_neederOf 0 = .ok (.aload_n 0, 1) := by decide +kernel
theorem dX4_neederOf_1 : decode cX4_neederOf 1 = .ok (.ifnonnull 7, 3) := by decide +kernel
theorem dX4_neederOf_4 : decode cX4_neederOf 4 = .ok (.aconst_null, 1) := by decide +kernel
theorem dX4_neederOf_5 : decode cX4_neederOf 5 = .ok (.goto 7, 3) := by decide +kernel
theorem dX4_neederOf_8 : decode cX4_neederOf 8 = .ok (.aload_n 0, 1) := by decide +kernel
theorem dX4_neederOf_9 : decode cX4_neederOf 9 = .ok (.getfield 230, 3) := by decide +kernel
theorem dX4_neederOf_12 : decode cX4_neederOf 12 = .ok (.astore_n 1, 1) := by decide +kernel
theorem dX4_neederOf_13 : decode cX4_neederOf 13 = .ok (.aload_n 1, 1) := by decide +kernel
theorem dX4_neederOf_14 : decode cX4_neederOf 14 = .ok (.ifnull 11, 3) := by decide +kernel
theorem dX4_neederOf_17 : decode cX4_neederOf 17 = .ok (.aload_n 1, 1) := by decide +kernel
theorem dX4_neederOf_18 : decode cX4_neederOf 18 = .ok (.getfield 227, 3) := by decide +kernel
theorem dX4_neederOf_21 : decode cX4_neederOf 21 = .ok (.iconst 2, 1) := by decide +kernel
theorem dX4_neederOf_22 : decode cX4_neederOf 22 = .ok (.if_icmp .ne 7, 3) := by decide +kernel
theorem dX4_neederOf_25 : decode cX4_neederOf 25 = .ok (.aconst_null, 1) := by decide +kernel
theorem dX4_neederOf_26 : decode cX4_neederOf 26 = .ok (.goto 4, 3) := by decide +kernel
theorem dX4_neederOf_29 : decode cX4_neederOf 29 = .ok (.aload_n 1, 1) := by decide +kernel
theorem dX4_neederOf_30 : decode cX4_neederOf 30 = .ok (.areturn, 1) := by decide +kernel
theorem dX4_isNeeded_0 : decode cX4_isNeeded 0 = .ok (.aload_n 0, 1) := by decide +kernel
theorem dX4_isNeeded_1 : decode cX4_isNeeded 1 = .ok (.invokestatic 115, 3) := by decide +kernel
theorem dX4_isNeeded_4 : decode cX4_isNeeded 4 = .ok (.ifnull 7, 3) := by decide +kernel
theorem dX4_isNeeded_7 : decode cX4_isNeeded 7 = .ok (.iconst 1, 1) := by decide +kernel
theorem dX4_isNeeded_8 : decode cX4_isNeeded 8 = .ok (.goto 4, 3) := by decide +kernel
theorem dX4_isNeeded_11 : decode cX4_isNeeded 11 = .ok (.iconst 0, 1) := by decide +kernel
theorem dX4_isNeeded_12 : decode cX4_isNeeded 12 = .ok (.ireturn, 1) := by decide +kernel
theorem dX4_isNeededBy_0 : decode cX4_isNeededBy 0 = .ok (.aload_n 1, 1) := by decide +kernel
theorem dX4_isNeededBy_1 : decode cX4_isNeededBy 1 = .ok (.ifnull 15, 3) := by decide +kernel
theorem dX4_isNeededBy_4 : decode cX4_isNeededBy 4 = .ok (.aload_n 0, 1) := by decide +kernel
theorem dX4_isNeededBy_5 : decode cX4_isNeededBy 5 = .ok (.invokestatic 115, 3) := by decide +kernel
theorem dX4_isNeededBy_8 : decode cX4_isNeededBy 8 = .ok (.aload_n 1, 1) := by decide +kernel
theorem dX4_isNeededBy_9 : decode cX4_isNeededBy 9 = .ok (.if_acmp .ne 7, 3) := by decide +kernel
theorem dX4_isNeededBy_12 : decode cX4_isNeededBy 12 = .ok (.iconst 1, 1) := by decide +kernel
theorem dX4_isNeededBy_13 : decode cX4_isNeededBy 13 = .ok (.goto 4, 3) := by decide +kernel
theorem dX4_isNeededBy_16 : decode cX4_isNeededBy 16 = .ok (.iconst 0, 1) := by decide +kernel
theorem dX4_isNeededBy_17 : decode cX4_isNeededBy 17 = .ok (.ireturn, 1) := by decide +kernel
theorem dX4_isFreeAndNeededBy_0 : decode cX4_isFreeAndNeededBy 0 = .ok (.aload_n 0, 1) := by decide +kernel
theorem dX4_isFreeAndNeededBy_1 : decode cX4_isFreeAndNeededBy 1 = .ok (.ifnull 22, 3) := by decide +kernel
theorem dX4_isFreeAndNeededBy_4 : decode cX4_isFreeAndNeededBy 4 = .ok (.aload_n 0, 1) := by decide +kernel
theorem dX4_isFreeAndNeededBy_5 : decode cX4_isFreeAndNeededBy 5 = .ok (.getfield 63, 3) := by decide +kernel
theorem dX4_isFreeAndNeededBy_8 : decode cX4_isFreeAndNeededBy 8 = .ok (.ifCond .ne 15, 3) := by decide +kernel
theorem dX4_isFreeAndNeededBy_11 : decode cX4_isFreeAndNeededBy 11 = .ok (.aload_n 0, 1) := by decide +kernel
theorem dX4_isFreeAndNeededBy_12 : decode cX4_isFreeAndNeededBy 12 = .ok (.aload_n 1, 1) := by decide +kernel
theorem dX4_isFreeAndNeededBy_13 : decode cX4_isFreeAndNeededBy 13 = .ok (.invokestatic 275, 3) := by decide +kernel
theorem dX4_isFreeAndNeededBy_16 : decode cX4_isFreeAndNeededBy 16 = .ok (.ifCond .eq 7, 3) := by decide +kernel
theorem dX4_isFreeAndNeededBy_19 : decode cX4_isFreeAndNeededBy 19 = .ok (.iconst 1, 1) := by decide +kernel
theorem dX4_isFreeAndNeededBy_20 : decode cX4_isFreeAndNeededBy 20 = .ok (.goto 4, 3) := by decide +kernel
theorem dX4_isFreeAndNeededBy_23 : decode cX4_isFreeAndNeededBy 23 = .ok (.iconst 0, 1) := by decide +kernel
theorem dX4_isFreeAndNeededBy_24 : decode cX4_isFreeAndNeededBy 24 = .ok (.ireturn, 1) := by decide +kernel
theorem dX4_draftOfFreePlot_0 : decode cX4_draftOfFreePlot 0 = .ok (.aload_n 0, 1) := by decide +kernel
theorem dX4_draftOfFreePlot_1 : decode cX4_draftOfFreePlot 1 = .ok (.invokestatic 115, 3) := by decide +kernel
theorem dX4_draftOfFreePlot_4 : decode cX4_draftOfFreePlot 4 = .ok (.astore_n 1, 1) := by decide +kernel
theorem dX4_draftOfFreePlot_5 : decode cX4_draftOfFreePlot 5 = .ok (.aload_n 1, 1) := by decide +kernel
theorem dX4_draftOfFreePlot_6 : decode cX4_draftOfFreePlot 6 = .ok (.ifnull 22, 3) := by decide +kernel
theorem dX4_draftOfFreePlot_9 : decode cX4_draftOfFreePlot 9 = .ok (.aload_n 1, 1) := by decide +kernel
theorem dX4_draftOfFreePlot_10 : decode cX4_draftOfFreePlot 10 = .ok (.getfield 227, 3) := by decide +kernel
theorem dX4_draftOfFreePlot_13 : decode cX4_draftOfFreePlot 13 = .ok (.ifCond .ne 15, 3) := by decide +kernel
theorem dX4_draftOfFreePlot_16 : decode cX4_draftOfFreePlot 16 = .ok (.aload_n 0, 1) := by decide +kernel
theorem dX4_draftOfFreePlot_17 : decode cX4_draftOfFreePlot 17 = .ok (.aload_n 1, 1) := by decide +kernel
theorem dX4_draftOfFreePlot_18 : decode cX4_draftOfFreePlot 18 = .ok (.invokestatic 370, 3) := by decide +kernel
theorem dX4_draftOfFreePlot_21 : decode cX4_draftOfFreePlot 21 = .ok (.ifCond .eq 7, 3) := by decide +kernel
theorem dX4_draftOfFreePlot_24 : decode cX4_draftOfFreePlot 24 = .ok (.aload_n 1, 1) := by decide +kernel
theorem dX4_draftOfFreePlot_25 : decode cX4_draftOfFreePlot 25 = .ok (.goto 4, 3) := by decide +kernel
theorem dX4_draftOfFreePlot_28 : decode cX4_draftOfFreePlot 28 = .ok (.aconst_null, 1) := by decide +kernel
theorem dX4_draftOfFreePlot_29 : decode cX4_draftOfFreePlot 29 = .ok (.areturn, 1) := by decide +kernel
theorem dX4_countNeeded_0 : decode cX4_countNeeded 0 = .ok (.iconst 0, 1) := by decide +kernel
theorem dX4_countNeeded_1 : decode cX4_countNeeded 1 = .ok (.istore_n 2, 1) := by decide +kernel
theorem dX4_countNeeded_2 : decode cX4_countNeeded 2 = .ok (.aload_n 0, 1) := by decide +kernel
theorem dX4_countNeeded_3 : decode cX4_countNeeded 3 = .ok (.getfield 11, 3) := by decide +kernel
theorem dX4_countNeeded_6 : decode cX4_countNeeded 6 = .ok (.astore_n 3, 1) := by decide +kernel
theorem dX4_countNeeded_7 : decode cX4_countNeeded 7 = .ok (.aload_n 3, 1) := by decide +kernel
theorem dX4_countNeeded_8 : decode cX4_countNeeded 8 = .ok (.arraylength, 1) := by decide +kernel
theorem dX4_countNeeded_9 : decode cX4_countNeeded 9 = .ok (.istore 4, 2) := by decide +kernel
theorem dX4_countNeeded_11 : decode cX4_countNeeded 11 = .ok (.iconst 0, 1) := by decide +kernel
theorem dX4_countNeeded_12 : decode cX4_countNeeded 12 = .ok (.istore 5, 2) := by decide +kernel
theorem dX4_countNeeded_14 : decode cX4_countNeeded 14 = .ok (.iload 5, 2) := by decide +kernel
theorem dX4_countNeeded_16 : decode cX4_countNeeded 16 = .ok (.iload 4, 2) := by decide +kernel
theorem dX4_countNeeded_18 : decode cX4_countNeeded 18 = .ok (.if_icmp .ge 27, 3) := by decide +kernel
theorem dX4_countNeeded_21 : decode cX4_countNeeded 21 = .ok (.aload_n 3, 1) := by decide +kernel
theorem dX4_countNeeded_22 : decode cX4_countNeeded 22 = .ok (.iload 5, 2) := by decide +kernel
theorem dX4_countNeeded_24 : decode cX4_countNeeded 24 = .ok (.aaload, 1) := by decide +kernel
theorem dX4_countNeeded_25 : decode cX4_countNeeded 25 = .ok (.astore 6, 2) := by decide +kernel
theorem dX4_countNeeded_27 : decode cX4_countNeeded 27 = .ok (.aload 6, 2) := by decide +kernel
theorem dX4_countNeeded_29 : decode cX4_countNeeded 29 = .ok (.aload_n 1, 1) := by decide +kernel
theorem dX4_countNeeded_30 : decode cX4_countNeeded 30 = .ok (.invokestatic 275, 3) := by decide +kernel
theorem dX4_countNeeded_33 : decode cX4_countNeeded 33 = .ok (.ifCond .eq 6, 3) := by decide +kernel
theorem dX4_countNeeded_36 : decode cX4_countNeeded 36 = .ok (.iinc 2 1, 3) := by decide +kernel
theorem dX4_countNeeded_39 : decode cX4_countNeeded 39 = .ok (.iinc 5 1, 3) := by decide +kernel
theorem dX4_countNeeded_42 : decode cX4_countNeeded 42 = .ok (.goto (-28), 3) := by decide +kernel
theorem dX4_countNeeded_45 : decode cX4_countNeeded 45 = .ok (.iload_n 2, 1) := by decide +kernel
theorem dX4_countNeeded_46 : decode cX4_countNeeded 46 = .ok (.ireturn, 1) := by decide +kernel
theorem dX4_countFreeNeeded_0 : decode cX4_countFreeNeeded 0 = .ok (.iconst 0, 1) := by decide +kernel
theorem dX4_countFreeNeeded_1 : decode cX4_countFreeNeeded 1 = .ok (.istore_n 2, 1) := by decide +kernel
theorem dX4_countFreeNeeded_2 : decode cX4_countFreeNeeded 2 = .ok (.aload_n 0, 1) := by decide +kernel
theorem dX4_countFreeNeeded_3 : decode cX4_countFreeNeeded 3 = .ok (.getfield 11, 3) := by decide +kernel
theorem dX4_countFreeNeeded_6 : decode cX4_countFreeNeeded 6 = .ok (.astore_n 3, 1) := by decide +kernel
theorem dX4_countFreeNeeded_7 : decode cX4_countFreeNeeded 7 = .ok (.aload_n 3, 1) := by decide +kernel
theorem dX4_countFreeNeeded_8 : decode cX4_countFreeNeeded 8 = .ok (.arraylength, 1) := by decide +kernel
theorem dX4_countFreeNeeded_9 : decode cX4_countFreeNeeded 9 = .ok (.istore 4, 2) := by decide +kernel
theorem dX4_countFreeNeeded_11 : decode cX4_countFreeNeeded 11 = .ok (.iconst 0, 1) := by decide +kernel
theorem dX4_countFreeNeeded_12 : decode cX4_countFreeNeeded 12 = .ok (.istore 5, 2) := by decide +kernel
theorem dX4_countFreeNeeded_14 : decode cX4_countFreeNeeded 14 = .ok (.iload 5, 2) := by decide +kernel
theorem dX4_countFreeNeeded_16 : decode cX4_countFreeNeeded 16 = .ok (.iload 4, 2) := by decide +kernel
theorem dX4_countFreeNeeded_18 : decode cX4_countFreeNeeded 18 = .ok (.if_icmp .ge 27, 3) := by decide +kernel
theorem dX4_countFreeNeeded_21 : decode cX4_countFreeNeeded 21 = .ok (.aload_n 3, 1) := by decide +kernel
theorem dX4_countFreeNeeded_22 : decode cX4_countFreeNeeded 22 = .ok (.iload 5, 2) := by decide +kernel
theorem dX4_countFreeNeeded_24 : decode cX4_countFreeNeeded 24 = .ok (.aaload, 1) := by decide +kernel
theorem dX4_countFreeNeeded_25 : decode cX4_countFreeNeeded 25 = .ok (.astore 6, 2) := by decide +kernel
theorem dX4_countFreeNeeded_27 : decode cX4_countFreeNeeded 27 = .ok (.aload 6, 2) := by decide +kernel
theorem dX4_countFreeNeeded_29 : decode cX4_countFreeNeeded 29 = .ok (.aload_n 1, 1) := by decide +kernel
theorem dX4_countFreeNeeded_30 : decode cX4_countFreeNeeded 30 = .ok (.invokestatic 370, 3) := by decide +kernel
theorem dX4_countFreeNeeded_33 : decode cX4_countFreeNeeded 33 = .ok (.ifCond .eq 6, 3) := by decide +kernel
theorem dX4_countFreeNeeded_36 : decode cX4_countFreeNeeded 36 = .ok (.iinc 2 1, 3) := by decide +kernel
theorem dX4_countFreeNeeded_39 : decode cX4_countFreeNeeded 39 = .ok (.iinc 5 1, 3) := by decide +kernel
theorem dX4_countFreeNeeded_42 : decode cX4_countFreeNeeded 42 = .ok (.goto (-28), 3) := by decide +kernel
theorem dX4_countFreeNeeded_45 : decode cX4_countFreeNeeded 45 = .ok (.iload_n 2, 1) := by decide +kernel
theorem dX4_countFreeNeeded_46 : decode cX4_countFreeNeeded 46 = .ok (.ireturn, 1) := by decide +kernel
theorem dX4_countWorks_0 : decode cX4_countWorks 0 = .ok (.iconst 0, 1) := by decide +kernel
theorem dX4_countWorks_1 : decode cX4_countWorks 1 = .ok (.istore_n 1, 1) := by decide +kernel
theorem dX4_countWorks_2 : decode cX4_countWorks 2 = .ok (.aload_n 0, 1) := by decide +kernel
theorem dX4_countWorks_3 : decode cX4_countWorks 3 = .ok (.getfield 11, 3) := by decide +kernel
theorem dX4_countWorks_6 : decode cX4_countWorks 6 = .ok (.astore_n 2, 1) := by decide +kernel
theorem dX4_countWorks_7 : decode cX4_countWorks 7 = .ok (.aload_n 2, 1) := by decide +kernel
theorem dX4_countWorks_8 : decode cX4_countWorks 8 = .ok (.arraylength, 1) := by decide +kernel
theorem dX4_countWorks_9 : decode cX4_countWorks 9 = .ok (.istore_n 3, 1) := by decide +kernel
theorem dX4_countWorks_10 : decode cX4_countWorks 10 = .ok (.iconst 0, 1) := by decide +kernel
theorem dX4_countWorks_11 : decode cX4_countWorks 11 = .ok (.istore 4, 2) := by decide +kernel
theorem dX4_countWorks_13 : decode cX4_countWorks 13 = .ok (.iload 4, 2) := by decide +kernel
theorem dX4_countWorks_15 : decode cX4_countWorks 15 = .ok (.iload_n 3, 1) := by decide +kernel
theorem dX4_countWorks_16 : decode cX4_countWorks 16 = .ok (.if_icmp .ge 31, 3) := by decide +kernel
theorem dX4_countWorks_19 : decode cX4_countWorks 19 = .ok (.aload_n 2, 1) := by decide +kernel
theorem dX4_countWorks_20 : decode cX4_countWorks 20 = .ok (.iload 4, 2) := by decide +kernel
theorem dX4_countWorks_22 : decode cX4_countWorks 22 = .ok (.aaload, 1) := by decide +kernel
theorem dX4_countWorks_23 : decode cX4_countWorks 23 = .ok (.astore 5, 2) := by decide +kernel
theorem dX4_countWorks_25 : decode cX4_countWorks 25 = .ok (.aload 5, 2) := by decide +kernel
theorem dX4_countWorks_27 : decode cX4_countWorks 27 = .ok (.ifnull 14, 3) := by decide +kernel
theorem dX4_countWorks_30 : decode cX4_countWorks 30 = .ok (.aload 5, 2) := by decide +kernel
theorem dX4_countWorks_32 : decode cX4_countWorks 32 = .ok (.getfield 129, 3) := by decide +kernel
theorem dX4_countWorks_35 : decode cX4_countWorks 35 = .ok (.ifCond .eq 6, 3) := by decide +kernel
theorem dX4_countWorks_38 : decode cX4_countWorks 38 = .ok (.iinc 1 1, 3) := by decide +kernel
theorem dX4_countWorks_41 : decode cX4_countWorks 41 = .ok (.iinc 4 1, 3) := by decide +kernel
theorem dX4_countWorks_44 : decode cX4_countWorks 44 = .ok (.goto (-31), 3) := by decide +kernel
theorem dX4_countWorks_47 : decode cX4_countWorks 47 = .ok (.iload_n 1, 1) := by decide +kernel
theorem dX4_countWorks_48 : decode cX4_countWorks 48 = .ok (.ireturn, 1) := by decide +kernel
theorem dX4_countOpenObjections_0 : decode cX4_countOpenObjections 0 = .ok (.iconst 0, 1) := by decide +kernel
theorem dX4_countOpenObjections_1 : decode cX4_countOpenObjections 1 = .ok (.istore_n 2, 1) := by decide +kernel
theorem dX4_countOpenObjections_2 : decode cX4_countOpenObjections 2 = .ok (.aload_n 0, 1) := by decide +kernel
theorem dX4_countOpenObjections_3 : decode cX4_countOpenObjections 3 = .ok (.getfield 23, 3) := by decide +kernel
theorem dX4_countOpenObjections_6 : decode cX4_countOpenObjections 6 = .ok (.astore_n 3, 1) := by decide +kernel
theorem dX4_countOpenObjections_7 : decode cX4_countOpenObjections 7 = .ok (.aload_n 3, 1) := by decide +kernel
theorem dX4_countOpenObjections_8 : decode cX4_countOpenObjections 8 = .ok (.arraylength, 1) := by decide +kernel
theorem dX4_countOpenObjections_9 : decode cX4_countOpenObjections 9 = .ok (.istore 4, 2) := by decide +kernel
theorem dX4_countOpenObjections_11 : decode cX4_countOpenObjections 11 = .ok (.iconst 0, 1) := by decide +kernel
theorem dX4_countOpenObjections_12 : decode cX4_countOpenObjections 12 = .ok (.istore 5, 2) := by decide +kernel
theorem dX4_countOpenObjections_14 : decode cX4_countOpenObjections 14 = .ok (.iload 5, 2) := by decide +kernel
theorem dX4_countOpenObjections_16 : decode cX4_countOpenObjections 16 = .ok (.iload 4, 2) := by decide +kernel
theorem dX4_countOpenObjections_18 : decode cX4_countOpenObjections 18 = .ok (.if_icmp .ge 43, 3) := by decide +kernel
theorem dX4_countOpenObjections_21 : decode cX4_countOpenObjections 21 = .ok (.aload_n 3, 1) := by decide +kernel
theorem dX4_countOpenObjections_22 : decode cX4_countOpenObjections 22 = .ok (.iload 5, 2) := by decide +kernel
theorem dX4_countOpenObjections_24 : decode cX4_countOpenObjections 24 = .ok (.aaload, 1) := by decide +kernel
theorem dX4_countOpenObjections_25 : decode cX4_countOpenObjections 25 = .ok (.astore 6, 2) := by decide +kernel
theorem dX4_countOpenObjections_27 : decode cX4_countOpenObjections 27 = .ok (.aload 6, 2) := by decide +kernel
theorem dX4_countOpenObjections_29 : decode cX4_countOpenObjections 29 = .ok (.ifnull 26, 3) := by decide +kernel
theorem dX4_countOpenObjections_32 : decode cX4_countOpenObjections 32 = .ok (.aload 6, 2) := by decide +kernel
theorem dX4_countOpenObjections_34 : decode cX4_countOpenObjections 34 = .ok (.getfield 196, 3) := by decide +kernel
theorem dX4_countOpenObjections_37 : decode cX4_countOpenObjections 37 = .ok (.ifCond .eq 18, 3) := by decide +kernel
theorem dX4_countOpenObjections_40 : decode cX4_countOpenObjections 40 = .ok (.aload 6, 2) := by decide +kernel
theorem dX4_countOpenObjections_42 : decode cX4_countOpenObjections 42 = .ok (.getfield 178, 3) := by decide +kernel
theorem dX4_countOpenObjections_45 : decode cX4_countOpenObjections 45 = .ok (.aload_n 1, 1) := by decide +kernel
theorem dX4_countOpenObjections_46 : decode cX4_countOpenObjections 46 = .ok (.invokestatic 370, 3) := by decide +kernel
theorem dX4_countOpenObjections_49 : decode cX4_countOpenObjections 49 = .ok (.ifCond .eq 6, 3) := by decide +kernel
theorem dX4_countOpenObjections_52 : decode cX4_countOpenObjections 52 = .ok (.iinc 2 1, 3) := by decide +kernel
theorem dX4_countOpenObjections_55 : decode cX4_countOpenObjections 55 = .ok (.iinc 5 1, 3) := by decide +kernel
theorem dX4_countOpenObjections_58 : decode cX4_countOpenObjections 58 = .ok (.goto (-44), 3) := by decide +kernel
theorem dX4_countOpenObjections_61 : decode cX4_countOpenObjections 61 = .ok (.iload_n 2, 1) := by decide +kernel
theorem dX4_countOpenObjections_62 : decode cX4_countOpenObjections 62 = .ok (.ireturn, 1) := by decide +kernel
theorem dX4_lowestThatStops_0 : decode cX4_lowestThatStops 0 = .ok (.aload_n 0, 1) := by decide +kernel
theorem dX4_lowestThatStops_1 : decode cX4_lowestThatStops 1 = .ok (.getfield 23, 3) := by decide +kernel
theorem dX4_lowestThatStops_4 : decode cX4_lowestThatStops 4 = .ok (.astore_n 2, 1) := by decide +kernel
theorem dX4_lowestThatStops_5 : decode cX4_lowestThatStops 5 = .ok (.aload_n 2, 1) := by decide +kernel
theorem dX4_lowestThatStops_6 : decode cX4_lowestThatStops 6 = .ok (.arraylength, 1) := by decide +kernel
theorem dX4_lowestThatStops_7 : decode cX4_lowestThatStops 7 = .ok (.istore_n 3, 1) := by decide +kernel
theorem dX4_lowestThatStops_8 : decode cX4_lowestThatStops 8 = .ok (.iconst 0, 1) := by decide +kernel
theorem dX4_lowestThatStops_9 : decode cX4_lowestThatStops 9 = .ok (.istore 4, 2) := by decide +kernel
theorem dX4_lowestThatStops_11 : decode cX4_lowestThatStops 11 = .ok (.iload 4, 2) := by decide +kernel
theorem dX4_lowestThatStops_13 : decode cX4_lowestThatStops 13 = .ok (.iload_n 3, 1) := by decide +kernel
theorem dX4_lowestThatStops_14 : decode cX4_lowestThatStops 14 = .ok (.if_icmp .ge 44, 3) := by decide +kernel
theorem dX4_lowestThatStops_17 : decode cX4_lowestThatStops 17 = .ok (.aload_n 2, 1) := by decide +kernel
theorem dX4_lowestThatStops_18 : decode cX4_lowestThatStops 18 = .ok (.iload 4, 2) := by decide +kernel
theorem dX4_lowestThatStops_20 : decode cX4_lowestThatStops 20 = .ok (.aaload, 1) := by decide +kernel
theorem dX4_lowestThatStops_21 : decode cX4_lowestThatStops 21 = .ok (.astore 5, 2) := by decide +kernel
theorem dX4_lowestThatStops_23 : decode cX4_lowestThatStops 23 = .ok (.aload 5, 2) := by decide +kernel
theorem dX4_lowestThatStops_25 : decode cX4_lowestThatStops 25 = .ok (.ifnull 27, 3) := by decide +kernel
theorem dX4_lowestThatStops_28 : decode cX4_lowestThatStops 28 = .ok (.aload 5, 2) := by decide +kernel
theorem dX4_lowestThatStops_30 : decode cX4_lowestThatStops 30 = .ok (.getfield 178, 3) := by decide +kernel
theorem dX4_lowestThatStops_33 : decode cX4_lowestThatStops 33 = .ok (.aload_n 1, 1) := by decide +kernel
theorem dX4_lowestThatStops_34 : decode cX4_lowestThatStops 34 = .ok (.invokestatic 370, 3) := by decide +kernel
theorem dX4_lowestThatStops_37 : decode cX4_lowestThatStops 37 = .ok (.ifCond .eq 15, 3) := by decide +kernel
theorem dX4_lowestThatStops_40 : decode cX4_lowestThatStops 40 = .ok (.aload_n 0, 1) := by decide +kernel
theorem dX4_lowestThatStops_41 : decode cX4_lowestThatStops 41 = .ok (.aload 5, 2) := by decide +kernel
theorem dX4_lowestThatStops_43 : decode cX4_lowestThatStops 43 = .ok (.invokevirtual 373, 3) := by decide +kernel
theorem dX4_lowestThatStops_46 : decode cX4_lowestThatStops 46 = .ok (.ifCond .eq 6, 3) := by decide +kernel
theorem dX4_lowestThatStops_49 : decode cX4_lowestThatStops 49 = .ok (.aload 5, 2) := by decide +kernel
theorem dX4_lowestThatStops_51 : decode cX4_lowestThatStops 51 = .ok (.areturn, 1) := by decide +kernel
theorem dX4_lowestThatStops_52 : decode cX4_lowestThatStops 52 = .ok (.iinc 4 1, 3) := by decide +kernel
theorem dX4_lowestThatStops_55 : decode cX4_lowestThatStops 55 = .ok (.goto (-44), 3) := by decide +kernel
theorem dX4_lowestThatStops_58 : decode cX4_lowestThatStops 58 = .ok (.aconst_null, 1) := by decide +kernel
theorem dX4_lowestThatStops_59 : decode cX4_lowestThatStops 59 = .ok (.areturn, 1) := by decide +kernel
theorem dX4_stops_0 : decode cX4_stops 0 = .ok (.aload_n 1, 1) := by decide +kernel
theorem dX4_stops_1 : decode cX4_stops 1 = .ok (.ifnull 14, 3) := by decide +kernel
theorem dX4_stops_4 : decode cX4_stops 4 = .ok (.aload_n 1, 1) := by decide +kernel
theorem dX4_stops_5 : decode cX4_stops 5 = .ok (.aload_n 0, 1) := by decide +kernel
theorem dX4_stops_6 : decode cX4_stops 6 = .ok (.getfield 84, 3) := by decide +kernel
theorem dX4_stops_9 : decode cX4_stops 9 = .ok (.invokestatic 377, 3) := by decide +kernel
theorem dX4_stops_12 : decode cX4_stops 12 = .ok (.ifCond .eq 5, 3) := by decide +kernel
theorem dX4_stops_15 : decode cX4_stops 15 = .ok (.iconst 0, 1) := by decide +kernel
theorem dX4_stops_16 : decode cX4_stops 16 = .ok (.ireturn, 1) := by decide +kernel
theorem dX4_stops_17 : decode cX4_stops 17 = .ok (.aload_n 1, 1) := by decide +kernel
theorem dX4_stops_18 : decode cX4_stops 18 = .ok (.getfield 193, 3) := by decide +kernel
theorem dX4_stops_21 : decode cX4_stops 21 = .ok (.iconst (-1), 1) := by decide +kernel
theorem dX4_stops_22 : decode cX4_stops 22 = .ok (.if_icmp .eq 24, 3) := by decide +kernel
theorem dX4_stops_25 : decode cX4_stops 25 = .ok (.aload_n 0, 1) := by decide +kernel
theorem dX4_stops_26 : decode cX4_stops 26 = .ok (.getfield 84, 3) := by decide +kernel
theorem dX4_stops_29 : decode cX4_stops 29 = .ok (.aload_n 1, 1) := by decide +kernel
theorem dX4_stops_30 : decode cX4_stops 30 = .ok (.getfield 193, 3) := by decide +kernel
theorem dX4_stops_33 : decode cX4_stops 33 = .ok (.isub, 1) := by decide +kernel
theorem dX4_stops_34 : decode cX4_stops 34 = .ok (.bipush 21, 2) := by decide +kernel
theorem dX4_stops_36 : decode cX4_stops 36 = .ok (.if_icmp .lt 10, 3) := by decide +kernel
theorem dX4_stops_39 : decode cX4_stops 39 = .ok (.aload_n 1, 1) := by decide +kernel
theorem dX4_stops_40 : decode cX4_stops 40 = .ok (.getfield 196, 3) := by decide +kernel
theorem dX4_stops_43 : decode cX4_stops 43 = .ok (.ifCond .eq 7, 3) := by decide +kernel
theorem dX4_stops_46 : decode cX4_stops 46 = .ok (.iconst 1, 1) := by decide +kernel
theorem dX4_stops_47 : decode cX4_stops 47 = .ok (.goto 4, 3) := by decide +kernel
theorem dX4_stops_50 : decode cX4_stops 50 = .ok (.iconst 0, 1) := by decide +kernel
theorem dX4_stops_51 : decode cX4_stops 51 = .ok (.ireturn, 1) := by decide +kernel
theorem dX4_release_0 : decode cX4_release 0 = .ok (.aload_n 1, 1) := by decide +kernel
theorem dX4_release_1 : decode cX4_release 1 = .ok (.ifnonnull 4, 3) := by decide +kernel
theorem dX4_release_4 : decode cX4_release 4 = .ok (.return_, 1) := by decide +kernel
theorem dX4_release_5 : decode cX4_release 5 = .ok (.aload_n 1, 1) := by decide +kernel
theorem dX4_release_6 : decode cX4_release 6 = .ok (.aconst_null, 1) := by decide +kernel
theorem dX4_release_7 : decode cX4_release 7 = .ok (.putfield 230, 3) := by decide +kernel
theorem dX4_release_10 : decode cX4_release 10 = .ok (.aload_n 1, 1) := by decide +kernel
theorem dX4_release_11 : decode cX4_release 11 = .ok (.iconst 0, 1) := by decide +kernel
theorem dX4_release_12 : decode cX4_release 12 = .ok (.putfield 123, 3) := by decide +kernel
theorem dX4_release_15 : decode cX4_release 15 = .ok (.aload_n 0, 1) := by decide +kernel
theorem dX4_release_16 : decode cX4_release 16 = .ok (.getfield 23, 3) := by decide +kernel
theorem dX4_release_19 : decode cX4_release 19 = .ok (.astore_n 2, 1) := by decide +kernel
theorem dX4_release_20 : decode cX4_release 20 = .ok (.aload_n 2, 1) := by decide +kernel
theorem dX4_release_21 : decode cX4_release 21 = .ok (.arraylength, 1) := by decide +kernel
theorem dX4_release_22 : decode cX4_release 22 = .ok (.istore_n 3, 1) := by decide +kernel
theorem dX4_release_23 : decode cX4_release 23 = .ok (.iconst 0, 1) := by decide +kernel
theorem dX4_release_24 : decode cX4_release 24 = .ok (.istore 4, 2) := by decide +kernel
theorem dX4_release_26 : decode cX4_release 26 = .ok (.iload 4, 2) := by decide +kernel
theorem dX4_release_28 : decode cX4_release 28 = .ok (.iload_n 3, 1) := by decide +kernel
theorem dX4_release_29 : decode cX4_release 29 = .ok (.if_icmp .ge 47, 3) := by decide +kernel
theorem dX4_release_32 : decode cX4_release 32 = .ok (.aload_n 2, 1) := by decide +kernel
theorem dX4_release_33 : decode cX4_release 33 = .ok (.iload 4, 2) := by decide +kernel
theorem dX4_release_35 : decode cX4_release 35 = .ok (.aaload, 1) := by decide +kernel
theorem dX4_release_36 : decode cX4_release 36 = .ok (.astore 5, 2) := by decide +kernel
theorem dX4_release_38 : decode cX4_release 38 = .ok (.aload 5, 2) := by decide +kernel
theorem dX4_release_40 : decode cX4_release 40 = .ok (.ifnull 30, 3) := by decide +kernel
theorem dX4_release_43 : decode cX4_release 43 = .ok (.aload 5, 2) := by decide +kernel
theorem dX4_release_45 : decode cX4_release 45 = .ok (.getfield 178, 3) := by decide +kernel
theorem dX4_release_48 : decode cX4_release 48 = .ok (.aload_n 1, 1) := by decide +kernel
theorem dX4_release_49 : decode cX4_release 49 = .ok (.if_acmp .ne 21, 3) := by decide +kernel
theorem dX4_release_52 : decode cX4_release 52 = .ok (.aload 5, 2) := by decide +kernel
theorem dX4_release_54 : decode cX4_release 54 = .ok (.iconst (-1), 1) := by decide +kernel
theorem dX4_release_55 : decode cX4_release 55 = .ok (.putfield 193, 3) := by decide +kernel
theorem dX4_release_58 : decode cX4_release 58 = .ok (.aload 5, 2) := by decide +kernel
theorem dX4_release_60 : decode cX4_release 60 = .ok (.iconst 0, 1) := by decide +kernel
theorem dX4_release_61 : decode cX4_release 61 = .ok (.putfield 243, 3) := by decide +kernel
theorem dX4_release_64 : decode cX4_release 64 = .ok (.aload 5, 2) := by decide +kernel
theorem dX4_release_66 : decode cX4_release 66 = .ok (.iconst 0, 1) := by decide +kernel
theorem dX4_release_67 : decode cX4_release 67 = .ok (.putfield 196, 3) := by decide +kernel
theorem dX4_release_70 : decode cX4_release 70 = .ok (.iinc 4 1, 3) := by decide +kernel
theorem dX4_release_73 : decode cX4_release 73 = .ok (.goto (-47), 3) := by decide +kernel
theorem dX4_release_76 : decode cX4_release 76 = .ok (.return_, 1) := by decide +kernel
theorem dX4_letGo_0 : decode cX4_letGo 0 = .ok (.aload_n 1, 1) := by decide +kernel
theorem dX4_letGo_1 : decode cX4_letGo 1 = .ok (.ifnonnull 5, 3) := by decide +kernel
theorem dX4_letGo_4 : decode cX4_letGo 4 = .ok (.iconst 0, 1) := by decide +kernel
theorem dX4_letGo_5 : decode cX4_letGo 5 = .ok (.ireturn, 1) := by decide +kernel
theorem dX4_letGo_6 : decode cX4_letGo 6 = .ok (.aload_n 1, 1) := by decide +kernel
theorem dX4_letGo_7 : decode cX4_letGo 7 = .ok (.getfield 63, 3) := by decide +kernel
theorem dX4_letGo_10 : decode cX4_letGo 10 = .ok (.ifCond .ne 10, 3) := by decide +kernel
theorem dX4_letGo_13 : decode cX4_letGo 13 = .ok (.aload_n 0, 1) := by decide +kernel
theorem dX4_letGo_14 : decode cX4_letGo 14 = .ok (.aload_n 1, 1) := by decide +kernel
theorem dX4_letGo_15 : decode cX4_letGo 15 = .ok (.invokevirtual 253, 3) := by decide +kernel
theorem dX4_letGo_18 : decode cX4_letGo 18 = .ok (.iconst 0, 1) := by decide +kernel
theorem dX4_letGo_19 : decode cX4_letGo 19 = .ok (.ireturn, 1) := by decide +kernel
theorem dX4_letGo_20 : decode cX4_letGo 20 = .ok (.aload_n 1, 1) := by decide +kernel
theorem dX4_letGo_21 : decode cX4_letGo 21 = .ok (.getfield 129, 3) := by decide +kernel
theorem dX4_letGo_24 : decode cX4_letGo 24 = .ok (.ifCond .eq 5, 3) := by decide +kernel
theorem dX4_letGo_27 : decode cX4_letGo 27 = .ok (.iconst 0, 1) := by decide +kernel
theorem dX4_letGo_28 : decode cX4_letGo 28 = .ok (.ireturn, 1) := by decide +kernel
theorem dX4_letGo_29 : decode cX4_letGo 29 = .ok (.aload_n 1, 1) := by decide +kernel
theorem dX4_letGo_30 : decode cX4_letGo 30 = .ok (.aload_n 0, 1) := by decide +kernel
theorem dX4_letGo_31 : decode cX4_letGo 31 = .ok (.aload_n 1, 1) := by decide +kernel
theorem dX4_letGo_32 : decode cX4_letGo 32 = .ok (.aconst_null, 1) := by decide +kernel
theorem dX4_letGo_33 : decode cX4_letGo 33 = .ok (.invokevirtual 333, 3) := by decide +kernel
theorem dX4_letGo_36 : decode cX4_letGo 36 = .ok (.aload_n 0, 1) := by decide +kernel
theorem dX4_letGo_37 : decode cX4_letGo 37 = .ok (.aload_n 1, 1) := by decide +kernel
theorem dX4_letGo_38 : decode cX4_letGo 38 = .ok (.invokevirtual 101, 3) := by decide +kernel
theorem dX4_letGo_41 : decode cX4_letGo 41 = .ok (.aload_n 1, 1) := by decide +kernel
theorem dX4_letGo_42 : decode cX4_letGo 42 = .ok (.getfield 123, 3) := by decide +kernel
theorem dX4_letGo_45 : decode cX4_letGo 45 = .ok (.invokestatic 105, 3) := by decide +kernel
theorem dX4_letGo_48 : decode cX4_letGo 48 = .ok (.invokestatic 337, 3) := by decide +kernel
theorem dX4_letGo_51 : decode cX4_letGo 51 = .ok (.aload_n 1, 1) := by decide +kernel
theorem dX4_letGo_52 : decode cX4_letGo 52 = .ok (.getfield 133, 3) := by decide +kernel
theorem dX4_letGo_55 : decode cX4_letGo 55 = .ok (.ifnull 7, 3) := by decide +kernel
theorem dX4_letGo_58 : decode cX4_letGo 58 = .ok (.iconst 1, 1) := by decide +kernel
theorem dX4_letGo_59 : decode cX4_letGo 59 = .ok (.goto 4, 3) := by decide +kernel
theorem dX4_letGo_62 : decode cX4_letGo 62 = .ok (.iconst 0, 1) := by decide +kernel
theorem dX4_letGo_63 : decode cX4_letGo 63 = .ok (.ireturn, 1) := by decide +kernel
theorem dX4_canTellInterest_0 : decode cX4_canTellInterest 0 = .ok (.aload_n 1, 1) := by decide +kernel
theorem dX4_canTellInterest_1 : decode cX4_canTellInterest 1 = .ok (.ifnull 33, 3) := by decide +kernel
theorem dX4_canTellInterest_4 : decode cX4_canTellInterest 4 = .ok (.aload_n 1, 1) := by decide +kernel
theorem dX4_canTellInterest_5 : decode cX4_canTellInterest 5 = .ok (.getfield 63, 3) := by decide +kernel
theorem dX4_canTellInterest_8 : decode cX4_canTellInterest 8 = .ok (.ifCond .ne 26, 3) := by decide +kernel
theorem dX4_canTellInterest_11 : decode cX4_canTellInterest 11 = .ok (.aload_n 0, 1) := by decide +kernel
theorem dX4_canTellInterest_12 : decode cX4_canTellInterest 12 = .ok (.getfield 381, 3) := by decide +kernel
theorem dX4_canTellInterest_15 : decode cX4_canTellInterest 15 = .ok (.ifCond .lt 19, 3) := by decide +kernel
theorem dX4_canTellInterest_18 : decode cX4_canTellInterest 18 = .ok (.aload_n 0, 1) := by decide +kernel
theorem dX4_canTellInterest_19 : decode cX4_canTellInterest 19 = .ok (.getfield 381, 3) := by decide +kernel
theorem dX4_canTellInterest_22 : decode cX4_canTellInterest 22 = .ok (.aload_n 0, 1) := by decide +kernel
theorem dX4_canTellInterest_23 : decode cX4_canTellInterest 23 = .ok (.getfield 23, 3) := by decide +kernel
theorem dX4_canTellInterest_26 : decode cX4_canTellInterest 26 = .ok (.arraylength, 1) := by decide +kernel
theorem dX4_canTellInterest_27 : decode cX4_canTellInterest 27 = .ok (.if_icmp .ge 7, 3) := by decide +kernel
theorem dX4_canTellInterest_30 : decode cX4_canTellInterest 30 = .ok (.iconst 1, 1) := by decide +kernel
theorem dX4_canTellInterest_31 : decode cX4_canTellInterest 31 = .ok (.goto 4, 3) := by decide +kernel
theorem dX4_canTellInterest_34 : decode cX4_canTellInterest 34 = .ok (.iconst 0, 1) := by decide +kernel
theorem dX4_canTellInterest_35 : decode cX4_canTellInterest 35 = .ok (.ireturn, 1) := by decide +kernel
theorem dX4_tellInterest_0 : decode cX4_tellInterest 0 = .ok (.aload_n 0, 1) := by decide +kernel
theorem dX4_tellInterest_1 : decode cX4_tellInterest 1 = .ok (.getfield 381, 3) := by decide +kernel
theorem dX4_tellInterest_4 : decode cX4_tellInterest 4 = .ok (.istore 6, 2) := by decide +kernel
theorem dX4_tellInterest_6 : decode cX4_tellInterest 6 = .ok (.iload 6, 2) := by decide +kernel
theorem dX4_tellInterest_8 : decode cX4_tellInterest 8 = .ok (.ifCond .lt 13, 3) := by decide +kernel
theorem dX4_tellInterest_11 : decode cX4_tellInterest 11 = .ok (.iload 6, 2) := by decide +kernel
theorem dX4_tellInterest_13 : decode cX4_tellInterest 13 = .ok (.aload_n 0, 1) := by decide +kernel
theorem dX4_tellInterest_14 : decode cX4_tellInterest 14 = .ok (.getfield 23, 3) := by decide +kernel
theorem dX4_tellInterest_17 : decode cX4_tellInterest 17 = .ok (.arraylength, 1) := by decide +kernel
theorem dX4_tellInterest_18 : decode cX4_tellInterest 18 = .ok (.if_icmp .lt 5, 3) := by decide +kernel
theorem dX4_tellInterest_21 : decode cX4_tellInterest 21 = .ok (.iconst (-1), 1) := by decide +kernel
theorem dX4_tellInterest_22 : decode cX4_tellInterest 22 = .ok (.ireturn, 1) := by decide +kernel
theorem dX4_tellInterest_23 : decode cX4_tellInterest 23 = .ok (.aload_n 0, 1) := by decide +kernel
theorem dX4_tellInterest_24 : decode cX4_tellInterest 24 = .ok (.getfield 23, 3) := by decide +kernel
theorem dX4_tellInterest_27 : decode cX4_tellInterest 27 = .ok (.iload 6, 2) := by decide +kernel
theorem dX4_tellInterest_29 : decode cX4_tellInterest 29 = .ok (.new 21, 3) := by decide +kernel
theorem dX4_tellInterest_32 : decode cX4_tellInterest 32 = .ok (.dup, 1) := by decide +kernel
theorem dX4_tellInterest_33 : decode cX4_tellInterest 33 = .ok (.iload 6, 2) := by decide +kernel
theorem dX4_tellInterest_35 : decode cX4_tellInterest 35 = .ok (.iload_n 1, 1) := by decide +kernel
theorem dX4_tellInterest_36 : decode cX4_tellInterest 36 = .ok (.aload_n 2, 1) := by decide +kernel
theorem dX4_tellInterest_37 : decode cX4_tellInterest 37 = .ok (.iload_n 3, 1) := by decide +kernel
theorem dX4_tellInterest_38 : decode cX4_tellInterest 38 = .ok (.aload_n 0, 1) := by decide +kernel
theorem dX4_tellInterest_39 : decode cX4_tellInterest 39 = .ok (.getfield 84, 3) := by decide +kernel
theorem dX4_tellInterest_42 : decode cX4_tellInterest 42 = .ok (.iload 4, 2) := by decide +kernel
theorem dX4_tellInterest_44 : decode cX4_tellInterest 44 = .ok (.iload 5, 2) := by decide +kernel
theorem dX4_tellInterest_46 : decode cX4_tellInterest 46 = .ok (.invokespecial 384, 3) := by decide +kernel
theorem dX4_tellInterest_49 : decode cX4_tellInterest 49 = .ok (.aastore, 1) := by decide +kernel
theorem dX4_tellInterest_50 : decode cX4_tellInterest 50 = .ok (.aload_n 0, 1) := by decide +kernel
theorem dX4_tellInterest_51 : decode cX4_tellInterest 51 = .ok (.iload 6, 2) := by decide +kernel
theorem dX4_tellInterest_53 : decode cX4_tellInterest 53 = .ok (.iconst 1, 1) := by decide +kernel
theorem dX4_tellInterest_54 : decode cX4_tellInterest 54 = .ok (.iadd, 1) := by decide +kernel
theorem dX4_tellInterest_55 : decode cX4_tellInterest 55 = .ok (.putfield 381, 3) := by decide +kernel
theorem dX4_tellInterest_58 : decode cX4_tellInterest 58 = .ok (.iload 6, 2) := by decide +kernel
theorem dX4_tellInterest_60 : decode cX4_tellInterest 60 = .ok (.ireturn, 1) := by decide +kernel
theorem dX4_sharesOf_0 : decode cX4_sharesOf 0 = .ok (.iconst 0, 1) := by decide +kernel
theorem dX4_sharesOf_1 : decode cX4_sharesOf 1 = .ok (.istore_n 2, 1) := by decide +kernel
theorem dX4_sharesOf_2 : decode cX4_sharesOf 2 = .ok (.aload_n 0, 1) := by decide +kernel
theorem dX4_sharesOf_3 : decode cX4_sharesOf 3 = .ok (.getfield 23, 3) := by decide +kernel
theorem dX4_sharesOf_6 : decode cX4_sharesOf 6 = .ok (.astore_n 3, 1) := by decide +kernel
theorem dX4_sharesOf_7 : decode cX4_sharesOf 7 = .ok (.aload_n 3, 1) := by decide +kernel
theorem dX4_sharesOf_8 : decode cX4_sharesOf 8 = .ok (.arraylength, 1) := by decide +kernel
theorem dX4_sharesOf_9 : decode cX4_sharesOf 9 = .ok (.istore 4, 2) := by decide +kernel
theorem dX4_sharesOf_11 : decode cX4_sharesOf 11 = .ok (.iconst 0, 1) := by decide +kernel
theorem dX4_sharesOf_12 : decode cX4_sharesOf 12 = .ok (.istore 5, 2) := by decide +kernel
theorem dX4_sharesOf_14 : decode cX4_sharesOf 14 = .ok (.iload 5, 2) := by decide +kernel
theorem dX4_sharesOf_16 : decode cX4_sharesOf 16 = .ok (.iload 4, 2) := by decide +kernel
theorem dX4_sharesOf_18 : decode cX4_sharesOf 18 = .ok (.if_icmp .ge 45, 3) := by decide +kernel
theorem dX4_sharesOf_21 : decode cX4_sharesOf 21 = .ok (.aload_n 3, 1) := by decide +kernel
theorem dX4_sharesOf_22 : decode cX4_sharesOf 22 = .ok (.iload 5, 2) := by decide +kernel
theorem dX4_sharesOf_24 : decode cX4_sharesOf 24 = .ok (.aaload, 1) := by decide +kernel
theorem dX4_sharesOf_25 : decode cX4_sharesOf 25 = .ok (.astore 6, 2) := by decide +kernel
theorem dX4_sharesOf_27 : decode cX4_sharesOf 27 = .ok (.aload 6, 2) := by decide +kernel
theorem dX4_sharesOf_29 : decode cX4_sharesOf 29 = .ok (.ifnull 28, 3) := by decide +kernel
theorem dX4_sharesOf_32 : decode cX4_sharesOf 32 = .ok (.aload 6, 2) := by decide +kernel
theorem dX4_sharesOf_34 : decode cX4_sharesOf 34 = .ok (.getfield 175, 3) := by decide +kernel
theorem dX4_sharesOf_37 : decode cX4_sharesOf 37 = .ok (.ifCond .ne 20, 3) := by decide +kernel
theorem dX4_sharesOf_40 : decode cX4_sharesOf 40 = .ok (.aload 6, 2) := by decide +kernel
theorem dX4_sharesOf_42 : decode cX4_sharesOf 42 = .ok (.getfield 178, 3) := by decide +kernel
theorem dX4_sharesOf_45 : decode cX4_sharesOf 45 = .ok (.aload_n 1, 1) := by decide +kernel
theorem dX4_sharesOf_46 : decode cX4_sharesOf 46 = .ok (.if_acmp .ne 11, 3) := by decide +kernel
theorem dX4_sharesOf_49 : decode cX4_sharesOf 49 = .ok (.iload_n 2, 1) := by decide +kernel
theorem dX4_sharesOf_50 : decode cX4_sharesOf 50 = .ok (.aload 6, 2) := by decide +kernel
theorem dX4_sharesOf_52 : decode cX4_sharesOf 52 = .ok (.getfield 190, 3) := by decide +kernel
theorem dX4_sharesOf_55 : decode cX4_sharesOf 55 = .ok (.iadd, 1) := by decide +kernel
theorem dX4_sharesOf_56 : decode cX4_sharesOf 56 = .ok (.istore_n 2, 1) := by decide +kernel
theorem dX4_sharesOf_57 : decode cX4_sharesOf 57 = .ok (.iinc 5 1, 3) := by decide +kernel
theorem dX4_sharesOf_60 : decode cX4_sharesOf 60 = .ok (.goto (-46), 3) := by decide +kernel
theorem dX4_sharesOf_63 : decode cX4_sharesOf 63 = .ok (.iload_n 2, 1) := by decide +kernel
theorem dX4_sharesOf_64 : decode cX4_sharesOf 64 = .ok (.ireturn, 1) := by decide +kernel
theorem dX4_isOver_0 : decode cX4_isOver 0 = .ok (.aload_n 0, 1) := by decide +kernel
theorem dX4_isOver_1 : decode cX4_isOver 1 = .ok (.ifnull 23, 3) := by decide +kernel
theorem dX4_isOver_4 : decode cX4_isOver 4 = .ok (.aload_n 0, 1) := by decide +kernel
theorem dX4_isOver_5 : decode cX4_isOver 5 = .ok (.getfield 175, 3) := by decide +kernel
theorem dX4_isOver_8 : decode cX4_isOver 8 = .ok (.iconst 1, 1) := by decide +kernel
theorem dX4_isOver_9 : decode cX4_isOver 9 = .ok (.if_icmp .ne 15, 3) := by decide +kernel
theorem dX4_isOver_12 : decode cX4_isOver 12 = .ok (.iload_n 1, 1) := by decide +kernel
theorem dX4_isOver_13 : decode cX4_isOver 13 = .ok (.aload_n 0, 1) := by decide +kernel
theorem dX4_isOver_14 : decode cX4_isOver 14 = .ok (.getfield 190, 3) := by decide +kernel
theorem dX4_isOver_17 : decode cX4_isOver 17 = .ok (.if_icmp .lt 7, 3) := by decide +kernel
theorem dX4_isOver_20 : decode cX4_isOver 20 = .ok (.iconst 1, 1) := by decide +kernel
theorem dX4_isOver_21 : decode cX4_isOver 21 = .ok (.goto 4, 3) := by decide +kernel
theorem dX4_isOver_24 : decode cX4_isOver 24 = .ok (.iconst 0, 1) := by decide +kernel
theorem dX4_isOver_25 : decode cX4_isOver 25 = .ok (.ireturn, 1) := by decide +kernel
theorem dX4_wasTaken_0 : decode cX4_wasTaken 0 = .ok (.aload_n 0, 1) := by decide +kernel
theorem dX4_wasTaken_1 : decode cX4_wasTaken 1 = .ok (.ifnull 15, 3) := by decide +kernel
theorem dX4_wasTaken_4 : decode cX4_wasTaken 4 = .ok (.aload_n 0, 1) := by decide +kernel
theorem dX4_wasTaken_5 : decode cX4_wasTaken 5 = .ok (.getfield 126, 3) := by decide +kernel
theorem dX4_wasTaken_8 : decode cX4_wasTaken 8 = .ok (.iconst (-1), 1) := by decide +kernel
theorem dX4_wasTaken_9 : decode cX4_wasTaken 9 = .ok (.if_icmp .eq 7, 3) := by decide +kernel
theorem dX4_wasTaken_12 : decode cX4_wasTaken 12 = .ok (.iconst 1, 1) := by decide +kernel
theorem dX4_wasTaken_13 : decode cX4_wasTaken 13 = .ok (.goto 4, 3) := by decide +kernel
theorem dX4_wasTaken_16 : decode cX4_wasTaken 16 = .ok (.iconst 0, 1) := by decide +kernel
theorem dX4_wasTaken_17 : decode cX4_wasTaken 17 = .ok (.ireturn, 1) := by decide +kernel
theorem dX4_take_0 : decode cX4_take 0 = .ok (.aload_n 1, 1) := by decide +kernel
theorem dX4_take_1 : decode cX4_take 1 = .ok (.ifnonnull 5, 3) := by decide +kernel
theorem dX4_take_4 : decode cX4_take 4 = .ok (.iconst 0, 1) := by decide +kernel
theorem dX4_take_5 : decode cX4_take 5 = .ok (.ireturn, 1) := by decide +kernel
theorem dX4_take_6 : decode cX4_take 6 = .ok (.aload_n 1, 1) := by decide +kernel
theorem dX4_take_7 : decode cX4_take 7 = .ok (.iconst 1, 1) := by decide +kernel
theorem dX4_take_8 : decode cX4_take 8 = .ok (.putfield 63, 3) := by decide +kernel
theorem dX4_take_11 : decode cX4_take 11 = .ok (.aload_n 1, 1) := by decide +kernel
theorem dX4_take_12 : decode cX4_take 12 = .ok (.aload_n 0, 1) := by decide +kernel
theorem dX4_take_13 : decode cX4_take 13 = .ok (.getfield 84, 3) := by decide +kernel
theorem dX4_take_16 : decode cX4_take 16 = .ok (.putfield 126, 3) := by decide +kernel
theorem dX4_take_19 : decode cX4_take 19 = .ok (.aload_n 1, 1) := by decide +kernel
theorem dX4_take_20 : decode cX4_take 20 = .ok (.aload_n 0, 1) := by decide +kernel
theorem dX4_take_21 : decode cX4_take 21 = .ok (.aload_n 1, 1) := by decide +kernel
theorem dX4_take_22 : decode cX4_take 22 = .ok (.getfield 79, 3) := by decide +kernel
theorem dX4_take_25 : decode cX4_take 25 = .ok (.aload_n 0, 1) := by decide +kernel
theorem dX4_take_26 : decode cX4_take 26 = .ok (.getfield 84, 3) := by decide +kernel
theorem dX4_take_29 : decode cX4_take 29 = .ok (.invokevirtual 87, 3) := by decide +kernel
theorem dX4_take_32 : decode cX4_take 32 = .ok (.putfield 387, 3) := by decide +kernel
theorem dX4_take_35 : decode cX4_take 35 = .ok (.aload_n 1, 1) := by decide +kernel
theorem dX4_take_36 : decode cX4_take 36 = .ok (.invokestatic 303, 3) := by decide +kernel
theorem dX4_take_39 : decode cX4_take 39 = .ok (.istore_n 2, 1) := by decide +kernel
theorem dX4_take_40 : decode cX4_take 40 = .ok (.aload_n 0, 1) := by decide +kernel
theorem dX4_take_41 : decode cX4_take 41 = .ok (.getfield 23, 3) := by decide +kernel
theorem dX4_take_44 : decode cX4_take 44 = .ok (.astore_n 3, 1) := by decide +kernel
theorem dX4_take_45 : decode cX4_take 45 = .ok (.aload_n 3, 1) := by decide +kernel
theorem dX4_take_46 : decode cX4_take 46 = .ok (.arraylength, 1) := by decide +kernel
theorem dX4_take_47 : decode cX4_take 47 = .ok (.istore 4, 2) := by decide +kernel
theorem dX4_take_49 : decode cX4_take 49 = .ok (.iconst 0, 1) := by decide +kernel
theorem dX4_take_50 : decode cX4_take 50 = .ok (.istore 5, 2) := by decide +kernel
theorem dX4_take_52 : decode cX4_take 52 = .ok (.iload 5, 2) := by decide +kernel
theorem dX4_take_54 : decode cX4_take 54 = .ok (.iload 4, 2) := by decide +kernel
theorem dX4_take_56 : decode cX4_take 56 = .ok (.if_icmp .ge 55, 3) := by decide +kernel
theorem dX4_take_59 : decode cX4_take 59 = .ok (.aload_n 3, 1) := by decide +kernel
theorem dX4_take_60 : decode cX4_take 60 = .ok (.iload 5, 2) := by decide +kernel
theorem dX4_take_62 : decode cX4_take 62 = .ok (.aaload, 1) := by decide +kernel
theorem dX4_take_63 : decode cX4_take 63 = .ok (.astore 6, 2) := by decide +kernel
theorem dX4_take_65 : decode cX4_take 65 = .ok (.aload 6, 2) := by decide +kernel
theorem dX4_take_67 : decode cX4_take 67 = .ok (.ifnull 38, 3) := by decide +kernel
theorem dX4_take_70 : decode cX4_take 70 = .ok (.aload 6, 2) := by decide +kernel
theorem dX4_take_72 : decode cX4_take 72 = .ok (.getfield 178, 3) := by decide +kernel
theorem dX4_take_75 : decode cX4_take 75 = .ok (.aload_n 1, 1) := by decide +kernel
theorem dX4_take_76 : decode cX4_take 76 = .ok (.if_acmp .ne 29, 3) := by decide +kernel
theorem dX4_take_79 : decode cX4_take 79 = .ok (.aload 6, 2) := by decide +kernel
theorem dX4_take_81 : decode cX4_take 81 = .ok (.aload_n 0, 1) := by decide +kernel
theorem dX4_take_82 : decode cX4_take 82 = .ok (.aload 6, 2) := by decide +kernel
theorem dX4_take_84 : decode cX4_take 84 = .ok (.iload_n 2, 1) := by decide +kernel
theorem dX4_take_85 : decode cX4_take 85 = .ok (.invokevirtual 306, 3) := by decide +kernel
theorem dX4_take_88 : decode cX4_take 88 = .ok (.putfield 199, 3) := by decide +kernel
theorem dX4_take_91 : decode cX4_take 91 = .ok (.aload_n 0, 1) := by decide +kernel
theorem dX4_take_92 : decode cX4_take 92 = .ok (.dup, 1) := by decide +kernel
theorem dX4_take_93 : decode cX4_take 93 = .ok (.getfield 348, 3) := by decide +kernel
theorem dX4_take_96 : decode cX4_take 96 = .ok (.aload 6, 2) := by decide +kernel
theorem dX4_take_98 : decode cX4_take 98 = .ok (.getfield 199, 3) := by decide +kernel
theorem dX4_take_101 : decode cX4_take 101 = .ok (.ladd, 1) := by decide +kernel
theorem dX4_take_102 : decode cX4_take 102 = .ok (.putfield 348, 3) := by decide +kernel
theorem dX4_take_105 : decode cX4_take 105 = .ok (.iinc 5 1, 3) := by decide +kernel
theorem dX4_take_108 : decode cX4_take 108 = .ok (.goto (-56), 3) := by decide +kernel
theorem dX4_take_111 : decode cX4_take 111 = .ok (.aload_n 0, 1) := by decide +kernel
theorem dX4_take_112 : decode cX4_take 112 = .ok (.dup, 1) := by decide +kernel
theorem dX4_take_113 : decode cX4_take 113 = .ok (.getfield 351, 3) := by decide +kernel
theorem dX4_take_116 : decode cX4_take 116 = .ok (.aload_n 0, 1) := by decide +kernel
theorem dX4_take_117 : decode cX4_take 117 = .ok (.aload_n 1, 1) := by decide +kernel
theorem dX4_take_118 : decode cX4_take 118 = .ok (.iload_n 2, 1) := by decide +kernel
theorem dX4_take_119 : decode cX4_take 119 = .ok (.invokevirtual 390, 3) := by decide +kernel
theorem dX4_take_122 : decode cX4_take 122 = .ok (.i2l, 1) := by decide +kernel
theorem dX4_take_123 : decode cX4_take 123 = .ok (.ladd, 1) := by decide +kernel
theorem dX4_take_124 : decode cX4_take 124 = .ok (.putfield 351, 3) := by decide +kernel
theorem dX4_take_127 : decode cX4_take 127 = .ok (.aload_n 0, 1) := by decide +kernel
theorem dX4_take_128 : decode cX4_take 128 = .ok (.dup, 1) := by decide +kernel
theorem dX4_take_129 : decode cX4_take 129 = .ok (.getfield 354, 3) := by decide +kernel
theorem dX4_take_132 : decode cX4_take 132 = .ok (.iload_n 2, 1) := by decide +kernel
theorem dX4_take_133 : decode cX4_take 133 = .ok (.i2l, 1) := by decide +kernel
theorem dX4_take_134 : decode cX4_take 134 = .ok (.ladd, 1) := by decide +kernel
theorem dX4_take_135 : decode cX4_take 135 = .ok (.putfield 354, 3) := by decide +kernel
theorem dX4_take_138 : decode cX4_take 138 = .ok (.iload_n 2, 1) := by decide +kernel
theorem dX4_take_139 : decode cX4_take 139 = .ok (.ireturn, 1) := by decide +kernel
theorem dX4_landOf_0 : decode cX4_landOf 0 = .ok (.aload_n 0, 1) := by decide +kernel
theorem dX4_landOf_1 : decode cX4_landOf 1 = .ok (.ifnonnull 7, 3) := by decide +kernel
theorem dX4_landOf_4 : decode cX4_landOf 4 = .ok (.aconst_null, 1) := by decide +kernel
theorem dX4_landOf_5 : decode cX4_landOf 5 = .ok (.goto 7, 3) := by decide +kernel
theorem dX4_landOf_8 : decode cX4_landOf 8 = .ok (.aload_n 0, 1) := by decide +kernel
theorem dX4_landOf_9 : decode cX4_landOf 9 = .ok (.getfield 230, 3) := by decide +kernel
theorem dX4_landOf_12 : decode cX4_landOf 12 = .ok (.astore_n 1, 1) := by decide +kernel
theorem dX4_landOf_13 : decode cX4_landOf 13 = .ok (.aload_n 0, 1) := by decide +kernel
theorem dX4_landOf_14 : decode cX4_landOf 14 = .ok (.ifnull 7, 3) := by decide +kernel
theorem dX4_landOf_17 : decode cX4_landOf 17 = .ok (.aload_n 1, 1) := by decide +kernel
theorem dX4_landOf_18 : decode cX4_landOf 18 = .ok (.ifnonnull 5, 3) := by decide +kernel
theorem dX4_landOf_21 : decode cX4_landOf 21 = .ok (.iconst 0, 1) := by decide +kernel
theorem dX4_landOf_22 : decode cX4_landOf 22 = .ok (.ireturn, 1) := by decide +kernel
theorem dX4_landOf_23 : decode cX4_landOf 23 = .ok (.aload_n 0, 1) := by decide +kernel
theorem dX4_landOf_24 : decode cX4_landOf 24 = .ok (.aload_n 0, 1) := by decide +kernel
theorem dX4_landOf_25 : decode cX4_landOf 25 = .ok (.getfield 387, 3) := by decide +kernel
theorem dX4_landOf_28 : decode cX4_landOf 28 = .ok (.invokestatic 97, 3) := by decide +kernel
theorem dX4_landOf_31 : decode cX4_landOf 31 = .ok (.istore_n 2, 1) := by decide +kernel
theorem dX4_landOf_32 : decode cX4_landOf 32 = .ok (.iload_n 2, 1) := by decide +kernel
theorem dX4_landOf_33 : decode cX4_landOf 33 = .ok (.aload_n 0, 1) := by decide +kernel
theorem dX4_landOf_34 : decode cX4_landOf 34 = .ok (.getfield 123, 3) := by decide +kernel
theorem dX4_landOf_37 : decode cX4_landOf 37 = .ok (.invokestatic 105, 3) := by decide +kernel
theorem dX4_landOf_40 : decode cX4_landOf 40 = .ok (.istore_n 3, 1) := by decide +kernel
theorem dX4_landOf_41 : decode cX4_landOf 41 = .ok (.iload_n 2, 1) := by decide +kernel
theorem dX4_landOf_42 : decode cX4_landOf 42 = .ok (.iload_n 3, 1) := by decide +kernel
theorem dX4_landOf_43 : decode cX4_landOf 43 = .ok (.isub, 1) := by decide +kernel
theorem dX4_landOf_44 : decode cX4_landOf 44 = .ok (.istore 4, 2) := by decide +kernel
theorem dX4_landOf_46 : decode cX4_landOf 46 = .ok (.iload_n 3, 1) := by decide +kernel
theorem dX4_landOf_47 : decode cX4_landOf 47 = .ok (.iload 4, 2) := by decide +kernel
theorem dX4_landOf_49 : decode cX4_landOf 49 = .ok (.aload_n 1, 1) := by decide +kernel
theorem dX4_landOf_50 : decode cX4_landOf 50 = .ok (.getfield 394, 3) := by decide +kernel
theorem dX4_landOf_53 : decode cX4_landOf 53 = .ok (.invokestatic 105, 3) := by decide +kernel
theorem dX4_landOf_56 : decode cX4_landOf 56 = .ok (.iadd, 1) := by decide +kernel
theorem dX4_landOf_57 : decode cX4_landOf 57 = .ok (.iload 4, 2) := by decide +kernel
theorem dX4_landOf_59 : decode cX4_landOf 59 = .ok (.aload_n 1, 1) := by decide +kernel
theorem dX4_landOf_60 : decode cX4_landOf 60 = .ok (.getfield 397, 3) := by decide +kernel
theorem dX4_landOf_63 : decode cX4_landOf 63 = .ok (.invokestatic 105, 3) := by decide +kernel
theorem dX4_landOf_66 : decode cX4_landOf 66 = .ok (.isub, 1) := by decide +kernel
theorem dX4_landOf_67 : decode cX4_landOf 67 = .ok (.istore 5, 2) := by decide +kernel
theorem dX4_landOf_69 : decode cX4_landOf 69 = .ok (.iconst 0, 1) := by decide +kernel
theorem dX4_landOf_70 : decode cX4_landOf 70 = .ok (.iload 5, 2) := by decide +kernel
theorem dX4_landOf_72 : decode cX4_landOf 72 = .ok (.invokestatic 400, 3) := by decide +kernel
theorem dX4_landOf_75 : decode cX4_landOf 75 = .ok (.ireturn, 1) := by decide +kernel
theorem dX4_sumBy_0 : decode cX4_sumBy 0 = .ok (.aload_n 1, 1) := by decide +kernel
theorem dX4_sumBy_1 : decode cX4_sumBy 1 = .ok (.ifnull 10, 3) := by decide +kernel
theorem dX4_sumBy_4 : decode cX4_sumBy 4 = .ok (.aload_n 1, 1) := by decide +kernel
theorem dX4_sumBy_5 : decode cX4_sumBy 5 = .ok (.getfield 178, 3) := by decide +kernel
theorem dX4_sumBy_8 : decode cX4_sumBy 8 = .ok (.ifnonnull 5, 3) := by decide +kernel
theorem dX4_sumBy_11 : decode cX4_sumBy 11 = .ok (.lconst 0, 1) := by decide +kernel
theorem dX4_sumBy_12 : decode cX4_sumBy 12 = .ok (.lreturn, 1) := by decide +kernel
theorem dX4_sumBy_13 : decode cX4_sumBy 13 = .ok (.aload_n 1, 1) := by decide +kernel
theorem dX4_sumBy_14 : decode cX4_sumBy 14 = .ok (.getfield 175, 3) := by decide +kernel
theorem dX4_sumBy_17 : decode cX4_sumBy 17 = .ok (.lookupswitch 49 #[(0, 27), (1, 39)], 27) := by decide +kernel
theorem dX4_sumBy_44 : decode cX4_sumBy 44 = .ok (.aload_n 0, 1) := by decide +kernel
theorem dX4_sumBy_45 : decode cX4_sumBy 45 = .ok (.aload_n 1, 1) := by decide +kernel
theorem dX4_sumBy_46 : decode cX4_sumBy 46 = .ok (.aload_n 1, 1) := by decide +kernel
theorem dX4_sumBy_47 : decode cX4_sumBy 47 = .ok (.getfield 178, 3) := by decide +kernel
theorem dX4_sumBy_50 : decode cX4_sumBy 50 = .ok (.iload_n 2, 1) := by decide +kernel
theorem dX4_sumBy_51 : decode cX4_sumBy 51 = .ok (.invokevirtual 405, 3) := by decide +kernel
theorem dX4_sumBy_54 : decode cX4_sumBy 54 = .ok (.i2l, 1) := by decide +kernel
theorem dX4_sumBy_55 : decode cX4_sumBy 55 = .ok (.lreturn, 1) := by decide +kernel
theorem dX4_sumBy_56 : decode cX4_sumBy 56 = .ok (.aload_n 1, 1) := by decide +kernel
theorem dX4_sumBy_57 : decode cX4_sumBy 57 = .ok (.aload_n 1, 1) := by decide +kernel
theorem dX4_sumBy_58 : decode cX4_sumBy 58 = .ok (.getfield 178, 3) := by decide +kernel
theorem dX4_sumBy_61 : decode cX4_sumBy 61 = .ok (.invokestatic 409, 3) := by decide +kernel
theorem dX4_sumBy_64 : decode cX4_sumBy 64 = .ok (.i2l, 1) := by decide +kernel
theorem dX4_sumBy_65 : decode cX4_sumBy 65 = .ok (.lreturn, 1) := by decide +kernel
theorem dX4_sumBy_66 : decode cX4_sumBy 66 = .ok (.aload_n 1, 1) := by decide +kernel
theorem dX4_sumBy_67 : decode cX4_sumBy 67 = .ok (.getfield 190, 3) := by decide +kernel
theorem dX4_sumBy_70 : decode cX4_sumBy 70 = .ok (.aload_n 0, 1) := by decide +kernel
theorem dX4_sumBy_71 : decode cX4_sumBy 71 = .ok (.aload_n 1, 1) := by decide +kernel
theorem dX4_sumBy_72 : decode cX4_sumBy 72 = .ok (.getfield 178, 3) := by decide +kernel
theorem dX4_sumBy_75 : decode cX4_sumBy 75 = .ok (.iload_n 2, 1) := by decide +kernel
theorem dX4_sumBy_76 : decode cX4_sumBy 76 = .ok (.aload_n 1, 1) := by decide +kernel
theorem dX4_sumBy_77 : decode cX4_sumBy 77 = .ok (.getfield 359, 3) := by decide +kernel
theorem dX4_sumBy_80 : decode cX4_sumBy 80 = .ok (.invokevirtual 413, 3) := by decide +kernel
theorem dX4_sumBy_83 : decode cX4_sumBy 83 = .ok (.invokestatic 417, 3) := by decide +kernel
theorem dX4_sumBy_86 : decode cX4_sumBy 86 = .ok (.i2l, 1) := by decide +kernel
theorem dX4_sumBy_87 : decode cX4_sumBy 87 = .ok (.lreturn, 1) := by decide +kernel
theorem dX4_ownerSum_0 : decode cX4_ownerSum 0 = .ok (.aload_n 1, 1) := by decide +kernel
theorem dX4_ownerSum_1 : decode cX4_ownerSum 1 = .ok (.ifnull 7, 3) := by decide +kernel
theorem dX4_ownerSum_4 : decode cX4_ownerSum 4 = .ok (.aload_n 2, 1) := by decide +kernel
theorem dX4_ownerSum_5 : decode cX4_ownerSum 5 = .ok (.ifnonnull 5, 3) := by decide +kernel
theorem dX4_ownerSum_8 : decode cX4_ownerSum 8 = .ok (.iconst 0, 1) := by decide +kernel
theorem dX4_ownerSum_9 : decode cX4_ownerSum 9 = .ok (.ireturn, 1) := by decide +kernel
theorem dX4_ownerSum_10 : decode cX4_ownerSum 10 = .ok (.aload_n 0, 1) := by decide +kernel
theorem dX4_ownerSum_11 : decode cX4_ownerSum 11 = .ok (.aload_n 2, 1) := by decide +kernel
theorem dX4_ownerSum_12 : decode cX4_ownerSum 12 = .ok (.iload_n 3, 1) := by decide +kernel
theorem dX4_ownerSum_13 : decode cX4_ownerSum 13 = .ok (.bipush 24, 2) := by decide +kernel
theorem dX4_ownerSum_15 : decode cX4_ownerSum 15 = .ok (.invokevirtual 413, 3) := by decide +kernel
theorem dX4_ownerSum_18 : decode cX4_ownerSum 18 = .ok (.aload_n 1, 1) := by decide +kernel
theorem dX4_ownerSum_19 : decode cX4_ownerSum 19 = .ok (.getfield 190, 3) := by decide +kernel
theorem dX4_ownerSum_22 : decode cX4_ownerSum 22 = .ok (.invokestatic 105, 3) := by decide +kernel
theorem dX4_ownerSum_25 : decode cX4_ownerSum 25 = .ok (.istore 4, 2) := by decide +kernel
theorem dX4_ownerSum_27 : decode cX4_ownerSum 27 = .ok (.aload_n 2, 1) := by decide +kernel
theorem dX4_ownerSum_28 : decode cX4_ownerSum 28 = .ok (.getfield 79, 3) := by decide +kernel
theorem dX4_ownerSum_31 : decode cX4_ownerSum 31 = .ok (.iconst 1, 1) := by decide +kernel
theorem dX4_ownerSum_32 : decode cX4_ownerSum 32 = .ok (.if_icmp .ne 31, 3) := by decide +kernel
theorem dX4_ownerSum_35 : decode cX4_ownerSum 35 = .ok (.aload_n 2, 1) := by decide +kernel
theorem dX4_ownerSum_36 : decode cX4_ownerSum 36 = .ok (.getfield 123, 3) := by decide +kernel
theorem dX4_ownerSum_39 : decode cX4_ownerSum 39 = .ok (.bipush 100, 2) := by decide +kernel
theorem dX4_ownerSum_41 : decode cX4_ownerSum 41 = .ok (.if_icmp .ne 22, 3) := by decide +kernel
theorem dX4_ownerSum_44 : decode cX4_ownerSum 44 = .ok (.aload_n 2, 1) := by decide +kernel
theorem dX4_ownerSum_45 : decode cX4_ownerSum 45 = .ok (.getfield 126, 3) := by decide +kernel
theorem dX4_ownerSum_48 : decode cX4_ownerSum 48 = .ok (.aload_n 1, 1) := by decide +kernel
theorem dX4_ownerSum_49 : decode cX4_ownerSum 49 = .ok (.getfield 187, 3) := by decide +kernel
theorem dX4_ownerSum_52 : decode cX4_ownerSum 52 = .ok (.isub, 1) := by decide +kernel
theorem dX4_ownerSum_53 : decode cX4_ownerSum 53 = .ok (.sipush 365, 3) := by decide +kernel
theorem dX4_ownerSum_56 : decode cX4_ownerSum 56 = .ok (.if_icmp .lt 7, 3) := by decide +kernel
theorem dX4_ownerSum_59 : decode cX4_ownerSum 59 = .ok (.iconst 1, 1) := by decide +kernel
theorem dX4_ownerSum_60 : decode cX4_ownerSum 60 = .ok (.goto 4, 3) := by decide +kernel
theorem dX4_ownerSum_63 : decode cX4_ownerSum 63 = .ok (.iconst 0, 1) := by decide +kernel
theorem dX4_ownerSum_64 : decode cX4_ownerSum 64 = .ok (.istore 5, 2) := by decide +kernel
theorem dX4_ownerSum_66 : decode cX4_ownerSum 66 = .ok (.iload 5, 2) := by decide +kernel
theorem dX4_ownerSum_68 : decode cX4_ownerSum 68 = .ok (.ifCond .eq 14, 3) := by decide +kernel
theorem dX4_ownerSum_71 : decode cX4_ownerSum 71 = .ok (.iload 4, 2) := by decide +kernel
theorem dX4_ownerSum_73 : decode cX4_ownerSum 73 = .ok (.iload 4, 2) := by decide +kernel
theorem dX4_ownerSum_75 : decode cX4_ownerSum 75 = .ok (.bipush 10, 2) := by decide +kernel
theorem dX4_ownerSum_77 : decode cX4_ownerSum 77 = .ok (.idiv, 1) := by decide +kernel
theorem dX4_ownerSum_78 : decode cX4_ownerSum 78 = .ok (.iadd, 1) := by decide +kernel
theorem dX4_ownerSum_79 : decode cX4_ownerSum 79 = .ok (.goto 5, 3) := by decide +kernel
theorem dX4_ownerSum_82 : decode cX4_ownerSum 82 = .ok (.iload 4, 2) := by decide +kernel
theorem dX4_ownerSum_84 : decode cX4_ownerSum 84 = .ok (.ireturn, 1) := by decide +kernel
theorem dX4_leaseSum_0 : decode cX4_leaseSum 0 = .ok (.aload_n 0, 1) := by decide +kernel
theorem dX4_leaseSum_1 : decode cX4_leaseSum 1 = .ok (.ifnull 18, 3) := by decide +kernel
theorem dX4_leaseSum_4 : decode cX4_leaseSum 4 = .ok (.aload_n 1, 1) := by decide +kernel
theorem dX4_leaseSum_5 : decode cX4_leaseSum 5 = .ok (.ifnull 14, 3) := by decide +kernel
theorem dX4_leaseSum_8 : decode cX4_leaseSum 8 = .ok (.aload_n 0, 1) := by decide +kernel
theorem dX4_leaseSum_9 : decode cX4_leaseSum 9 = .ok (.aload_n 1, 1) := by decide +kernel
theorem dX4_leaseSum_10 : decode cX4_leaseSum 10 = .ok (.getfield 126, 3) := by decide +kernel
theorem dX4_leaseSum_13 : decode cX4_leaseSum 13 = .ok (.invokestatic 377, 3) := by decide +kernel
theorem dX4_leaseSum_16 : decode cX4_leaseSum 16 = .ok (.ifCond .eq 5, 3) := by decide +kernel
theorem dX4_leaseSum_19 : decode cX4_leaseSum 19 = .ok (.iconst 0, 1) := by decide +kernel
theorem dX4_leaseSum_20 : decode cX4_leaseSum 20 = .ok (.ireturn, 1) := by decide +kernel
theorem dX4_leaseSum_21 : decode cX4_leaseSum 21 = .ok (.sipush 730, 3) := by decide +kernel
theorem dX4_leaseSum_24 : decode cX4_leaseSum 24 = .ok (.aload_n 0, 1) := by decide +kernel
theorem dX4_leaseSum_25 : decode cX4_leaseSum 25 = .ok (.getfield 190, 3) := by decide +kernel
theorem dX4_leaseSum_28 : decode cX4_leaseSum 28 = .ok (.aload_n 1, 1) := by decide +kernel
theorem dX4_leaseSum_29 : decode cX4_leaseSum 29 = .ok (.getfield 126, 3) := by decide +kernel
theorem dX4_leaseSum_32 : decode cX4_leaseSum 32 = .ok (.isub, 1) := by decide +kernel
theorem dX4_leaseSum_33 : decode cX4_leaseSum 33 = .ok (.invokestatic 417, 3) := by decide +kernel
theorem dX4_leaseSum_36 : decode cX4_leaseSum 36 = .ok (.istore_n 2, 1) := by decide +kernel
theorem dX4_leaseSum_37 : decode cX4_leaseSum 37 = .ok (.aload_n 1, 1) := by decide +kernel
theorem dX4_leaseSum_38 : decode cX4_leaseSum 38 = .ok (.getfield 79, 3) := by decide +kernel
theorem dX4_leaseSum_41 : decode cX4_leaseSum 41 = .ok (.iconst 2, 1) := by decide +kernel
theorem dX4_leaseSum_42 : decode cX4_leaseSum 42 = .ok (.if_icmp .ne 10, 3) := by decide +kernel
theorem dX4_leaseSum_45 : decode cX4_leaseSum 45 = .ok (.iload_n 2, 1) := by decide +kernel
theorem dX4_leaseSum_46 : decode cX4_leaseSum 46 = .ok (.bipush 90, 2) := by decide +kernel
theorem dX4_leaseSum_48 : decode cX4_leaseSum 48 = .ok (.iadd, 1) := by decide +kernel
theorem dX4_leaseSum_49 : decode cX4_leaseSum 49 = .ok (.goto 4, 3) := by decide +kernel
theorem dX4_leaseSum_52 : decode cX4_leaseSum 52 = .ok (.iload_n 2, 1) := by decide +kernel
theorem dX4_leaseSum_53 : decode cX4_leaseSum 53 = .ok (.aload_n 0, 1) := by decide +kernel
theorem dX4_leaseSum_54 : decode cX4_leaseSum 54 = .ok (.getfield 420, 3) := by decide +kernel
theorem dX4_leaseSum_57 : decode cX4_leaseSum 57 = .ok (.imul, 1) := by decide +kernel
theorem dX4_leaseSum_58 : decode cX4_leaseSum 58 = .ok (.ireturn, 1) := by decide +kernel
theorem dX4_leftBehindCharges_0 : decode cX4_leftBehindCharges 0 = .ok (.iload_n 2, 1) := by decide +kernel
theorem dX4_leftBehindCharges_1 : decode cX4_leftBehindCharges 1 = .ok (.istore 4, 2) := by decide +kernel
theorem dX4_leftBehindCharges_3 : decode cX4_leftBehindCharges 3 = .ok (.aload_n 0, 1) := by decide +kernel
theorem dX4_leftBehindCharges_4 : decode cX4_leftBehindCharges 4 = .ok (.getfield 23, 3) := by decide +kernel
theorem dX4_leftBehindCharges_7 : decode cX4_leftBehindCharges 7 = .ok (.astore 5, 2) := by decide +kernel
theorem dX4_leftBehindCharges_9 : decode cX4_leftBehindCharges 9 = .ok (.aload 5, 2) := by decide +kernel
theorem dX4_leftBehindCharges_11 : decode cX4_leftBehindCharges 11 = .ok (.arraylength, 1) := by decide +kernel
theorem dX4_leftBehindCharges_12 : decode cX4_leftBehindCharges 12 = .ok (.istore 6, 2) := by decide +kernel
theorem dX4_leftBehindCharges_14 : decode cX4_leftBehindCharges 14 = .ok (.iconst 0, 1) := by decide +kernel
theorem dX4_leftBehindCharges_15 : decode cX4_leftBehindCharges 15 = .ok (.istore 7, 2) := by decide +kernel
theorem dX4_leftBehindCharges_17 : decode cX4_leftBehindCharges 17 = .ok (.iload 7, 2) := by decide +kernel
theorem dX4_leftBehindCharges_19 : decode cX4_leftBehindCharges 19 = .ok (.iload 6, 2) := by decide +kernel
theorem dX4_leftBehindCharges_21 : decode cX4_leftBehindCharges 21 = .ok (.if_icmp .ge 63, 3) := by decide +kernel
theorem dX4_leftBehindCharges_24 : decode cX4_leftBehindCharges 24 = .ok (.aload 5, 2) := by decide +kernel
theorem dX4_leftBehindCharges_26 : decode cX4_leftBehindCharges 26 = .ok (.iload 7, 2) := by decide +kernel
theorem dX4_leftBehindCharges_28 : decode cX4_leftBehindCharges 28 = .ok (.aaload, 1) := by decide +kernel
theorem dX4_leftBehindCharges_29 : decode cX4_leftBehindCharges 29 = .ok (.astore 8, 2) := by decide +kernel
theorem dX4_leftBehindCharges_31 : decode cX4_leftBehindCharges 31 = .ok (.aload 8, 2) := by decide +kernel
theorem dX4_leftBehindCharges_33 : decode cX4_leftBehindCharges 33 = .ok (.ifnull 45, 3) := by decide +kernel
theorem dX4_leftBehindCharges_36 : decode cX4_leftBehindCharges 36 = .ok (.aload 8, 2) := by decide +kernel
theorem dX4_leftBehindCharges_38 : decode cX4_leftBehindCharges 38 = .ok (.getfield 175, 3) := by decide +kernel
theorem dX4_leftBehindCharges_41 : decode cX4_leftBehindCharges 41 = .ok (.iconst 2, 1) := by decide +kernel
theorem dX4_leftBehindCharges_42 : decode cX4_leftBehindCharges 42 = .ok (.if_icmp .ne 36, 3) := by decide +kernel
theorem dX4_leftBehindCharges_45 : decode cX4_leftBehindCharges 45 = .ok (.aload 8, 2) := by decide +kernel
theorem dX4_leftBehindCharges_47 : decode cX4_leftBehindCharges 47 = .ok (.getfield 178, 3) := by decide +kernel
theorem dX4_leftBehindCharges_50 : decode cX4_leftBehindCharges 50 = .ok (.aload_n 1, 1) := by decide +kernel
theorem dX4_leftBehindCharges_51 : decode cX4_leftBehindCharges 51 = .ok (.if_acmp .ne 27, 3) := by decide +kernel
theorem dX4_leftBehindCharges_54 : decode cX4_leftBehindCharges 54 = .ok (.aload 8, 2) := by decide +kernel
theorem dX4_leftBehindCharges_56 : decode cX4_leftBehindCharges 56 = .ok (.getfield 359, 3) := by decide +kernel
theorem dX4_leftBehindCharges_59 : decode cX4_leftBehindCharges 59 = .ok (.iload_n 3, 1) := by decide +kernel
theorem dX4_leftBehindCharges_60 : decode cX4_leftBehindCharges 60 = .ok (.if_icmp .ge 18, 3) := by decide +kernel
theorem dX4_leftBehindCharges_63 : decode cX4_leftBehindCharges 63 = .ok (.iload 4, 2) := by decide +kernel
theorem dX4_leftBehindCharges_65 : decode cX4_leftBehindCharges 65 = .ok (.iload 4, 2) := by decide +kernel
theorem dX4_leftBehindCharges_67 : decode cX4_leftBehindCharges 67 = .ok (.aload 8, 2) := by decide +kernel
theorem dX4_leftBehindCharges_69 : decode cX4_leftBehindCharges 69 = .ok (.getfield 190, 3) := by decide +kernel
theorem dX4_leftBehindCharges_72 : decode cX4_leftBehindCharges 72 = .ok (.invokestatic 417, 3) := by decide +kernel
theorem dX4_leftBehindCharges_75 : decode cX4_leftBehindCharges 75 = .ok (.isub, 1) := by decide +kernel
theorem dX4_leftBehindCharges_76 : decode cX4_leftBehindCharges 76 = .ok (.istore 4, 2) := by decide +kernel
theorem dX4_leftBehindCharges_78 : decode cX4_leftBehindCharges 78 = .ok (.iinc 7 1, 3) := by decide +kernel
theorem dX4_leftBehindCharges_81 : decode cX4_leftBehindCharges 81 = .ok (.goto (-64), 3) := by decide +kernel
theorem dX4_leftBehindCharges_84 : decode cX4_leftBehindCharges 84 = .ok (.iload 4, 2) := by decide +kernel
theorem dX4_leftBehindCharges_86 : decode cX4_leftBehindCharges 86 = .ok (.ireturn, 1) := by decide +kernel
theorem dX4_leftForCourt_0 : decode cX4_leftForCourt 0 = .ok (.aload_n 0, 1) := by decide +kernel
theorem dX4_leftForCourt_1 : decode cX4_leftForCourt 1 = .ok (.aload_n 1, 1) := by decide +kernel
theorem dX4_leftForCourt_2 : decode cX4_leftForCourt 2 = .ok (.iload_n 2, 1) := by decide +kernel
theorem dX4_leftForCourt_3 : decode cX4_leftForCourt 3 = .ok (.bipush 24, 2) := by decide +kernel
theorem dX4_leftForCourt_5 : decode cX4_leftForCourt 5 = .ok (.invokevirtual 413, 3) := by decide +kernel
theorem dX4_leftForCourt_8 : decode cX4_leftForCourt 8 = .ok (.istore_n 3, 1) := by decide +kernel
theorem dX4_leftForCourt_9 : decode cX4_leftForCourt 9 = .ok (.iload_n 3, 1) := by decide +kernel
theorem dX4_leftForCourt_10 : decode cX4_leftForCourt 10 = .ok (.istore 4, 2) := by decide +kernel
theorem dX4_leftForCourt_12 : decode cX4_leftForCourt 12 = .ok (.aload_n 0, 1) := by decide +kernel
theorem dX4_leftForCourt_13 : decode cX4_leftForCourt 13 = .ok (.getfield 23, 3) := by decide +kernel
theorem dX4_leftForCourt_16 : decode cX4_leftForCourt 16 = .ok (.astore 5, 2) := by decide +kernel
theorem dX4_leftForCourt_18 : decode cX4_leftForCourt 18 = .ok (.aload 5, 2) := by decide +kernel
theorem dX4_leftForCourt_20 : decode cX4_leftForCourt 20 = .ok (.arraylength, 1) := by decide +kernel
theorem dX4_leftForCourt_21 : decode cX4_leftForCourt 21 = .ok (.istore 6, 2) := by decide +kernel
theorem dX4_leftForCourt_23 : decode cX4_leftForCourt 23 = .ok (.iconst 0, 1) := by decide +kernel
theorem dX4_leftForCourt_24 : decode cX4_leftForCourt 24 = .ok (.istore 7, 2) := by decide +kernel
theorem dX4_leftForCourt_26 : decode cX4_leftForCourt 26 = .ok (.iload 7, 2) := by decide +kernel
theorem dX4_leftForCourt_28 : decode cX4_leftForCourt 28 = .ok (.iload 6, 2) := by decide +kernel
theorem dX4_leftForCourt_30 : decode cX4_leftForCourt 30 = .ok (.if_icmp .ge 52, 3) := by decide +kernel
theorem dX4_leftForCourt_33 : decode cX4_leftForCourt 33 = .ok (.aload 5, 2) := by decide +kernel
theorem dX4_leftForCourt_35 : decode cX4_leftForCourt 35 = .ok (.iload 7, 2) := by decide +kernel
theorem dX4_leftForCourt_37 : decode cX4_leftForCourt 37 = .ok (.aaload, 1) := by decide +kernel
theorem dX4_leftForCourt_38 : decode cX4_leftForCourt 38 = .ok (.astore 8, 2) := by decide +kernel
theorem dX4_leftForCourt_40 : decode cX4_leftForCourt 40 = .ok (.aload 8, 2) := by decide +kernel
theorem dX4_leftForCourt_42 : decode cX4_leftForCourt 42 = .ok (.ifnull 34, 3) := by decide +kernel
theorem dX4_leftForCourt_45 : decode cX4_leftForCourt 45 = .ok (.aload 8, 2) := by decide +kernel
theorem dX4_leftForCourt_47 : decode cX4_leftForCourt 47 = .ok (.getfield 175, 3) := by decide +kernel
theorem dX4_leftForCourt_50 : decode cX4_leftForCourt 50 = .ok (.ifCond .ne 26, 3) := by decide +kernel
theorem dX4_leftForCourt_53 : decode cX4_leftForCourt 53 = .ok (.aload 8, 2) := by decide +kernel
theorem dX4_leftForCourt_55 : decode cX4_leftForCourt 55 = .ok (.getfield 178, 3) := by decide +kernel
theorem dX4_leftForCourt_58 : decode cX4_leftForCourt 58 = .ok (.aload_n 1, 1) := by decide +kernel
theorem dX4_leftForCourt_59 : decode cX4_leftForCourt 59 = .ok (.if_acmp .ne 17, 3) := by decide +kernel
theorem dX4_leftForCourt_62 : decode cX4_leftForCourt 62 = .ok (.iload 4, 2) := by decide +kernel
theorem dX4_leftForCourt_64 : decode cX4_leftForCourt 64 = .ok (.iload_n 3, 1) := by decide +kernel
theorem dX4_leftForCourt_65 : decode cX4_leftForCourt 65 = .ok (.aload 8, 2) := by decide +kernel
theorem dX4_leftForCourt_67 : decode cX4_leftForCourt 67 = .ok (.getfield 190, 3) := by decide +kernel
theorem dX4_leftForCourt_70 : decode cX4_leftForCourt 70 = .ok (.invokestatic 105, 3) := by decide +kernel
theorem dX4_leftForCourt_73 : decode cX4_leftForCourt 73 = .ok (.isub, 1) := by decide +kernel
theorem dX4_leftForCourt_74 : decode cX4_leftForCourt 74 = .ok (.istore 4, 2) := by decide +kernel
theorem dX4_leftForCourt_76 : decode cX4_leftForCourt 76 = .ok (.iinc 7 1, 3) := by decide +kernel
theorem dX4_leftForCourt_79 : decode cX4_leftForCourt 79 = .ok (.goto (-53), 3) := by decide +kernel
theorem dX4_leftForCourt_82 : decode cX4_leftForCourt 82 = .ok (.iload 4, 2) := by decide +kernel
theorem dX4_leftForCourt_84 : decode cX4_leftForCourt 84 = .ok (.ireturn, 1) := by decide +kernel
theorem dX4_owedTo_0 : decode cX4_owedTo 0 = .ok (.aload_n 1, 1) := by decide +kernel
theorem dX4_owedTo_1 : decode cX4_owedTo 1 = .ok (.ifnull 20, 3) := by decide +kernel
theorem dX4_owedTo_4 : decode cX4_owedTo 4 = .ok (.aload_n 1, 1) := by decide +kernel
theorem dX4_owedTo_5 : decode cX4_owedTo 5 = .ok (.getfield 178, 3) := by decide +kernel
theorem dX4_owedTo_8 : decode cX4_owedTo 8 = .ok (.invokestatic 300, 3) := by decide +kernel
theorem dX4_owedTo_11 : decode cX4_owedTo 11 = .ok (.ifCond .eq 10, 3) := by decide +kernel
theorem dX4_owedTo_14 : decode cX4_owedTo 14 = .ok (.aload_n 1, 1) := by decide +kernel
theorem dX4_owedTo_15 : decode cX4_owedTo 15 = .ok (.getfield 317, 3) := by decide +kernel
theorem dX4_owedTo_18 : decode cX4_owedTo 18 = .ok (.ifCond .eq 5, 3) := by decide +kernel
theorem dX4_owedTo_21 : decode cX4_owedTo 21 = .ok (.lconst 0, 1) := by decide +kernel
theorem dX4_owedTo_22 : decode cX4_owedTo 22 = .ok (.lreturn, 1) := by decide +kernel
theorem dX4_owedTo_23 : decode cX4_owedTo 23 = .ok (.aload_n 1, 1) := by decide +kernel
theorem dX4_owedTo_24 : decode cX4_owedTo 24 = .ok (.getfield 199, 3) := by decide +kernel
theorem dX4_owedTo_27 : decode cX4_owedTo 27 = .ok (.aload_n 1, 1) := by decide +kernel
theorem dX4_owedTo_28 : decode cX4_owedTo 28 = .ok (.getfield 203, 3) := by decide +kernel
theorem dX4_owedTo_31 : decode cX4_owedTo 31 = .ok (.lsub, 1) := by decide +kernel
theorem dX4_owedTo_32 : decode cX4_owedTo 32 = .ok (.aload_n 0, 1) := by decide +kernel
theorem dX4_owedTo_33 : decode cX4_owedTo 33 = .ok (.aload_n 1, 1) := by decide +kernel
theorem dX4_owedTo_34 : decode cX4_owedTo 34 = .ok (.invokevirtual 423, 3) := by decide +kernel
theorem dX4_owedTo_37 : decode cX4_owedTo 37 = .ok (.ladd, 1) := by decide +kernel
theorem dX4_owedTo_38 : decode cX4_owedTo 38 = .ok (.lreturn, 1) := by decide +kernel
theorem dX4_gainOf_0 : decode cX4_gainOf 0 = .ok (.aload_n 1, 1) := by decide +kernel
theorem dX4_gainOf_1 : decode cX4_gainOf 1 = .ok (.ifnull 10, 3) := by decide +kernel
theorem dX4_gainOf_4 : decode cX4_gainOf 4 = .ok (.aload_n 1, 1) := by decide +kernel
theorem dX4_gainOf_5 : decode cX4_gainOf 5 = .ok (.getfield 178, 3) := by decide +kernel
theorem dX4_gainOf_8 : decode cX4_gainOf 8 = .ok (.ifnonnull 5, 3) := by decide +kernel
theorem dX4_gainOf_11 : decode cX4_gainOf 11 = .ok (.lconst 0, 1) := by decide +kernel
theorem dX4_gainOf_12 : decode cX4_gainOf 12 = .ok (.lreturn, 1) := by decide +kernel
theorem dX4_gainOf_13 : decode cX4_gainOf 13 = .ok (.aload_n 1, 1) := by decide +kernel
theorem dX4_gainOf_14 : decode cX4_gainOf 14 = .ok (.getfield 178, 3) := by decide +kernel
theorem dX4_gainOf_17 : decode cX4_gainOf 17 = .ok (.getfield 126, 3) := by decide +kernel
theorem dX4_gainOf_20 : decode cX4_gainOf 20 = .ok (.istore_n 2, 1) := by decide +kernel
theorem dX4_gainOf_21 : decode cX4_gainOf 21 = .ok (.aload_n 1, 1) := by decide +kernel
theorem dX4_gainOf_22 : decode cX4_gainOf 22 = .ok (.getfield 314, 3) := by decide +kernel
theorem dX4_gainOf_25 : decode cX4_gainOf 25 = .ok (.iconst (-1), 1) := by decide +kernel
theorem dX4_gainOf_26 : decode cX4_gainOf 26 = .ok (.if_icmp .ne 18, 3) := by decide +kernel
theorem dX4_gainOf_29 : decode cX4_gainOf 29 = .ok (.aload_n 1, 1) := by decide +kernel
theorem dX4_gainOf_30 : decode cX4_gainOf 30 = .ok (.getfield 199, 3) := by decide +kernel
theorem dX4_gainOf_33 : decode cX4_gainOf 33 = .ok (.aload_n 0, 1) := by decide +kernel
theorem dX4_gainOf_34 : decode cX4_gainOf 34 = .ok (.getfield 84, 3) := by decide +kernel
theorem dX4_gainOf_37 : decode cX4_gainOf 37 = .ok (.iload_n 2, 1) := by decide +kernel
theorem dX4_gainOf_38 : decode cX4_gainOf 38 = .ok (.isub, 1) := by decide +kernel
theorem dX4_gainOf_39 : decode cX4_gainOf 39 = .ok (.i2l, 1) := by decide +kernel
theorem dX4_gainOf_40 : decode cX4_gainOf 40 = .ok (.invokestatic 426, 3) := by decide +kernel
theorem dX4_gainOf_43 : decode cX4_gainOf 43 = .ok (.lreturn, 1) := by decide +kernel
theorem dX4_gainOf_44 : decode cX4_gainOf 44 = .ok (.aload_n 1, 1) := by decide +kernel
theorem dX4_gainOf_45 : decode cX4_gainOf 45 = .ok (.getfield 199, 3) := by decide +kernel
theorem dX4_gainOf_48 : decode cX4_gainOf 48 = .ok (.aload_n 1, 1) := by decide +kernel
theorem dX4_gainOf_49 : decode cX4_gainOf 49 = .ok (.getfield 314, 3) := by decide +kernel
theorem dX4_gainOf_52 : decode cX4_gainOf 52 = .ok (.iload_n 2, 1) := by decide +kernel
theorem dX4_gainOf_53 : decode cX4_gainOf 53 = .ok (.isub, 1) := by decide +kernel
theorem dX4_gainOf_54 : decode cX4_gainOf 54 = .ok (.i2l, 1) := by decide +kernel
theorem dX4_gainOf_55 : decode cX4_gainOf 55 = .ok (.invokestatic 426, 3) := by decide +kernel
theorem dX4_gainOf_58 : decode cX4_gainOf 58 = .ok (.aload_n 1, 1) := by decide +kernel
theorem dX4_gainOf_59 : decode cX4_gainOf 59 = .ok (.getfield 199, 3) := by decide +kernel
theorem dX4_gainOf_62 : decode cX4_gainOf 62 = .ok (.aload_n 1, 1) := by decide +kernel
theorem dX4_gainOf_63 : decode cX4_gainOf 63 = .ok (.getfield 203, 3) := by decide +kernel
theorem dX4_gainOf_66 : decode cX4_gainOf 66 = .ok (.lsub, 1) := by decide +kernel
theorem dX4_gainOf_67 : decode cX4_gainOf 67 = .ok (.aload_n 0, 1) := by decide +kernel
theorem dX4_gainOf_68 : decode cX4_gainOf 68 = .ok (.getfield 84, 3) := by decide +kernel
theorem dX4_gainOf_71 : decode cX4_gainOf 71 = .ok (.aload_n 1, 1) := by decide +kernel
theorem dX4_gainOf_72 : decode cX4_gainOf 72 = .ok (.getfield 314, 3) := by decide +kernel
theorem dX4_gainOf_75 : decode cX4_gainOf 75 = .ok (.isub, 1) := by decide +kernel
theorem dX4_gainOf_76 : decode cX4_gainOf 76 = .ok (.i2l, 1) := by decide +kernel
theorem dX4_gainOf_77 : decode cX4_gainOf 77 = .ok (.invokestatic 426, 3) := by decide +kernel
theorem dX4_gainOf_80 : decode cX4_gainOf 80 = .ok (.ladd, 1) := by decide +kernel
theorem dX4_gainOf_81 : decode cX4_gainOf 81 = .ok (.lreturn, 1) := by decide +kernel
theorem dX4_gainOfRow_0 : decode cX4_gainOfRow 0 = .ok (.lload_n 0, 1) := by decide +kernel
theorem dX4_gainOfRow_1 : decode cX4_gainOfRow 1 = .ok (.lload_n 2, 1) := by decide +kernel
theorem dX4_gainOfRow_2 : decode cX4_gainOfRow 2 = .ok (.lmul, 1) := by decide +kernel
theorem dX4_gainOfRow_3 : decode cX4_gainOfRow 3 = .ok (.ldc2_w 430, 3) := by decide +kernel
theorem dX4_gainOfRow_6 : decode cX4_gainOfRow 6 = .ok (.lmul, 1) := by decide +kernel
theorem dX4_gainOfRow_7 : decode cX4_gainOfRow 7 = .ok (.ldc2_w 432, 3) := by decide +kernel
theorem dX4_gainOfRow_10 : decode cX4_gainOfRow 10 = .ok (.ldiv, 1) := by decide +kernel
theorem dX4_gainOfRow_11 : decode cX4_gainOfRow 11 = .ok (.lreturn, 1) := by decide +kernel
theorem dX4_offer_0 : decode cX4_offer 0 = .ok (.aload_n 0, 1) := by decide +kernel
theorem dX4_offer_1 : decode cX4_offer 1 = .ok (.ifnull 21, 3) := by decide +kernel
theorem dX4_offer_4 : decode cX4_offer 4 = .ok (.aload_n 0, 1) := by decide +kernel
theorem dX4_offer_5 : decode cX4_offer 5 = .ok (.aload_n 1, 1) := by decide +kernel
theorem dX4_offer_6 : decode cX4_offer 6 = .ok (.putfield 133, 3) := by decide +kernel
theorem dX4_offer_9 : decode cX4_offer 9 = .ok (.aload_n 0, 1) := by decide +kernel
theorem dX4_offer_10 : decode cX4_offer 10 = .ok (.aload_n 1, 1) := by decide +kernel
theorem dX4_offer_11 : decode cX4_offer 11 = .ok (.ifnonnull 7, 3) := by decide +kernel
theorem dX4_offer_14 : decode cX4_offer 14 = .ok (.iconst 0, 1) := by decide +kernel
theorem dX4_offer_15 : decode cX4_offer 15 = .ok (.goto 4, 3) := by decide +kernel
theorem dX4_offer_18 : decode cX4_offer 18 = .ok (.iload_n 2, 1) := by decide +kernel
theorem dX4_offer_19 : decode cX4_offer 19 = .ok (.putfield 140, 3) := by decide +kernel
theorem dX4_offer_22 : decode cX4_offer 22 = .ok (.return_, 1) := by decide +kernel
theorem dX4_ownerBehind_0 : decode cX4_ownerBehind 0 = .ok (.aconst_null, 1) := by decide +kernel
theorem dX4_ownerBehind_1 : decode cX4_ownerBehind 1 = .ok (.astore_n 3, 1) := by decide +kernel
theorem dX4_ownerBehind_2 : decode cX4_ownerBehind 2 = .ok (.aload_n 0, 1) := by decide +kernel
theorem dX4_ownerBehind_3 : decode cX4_ownerBehind 3 = .ok (.getfield 23, 3) := by decide +kernel
theorem dX4_ownerBehind_6 : decode cX4_ownerBehind 6 = .ok (.astore 4, 2) := by decide +kernel
theorem dX4_ownerBehind_8 : decode cX4_ownerBehind 8 = .ok (.aload 4, 2) := by decide +kernel
theorem dX4_ownerBehind_10 : decode cX4_ownerBehind 10 = .ok (.arraylength, 1) := by decide +kernel
theorem dX4_ownerBehind_11 : decode cX4_ownerBehind 11 = .ok (.istore 5, 2) := by decide +kernel
theorem dX4_ownerBehind_13 : decode cX4_ownerBehind 13 = .ok (.iconst 0, 1) := by decide +kernel
theorem dX4_ownerBehind_14 : decode cX4_ownerBehind 14 = .ok (.istore 6, 2) := by decide +kernel
theorem dX4_ownerBehind_16 : decode cX4_ownerBehind 16 = .ok (.iload 6, 2) := by decide +kernel
theorem dX4_ownerBehind_18 : decode cX4_ownerBehind 18 = .ok (.iload 5, 2) := by decide +kernel
theorem dX4_ownerBehind_20 : decode cX4_ownerBehind 20 = .ok (.if_icmp .ge 69, 3) := by decide +kernel
theorem dX4_ownerBehind_23 : decode cX4_ownerBehind 23 = .ok (.aload 4, 2) := by decide +kernel
theorem dX4_ownerBehind_25 : decode cX4_ownerBehind 25 = .ok (.iload 6, 2) := by decide +kernel
theorem dX4_ownerBehind_27 : decode cX4_ownerBehind 27 = .ok (.aaload, 1) := by decide +kernel
theorem dX4_ownerBehind_28 : decode cX4_ownerBehind 28 = .ok (.astore 7, 2) := by decide +kernel
theorem dX4_ownerBehind_30 : decode cX4_ownerBehind 30 = .ok (.aload 7, 2) := by decide +kernel
theorem dX4_ownerBehind_32 : decode cX4_ownerBehind 32 = .ok (.ifnull 51, 3) := by decide +kernel
theorem dX4_ownerBehind_35 : decode cX4_ownerBehind 35 = .ok (.aload 7, 2) := by decide +kernel
theorem dX4_ownerBehind_37 : decode cX4_ownerBehind 37 = .ok (.getfield 175, 3) := by decide +kernel
theorem dX4_ownerBehind_40 : decode cX4_ownerBehind 40 = .ok (.ifCond .ne 43, 3) := by decide +kernel
theorem dX4_ownerBehind_43 : decode cX4_ownerBehind 43 = .ok (.aload 7, 2) := by decide +kernel
theorem dX4_ownerBehind_45 : decode cX4_ownerBehind 45 = .ok (.getfield 178, 3) := by decide +kernel
theorem dX4_ownerBehind_48 : decode cX4_ownerBehind 48 = .ok (.aload_n 1, 1) := by decide +kernel
theorem dX4_ownerBehind_49 : decode cX4_ownerBehind 49 = .ok (.if_acmp .ne 34, 3) := by decide +kernel
theorem dX4_ownerBehind_52 : decode cX4_ownerBehind 52 = .ok (.aload 7, 2) := by decide +kernel
theorem dX4_ownerBehind_54 : decode cX4_ownerBehind 54 = .ok (.aload_n 2, 1) := by decide +kernel
theorem dX4_ownerBehind_55 : decode cX4_ownerBehind 55 = .ok (.invokestatic 434, 3) := by decide +kernel
theorem dX4_ownerBehind_58 : decode cX4_ownerBehind 58 = .ok (.ifCond .ne 6, 3) := by decide +kernel
theorem dX4_ownerBehind_61 : decode cX4_ownerBehind 61 = .ok (.goto 22, 3) := by decide +kernel
theorem dX4_ownerBehind_64 : decode cX4_ownerBehind 64 = .ok (.aload_n 3, 1) := by decide +kernel
theorem dX4_ownerBehind_65 : decode cX4_ownerBehind 65 = .ok (.ifnull 15, 3) := by decide +kernel
theorem dX4_ownerBehind_68 : decode cX4_ownerBehind 68 = .ok (.aload 7, 2) := by decide +kernel
theorem dX4_ownerBehind_70 : decode cX4_ownerBehind 70 = .ok (.getfield 190, 3) := by decide +kernel
theorem dX4_ownerBehind_73 : decode cX4_ownerBehind 73 = .ok (.aload_n 3, 1) := by decide +kernel
theorem dX4_ownerBehind_74 : decode cX4_ownerBehind 74 = .ok (.getfield 190, 3) := by decide +kernel
theorem dX4_ownerBehind_77 : decode cX4_ownerBehind 77 = .ok (.if_icmp .le 6, 3) := by decide +kernel
theorem dX4_ownerBehind_80 : decode cX4_ownerBehind 80 = .ok (.aload 7, 2) := by decide +kernel
theorem dX4_ownerBehind_82 : decode cX4_ownerBehind 82 = .ok (.astore_n 3, 1) := by decide +kernel
theorem dX4_ownerBehind_83 : decode cX4_ownerBehind 83 = .ok (.iinc 6 1, 3) := by decide +kernel
theorem dX4_ownerBehind_86 : decode cX4_ownerBehind 86 = .ok (.goto (-70), 3) := by decide +kernel
theorem dX4_ownerBehind_89 : decode cX4_ownerBehind 89 = .ok (.aload_n 3, 1) := by decide +kernel
theorem dX4_ownerBehind_90 : decode cX4_ownerBehind 90 = .ok (.areturn, 1) := by decide +kernel
theorem dX4_comesBehind_0 : decode cX4_comesBehind 0 = .ok (.aload_n 0, 1) := by decide +kernel
theorem dX4_comesBehind_1 : decode cX4_comesBehind 1 = .ok (.ifnull 7, 3) := by decide +kernel
theorem dX4_comesBehind_4 : decode cX4_comesBehind 4 = .ok (.aload_n 1, 1) := by decide +kernel
theorem dX4_comesBehind_5 : decode cX4_comesBehind 5 = .ok (.ifnonnull 13, 3) := by decide +kernel
theorem dX4_comesBehind_8 : decode cX4_comesBehind 8 = .ok (.aload_n 0, 1) := by decide +kernel
theorem dX4_comesBehind_9 : decode cX4_comesBehind 9 = .ok (.ifnull 7, 3) := by decide +kernel
theorem dX4_comesBehind_12 : decode cX4_comesBehind 12 = .ok (.iconst 1, 1) := by decide +kernel
theorem dX4_comesBehind_13 : decode cX4_comesBehind 13 = .ok (.goto 4, 3) := by decide +kernel
theorem dX4_comesBehind_16 : decode cX4_comesBehind 16 = .ok (.iconst 0, 1) := by decide +kernel
theorem dX4_comesBehind_17 : decode cX4_comesBehind 17 = .ok (.ireturn, 1) := by decide +kernel
theorem dX4_comesBehind_18 : decode cX4_comesBehind 18 = .ok (.aload_n 0, 1) := by decide +kernel
theorem dX4_comesBehind_19 : decode cX4_comesBehind 19 = .ok (.getfield 190, 3) := by decide +kernel
theorem dX4_comesBehind_22 : decode cX4_comesBehind 22 = .ok (.aload_n 1, 1) := by decide +kernel
theorem dX4_comesBehind_23 : decode cX4_comesBehind 23 = .ok (.getfield 190, 3) := by decide +kernel
theorem dX4_comesBehind_26 : decode cX4_comesBehind 26 = .ok (.if_icmp .lt 25, 3) := by decide +kernel
theorem dX4_comesBehind_29 : decode cX4_comesBehind 29 = .ok (.aload_n 0, 1) := by decide +kernel
theorem dX4_comesBehind_30 : decode cX4_comesBehind 30 = .ok (.getfield 190, 3) := by decide +kernel
theorem dX4_comesBehind_33 : decode cX4_comesBehind 33 = .ok (.aload_n 1, 1) := by decide +kernel
theorem dX4_comesBehind_34 : decode cX4_comesBehind 34 = .ok (.getfield 190, 3) := by decide +kernel
theorem dX4_comesBehind_37 : decode cX4_comesBehind 37 = .ok (.if_icmp .ne 18, 3) := by decide +kernel
theorem dX4_comesBehind_40 : decode cX4_comesBehind 40 = .ok (.aload_n 0, 1) := by decide +kernel
theorem dX4_comesBehind_41 : decode cX4_comesBehind 41 = .ok (.getfield 359, 3) := by decide +kernel
theorem dX4_comesBehind_44 : decode cX4_comesBehind 44 = .ok (.aload_n 1, 1) := by decide +kernel
theorem dX4_comesBehind_45 : decode cX4_comesBehind 45 = .ok (.getfield 359, 3) := by decide +kernel
theorem dX4_comesBehind_48 : decode cX4_comesBehind 48 = .ok (.if_icmp .le 7, 3) := by decide +kernel
theorem dX4_comesBehind_51 : decode cX4_comesBehind 51 = .ok (.iconst 1, 1) := by decide +kernel
theorem dX4_comesBehind_52 : decode cX4_comesBehind 52 = .ok (.goto 4, 3) := by decide +kernel
theorem dX4_comesBehind_55 : decode cX4_comesBehind 55 = .ok (.iconst 0, 1) := by decide +kernel
theorem dX4_comesBehind_56 : decode cX4_comesBehind 56 = .ok (.ireturn, 1) := by decide +kernel
theorem dX5_init_0 : decode cX5_init 0 = .ok (.aload_n 0, 1) := by decide +kernel
theorem dX5_init_1 : decode cX5_init 1 = .ok (.invokespecial 1, 3) := by decide +kernel
theorem dX5_init_4 : decode cX5_init 4 = .ok (.aload_n 0, 1) := by decide +kernel
theorem dX5_init_5 : decode cX5_init 5 = .ok (.ldc 7, 2) := by decide +kernel
theorem dX5_init_7 : decode cX5_init 7 = .ok (.newarray .int, 2) := by decide +kernel
theorem dX5_init_9 : decode cX5_init 9 = .ok (.putfield 8, 3) := by decide +kernel
theorem dX5_init_12 : decode cX5_init 12 = .ok (.aload_n 0, 1) := by decide +kernel
theorem dX5_init_13 : decode cX5_init 13 = .ok (.bipush 36, 2) := by decide +kernel
theorem dX5_init_15 : decode cX5_init 15 = .ok (.newarray .int, 2) := by decide +kernel
theorem dX5_init_17 : decode cX5_init 17 = .ok (.putfield 14, 3) := by decide +kernel
theorem dX5_init_20 : decode cX5_init 20 = .ok (.aload_n 0, 1) := by decide +kernel
theorem dX5_init_21 : decode cX5_init 21 = .ok (.bipush 36, 2) := by decide +kernel
theorem dX5_init_23 : decode cX5_init 23 = .ok (.newarray .int, 2) := by decide +kernel
theorem dX5_init_25 : decode cX5_init 25 = .ok (.putfield 17, 3) := by decide +kernel
theorem dX5_init_28 : decode cX5_init 28 = .ok (.aload_n 0, 1) := by decide +kernel
theorem dX5_init_29 : decode cX5_init 29 = .ok (.bipush 36, 2) := by decide +kernel
theorem dX5_init_31 : decode cX5_init 31 = .ok (.newarray .int, 2) := by decide +kernel
theorem dX5_init_33 : decode cX5_init 33 = .ok (.putfield 20, 3) := by decide +kernel
theorem dX5_init_36 : decode cX5_init 36 = .ok (.aload_n 0, 1) := by decide +kernel
theorem dX5_init_37 : decode cX5_init 37 = .ok (.bipush 36, 2) := by decide +kernel
theorem dX5_init_39 : decode cX5_init 39 = .ok (.newarray .int, 2) := by decide +kernel
theorem dX5_init_41 : decode cX5_init 41 = .ok (.putfield 23, 3) := by decide +kernel
theorem dX5_init_44 : decode cX5_init 44 = .ok (.aload_n 0, 1) := by decide +kernel
theorem dX5_init_45 : decode cX5_init 45 = .ok (.bipush 36, 2) := by decide +kernel
theorem dX5_init_47 : decode cX5_init 47 = .ok (.newarray .int, 2) := by decide +kernel
theorem dX5_init_49 : decode cX5_init 49 = .ok (.putfield 26, 3) := by decide +kernel
theorem dX5_init_52 : decode cX5_init 52 = .ok (.aload_n 0, 1) := by decide +kernel
theorem dX5_init_53 : decode cX5_init 53 = .ok (.bipush 36, 2) := by decide +kernel
theorem dX5_init_55 : decode cX5_init 55 = .ok (.newarray .int, 2) := by decide +kernel
theorem dX5_init_57 : decode cX5_init 57 = .ok (.putfield 29, 3) := by decide +kernel
theorem dX5_init_60 : decode cX5_init 60 = .ok (.aload_n 0, 1) := by decide +kernel
theorem dX5_init_61 : decode cX5_init 61 = .ok (.bipush 36, 2) := by decide +kernel
theorem dX5_init_63 : decode cX5_init 63 = .ok (.newarray .boolean, 2) := by decide +kernel
theorem dX5_init_65 : decode cX5_init 65 = .ok (.putfield 32, 3) := by decide +kernel
theorem dX5_init_68 : decode cX5_init 68 = .ok (.aload_n 0, 1) := by decide +kernel
theorem dX5_init_69 : decode cX5_init 69 = .ok (.bipush 36, 2) := by decide +kernel
theorem dX5_init_71 : decode cX5_init 71 = .ok (.newarray .int, 2) := by decide +kernel
theorem dX5_init_73 : decode cX5_init 73 = .ok (.putfield 36, 3) := by decide +kernel
theorem dX5_init_76 : decode cX5_init 76 = .ok (.aload_n 0, 1) := by decide +kernel
theorem dX5_init_77 : decode cX5_init 77 = .ok (.bipush 36, 2) := by decide +kernel
theorem dX5_init_79 : decode cX5_init 79 = .ok (.newarray .int, 2) := by decide +kernel
theorem dX5_init_81 : decode cX5_init 81 = .ok (.putfield 39, 3) := by decide +kernel
theorem dX5_init_84 : decode cX5_init 84 = .ok (.aload_n 0, 1) := by decide +kernel
theorem dX5_init_85 : decode cX5_init 85 = .ok (.bipush 36, 2) := by decide +kernel
theorem dX5_init_87 : decode cX5_init 87 = .ok (.newarray .long, 2) := by decide +kernel
theorem dX5_init_89 : decode cX5_init 89 = .ok (.putfield 42, 3) := by decide +kernel
theorem dX5_init_92 : decode cX5_init 92 = .ok (.aload_n 0, 1) := by decide +kernel
theorem dX5_init_93 : decode cX5_init 93 = .ok (.bipush 24, 2) := by decide +kernel
theorem dX5_init_95 : decode cX5_init 95 = .ok (.newarray .int, 2) := by decide +kernel
theorem dX5_init_97 : decode cX5_init 97 = .ok (.putfield 46, 3) := by decide +kernel
theorem dX5_init_100 : decode cX5_init 100 = .ok (.aload_n 0, 1) := by decide +kernel
theorem dX5_init_101 : decode cX5_init 101 = .ok (.bipush 24, 2) := by decide +kernel
theorem dX5_init_103 : decode cX5_init 103 = .ok (.newarray .int, 2) := by decide +kernel
theorem dX5_init_105 : decode cX5_init 105 = .ok (.putfield 49, 3) := by decide +kernel
theorem dX5_init_108 : decode cX5_init 108 = .ok (.aload_n 0, 1) := by decide +kernel
theorem dX5_init_109 : decode cX5_init 109 = .ok (.bipush 24, 2) := by decide +kernel
theorem dX5_init_111 : decode cX5_init 111 = .ok (.newarray .int, 2) := by decide +kernel
theorem dX5_init_113 : decode cX5_init 113 = .ok (.putfield 52, 3) := by decide +kernel
theorem dX5_init_116 : decode cX5_init 116 = .ok (.aload_n 0, 1) := by decide +kernel
theorem dX5_init_117 : decode cX5_init 117 = .ok (.bipush 24, 2) := by decide +kernel
theorem dX5_init_119 : decode cX5_init 119 = .ok (.newarray .int, 2) := by decide +kernel
theorem dX5_init_121 : decode cX5_init 121 = .ok (.putfield 55, 3) := by decide +kernel
theorem dX5_init_124 : decode cX5_init 124 = .ok (.aload_n 0, 1) := by decide +kernel
theorem dX5_init_125 : decode cX5_init 125 = .ok (.bipush 24, 2) := by decide +kernel
theorem dX5_init_127 : decode cX5_init 127 = .ok (.newarray .int, 2) := by decide +kernel
theorem dX5_init_129 : decode cX5_init 129 = .ok (.putfield 58, 3) := by decide +kernel
theorem dX5_init_132 : decode cX5_init 132 = .ok (.aload_n 0, 1) := by decide +kernel
theorem dX5_init_133 : decode cX5_init 133 = .ok (.bipush 24, 2) := by decide +kernel
theorem dX5_init_135 : decode cX5_init 135 = .ok (.newarray .int, 2) := by decide +kernel
theorem dX5_init_137 : decode cX5_init 137 = .ok (.putfield 61, 3) := by decide +kernel
theorem dX5_init_140 : decode cX5_init 140 = .ok (.aload_n 0, 1) := by decide +kernel
theorem dX5_init_141 : decode cX5_init 141 = .ok (.bipush 24, 2) := by decide +kernel
theorem dX5_init_143 : decode cX5_init 143 = .ok (.newarray .int, 2) := by decide +kernel
theorem dX5_init_145 : decode cX5_init 145 = .ok (.putfield 64, 3) := by decide +kernel
theorem dX5_init_148 : decode cX5_init 148 = .ok (.aload_n 0, 1) := by decide +kernel
theorem dX5_init_149 : decode cX5_init 149 = .ok (.bipush 24, 2) := by decide +kernel
theorem dX5_init_151 : decode cX5_init 151 = .ok (.newarray .long, 2) := by decide +kernel
theorem dX5_init_153 : decode cX5_init 153 = .ok (.putfield 67, 3) := by decide +kernel
theorem dX5_init_156 : decode cX5_init 156 = .ok (.aload_n 0, 1) := by decide +kernel
theorem dX5_init_157 : decode cX5_init 157 = .ok (.bipush 24, 2) := by decide +kernel
theorem dX5_init_159 : decode cX5_init 159 = .ok (.newarray .long, 2) := by decide +kernel
theorem dX5_init_161 : decode cX5_init 161 = .ok (.putfield 70, 3) := by decide +kernel
theorem dX5_init_164 : decode cX5_init 164 = .ok (.aload_n 0, 1) := by decide +kernel
theorem dX5_init_165 : decode cX5_init 165 = .ok (.bipush 24, 2) := by decide +kernel
theorem dX5_init_167 : decode cX5_init 167 = .ok (.newarray .long, 2) := by decide +kernel
theorem dX5_init_169 : decode cX5_init 169 = .ok (.putfield 73, 3) := by decide +kernel
theorem dX5_init_172 : decode cX5_init 172 = .ok (.aload_n 0, 1) := by decide +kernel
theorem dX5_init_173 : decode cX5_init 173 = .ok (.bipush 24, 2) := by decide +kernel
theorem dX5_init_175 : decode cX5_init 175 = .ok (.newarray .int, 2) := by decide +kernel
theorem dX5_init_177 : decode cX5_init 177 = .ok (.putfield 76, 3) := by decide +kernel
theorem dX5_init_180 : decode cX5_init 180 = .ok (.aload_n 0, 1) := by decide +kernel
theorem dX5_init_181 : decode cX5_init 181 = .ok (.bipush 24, 2) := by decide +kernel
theorem dX5_init_183 : decode cX5_init 183 = .ok (.newarray .boolean, 2) := by decide +kernel
theorem dX5_init_185 : decode cX5_init 185 = .ok (.putfield 79, 3) := by decide +kernel
theorem dX5_init_188 : decode cX5_init 188 = .ok (.aload_n 0, 1) := by decide +kernel
theorem dX5_init_189 : decode cX5_init 189 = .ok (.iconst 4, 1) := by decide +kernel
theorem dX5_init_190 : decode cX5_init 190 = .ok (.newarray .int, 2) := by decide +kernel
theorem dX5_init_192 : decode cX5_init 192 = .ok (.putfield 82, 3) := by decide +kernel
theorem dX5_init_195 : decode cX5_init 195 = .ok (.aload_n 0, 1) := by decide +kernel
theorem dX5_init_196 : decode cX5_init 196 = .ok (.iconst 4, 1) := by decide +kernel
theorem dX5_init_197 : decode cX5_init 197 = .ok (.newarray .int, 2) := by decide +kernel
theorem dX5_init_199 : decode cX5_init 199 = .ok (.putfield 85, 3) := by decide +kernel
theorem dX5_init_202 : decode cX5_init 202 = .ok (.aload_n 0, 1) := by decide +kernel
theorem dX5_init_203 : decode cX5_init 203 = .ok (.iconst 4, 1) := by decide +kernel
theorem dX5_init_204 : decode cX5_init 204 = .ok (.newarray .int, 2) := by decide +kernel
theorem dX5_init_206 : decode cX5_init 206 = .ok (.putfield 88, 3) := by decide +kernel
theorem dX5_init_209 : decode cX5_init 209 = .ok (.aload_n 0, 1) := by decide +kernel
theorem dX5_init_210 : decode cX5_init 210 = .ok (.iconst 4, 1) := by decide +kernel
theorem dX5_init_211 : decode cX5_init 211 = .ok (.newarray .int, 2) := by decide +kernel
theorem dX5_init_213 : decode cX5_init 213 = .ok (.putfield 91, 3) := by decide +kernel
theorem dX5_init_216 : decode cX5_init 216 = .ok (.aload_n 0, 1) := by decide +kernel
theorem dX5_init_217 : decode cX5_init 217 = .ok (.iconst 4, 1) := by decide +kernel
theorem dX5_init_218 : decode cX5_init 218 = .ok (.newarray .int, 2) := by decide +kernel
theorem dX5_init_220 : decode cX5_init 220 = .ok (.putfield 94, 3) := by decide +kernel
theorem dX5_init_223 : decode cX5_init 223 = .ok (.aload_n 0, 1) := by decide +kernel
theorem dX5_init_224 : decode cX5_init 224 = .ok (.bipush 24, 2) := by decide +kernel
theorem dX5_init_226 : decode cX5_init 226 = .ok (.newarray .int, 2) := by decide +kernel
theorem dX5_init_228 : decode cX5_init 228 = .ok (.putfield 97, 3) := by decide +kernel
theorem dX5_init_231 : decode cX5_init 231 = .ok (.aload_n 0, 1) := by decide +kernel
theorem dX5_init_232 : decode cX5_init 232 = .ok (.getfield 8, 3) := by decide +kernel
theorem dX5_init_235 : decode cX5_init 235 = .ok (.iconst 0, 1) := by decide +kernel
theorem dX5_init_236 : decode cX5_init 236 = .ok (.iconst 5, 1) := by decide +kernel
theorem dX5_init_237 : decode cX5_init 237 = .ok (.iastore, 1) := by decide +kernel
theorem dX5_init_238 : decode cX5_init 238 = .ok (.aload_n 0, 1) := by decide +kernel
theorem dX5_init_239 : decode cX5_init 239 = .ok (.getfield 8, 3) := by decide +kernel
theorem dX5_init_242 : decode cX5_init 242 = .ok (.iconst 1, 1) := by decide +kernel
theorem dX5_init_243 : decode cX5_init 243 = .ok (.bipush 20, 2) := by decide +kernel
theorem dX5_init_245 : decode cX5_init 245 = .ok (.iastore, 1) := by decide +kernel
theorem dX5_init_246 : decode cX5_init 246 = .ok (.aload_n 0, 1) := by decide +kernel
theorem dX5_init_247 : decode cX5_init 247 = .ok (.getfield 8, 3) := by decide +kernel
theorem dX5_init_250 : decode cX5_init 250 = .ok (.iconst 2, 1) := by decide +kernel
theorem dX5_init_251 : decode cX5_init 251 = .ok (.bipush 30, 2) := by decide +kernel
theorem dX5_init_253 : decode cX5_init 253 = .ok (.iastore, 1) := by decide +kernel
theorem dX5_init_254 : decode cX5_init 254 = .ok (.iconst 0, 1) := by decide +kernel
theorem dX5_init_255 : decode cX5_init 255 = .ok (.istore_n 1, 1) := by decide +kernel
theorem dX5_init_256 : decode cX5_init 256 = .ok (.iload_n 1, 1) := by decide +kernel
theorem dX5_init_257 : decode cX5_init 257 = .ok (.bipush 36, 2) := by decide +kernel
theorem dX5_init_259 : decode cX5_init 259 = .ok (.if_icmp .ge 38, 3) := by decide +kernel
theorem dX5_init_262 : decode cX5_init 262 = .ok (.aload_n 0, 1) := by decide +kernel
theorem dX5_init_263 : decode cX5_init 263 = .ok (.getfield 14, 3) := by decide +kernel
theorem dX5_init_266 : decode cX5_init 266 = .ok (.iload_n 1, 1) := by decide +kernel
theorem dX5_init_267 : decode cX5_init 267 = .ok (.bipush 10, 2) := by decide +kernel
theorem dX5_init_269 : decode cX5_init 269 = .ok (.iastore, 1) := by decide +kernel
theorem dX5_init_270 : decode cX5_init 270 = .ok (.aload_n 0, 1) := by decide +kernel
theorem dX5_init_271 : decode cX5_init 271 = .ok (.getfield 23, 3) := by decide +kernel
theorem dX5_init_274 : decode cX5_init 274 = .ok (.iload_n 1, 1) := by decide +kernel
theorem dX5_init_275 : decode cX5_init 275 = .ok (.iconst (-1), 1) := by decide +kernel
theorem dX5_init_276 : decode cX5_init 276 = .ok (.iastore, 1) := by decide +kernel
theorem dX5_init_277 : decode cX5_init 277 = .ok (.aload_n 0, 1) := by decide +kernel
theorem dX5_init_278 : decode cX5_init 278 = .ok (.getfield 29, 3) := by decide +kernel
theorem dX5_init_281 : decode cX5_init 281 = .ok (.iload_n 1, 1) := by decide +kernel
theorem dX5_init_282 : decode cX5_init 282 = .ok (.iconst (-1), 1) := by decide +kernel
theorem dX5_init_283 : decode cX5_init 283 = .ok (.iastore, 1) := by decide +kernel
theorem dX5_init_284 : decode cX5_init 284 = .ok (.aload_n 0, 1) := by decide +kernel
theorem dX5_init_285 : decode cX5_init 285 = .ok (.getfield 36, 3) := by decide +kernel
theorem dX5_init_288 : decode cX5_init 288 = .ok (.iload_n 1, 1) := by decide +kernel
theorem dX5_init_289 : decode cX5_init 289 = .ok (.iconst (-1), 1) := by decide +kernel
theorem dX5_init_290 : decode cX5_init 290 = .ok (.iastore, 1) := by decide +kernel
theorem dX5_init_291 : decode cX5_init 291 = .ok (.iinc 1 1, 3) := by decide +kernel
theorem dX5_init_294 : decode cX5_init 294 = .ok (.goto (-38), 3) := by decide +kernel
theorem dX5_init_297 : decode cX5_init 297 = .ok (.return_, 1) := by decide +kernel
theorem dX5_thrown_0 : decode cX5_thrown 0 = .ok (.aload_n 0, 1) := by decide +kernel
theorem dX5_thrown_1 : decode cX5_thrown 1 = .ok (.getfield 100, 3) := by decide +kernel
theorem dX5_thrown_4 : decode cX5_thrown 4 = .ok (.ireturn, 1) := by decide +kernel
theorem dX5_between_0 : decode cX5_between 0 = .ok (.iload_n 1, 1) := by decide +kernel
theorem dX5_between_1 : decode cX5_between 1 = .ok (.iload_n 2, 1) := by decide +kernel
theorem dX5_between_2 : decode cX5_between 2 = .ok (.if_icmp .lt 12, 3) := by decide +kernel
theorem dX5_between_5 : decode cX5_between 5 = .ok (.iload_n 1, 1) := by decide +kernel
theorem dX5_between_6 : decode cX5_between 6 = .ok (.iload_n 3, 1) := by decide +kernel
theorem dX5_between_7 : decode cX5_between 7 = .ok (.if_icmp .gt 7, 3) := by decide +kernel
theorem dX5_between_10 : decode cX5_between 10 = .ok (.iconst 1, 1) := by decide +kernel
theorem dX5_between_11 : decode cX5_between 11 = .ok (.goto 4, 3) := by decide +kernel
theorem dX5_between_14 : decode cX5_between 14 = .ok (.iconst 0, 1) := by decide +kernel
theorem dX5_between_15 : decode cX5_between 15 = .ok (.ireturn, 1) := by decide +kernel
theorem dX5_isPlot_0 : decode cX5_isPlot 0 = .ok (.aload_n 0, 1) := by decide +kernel
theorem dX5_isPlot_1 : decode cX5_isPlot 1 = .ok (.iload_n 1, 1) := by decide +kernel
theorem dX5_isPlot_2 : decode cX5_isPlot 2 = .ok (.iconst 0, 1) := by decide +kernel
theorem dX5_isPlot_3 : decode cX5_isPlot 3 = .ok (.bipush 35, 2) := by decide +kernel
theorem dX5_isPlot_5 : decode cX5_isPlot 5 = .ok (.invokevirtual 104, 3) := by decide +kernel
theorem dX5_isPlot_8 : decode cX5_isPlot 8 = .ok (.ireturn, 1) := by decide +kernel
theorem dX5_isUse_0 : decode cX5_isUse 0 = .ok (.aload_n 0, 1) := by decide +kernel
theorem dX5_isUse_1 : decode cX5_isUse 1 = .ok (.iload_n 1, 1) := by decide +kernel
theorem dX5_isUse_2 : decode cX5_isUse 2 = .ok (.iconst 0, 1) := by decide +kernel
theorem dX5_isUse_3 : decode cX5_isUse 3 = .ok (.iconst 2, 1) := by decide +kernel
theorem dX5_isUse_4 : decode cX5_isUse 4 = .ok (.invokevirtual 104, 3) := by decide +kernel
theorem dX5_isUse_7 : decode cX5_isUse 7 = .ok (.ireturn, 1) := by decide +kernel
theorem dX5_isInterest_0 : decode cX5_isInterest 0 = .ok (.aload_n 0, 1) := by decide +kernel
theorem dX5_isInterest_1 : decode cX5_isInterest 1 = .ok (.iload_n 1, 1) := by decide +kernel
theorem dX5_isInterest_2 : decode cX5_isInterest 2 = .ok (.iconst 0, 1) := by decide +kernel
theorem dX5_isInterest_3 : decode cX5_isInterest 3 = .ok (.aload_n 0, 1) := by decide +kernel
theorem dX5_isInterest_4 : decode cX5_isInterest 4 = .ok (.getfield 108, 3) := by decide +kernel
theorem dX5_isInterest_7 : decode cX5_isInterest 7 = .ok (.iconst 1, 1) := by decide +kernel
theorem dX5_isInterest_8 : decode cX5_isInterest 8 = .ok (.isub, 1) := by decide +kernel
theorem dX5_isInterest_9 : decode cX5_isInterest 9 = .ok (.invokevirtual 104, 3) := by decide +kernel
theorem dX5_isInterest_12 : decode cX5_isInterest 12 = .ok (.ireturn, 1) := by decide +kernel
theorem dX5_isScheme_0 : decode cX5_isScheme 0 = .ok (.aload_n 0, 1) := by decide +kernel
theorem dX5_isScheme_1 : decode cX5_isScheme 1 = .ok (.iload_n 1, 1) := by decide +kernel
theorem dX5_isScheme_2 : decode cX5_isScheme 2 = .ok (.iconst 0, 1) := by decide +kernel
theorem dX5_isScheme_3 : decode cX5_isScheme 3 = .ok (.aload_n 0, 1) := by decide +kernel
theorem dX5_isScheme_4 : decode cX5_isScheme 4 = .ok (.getfield 111, 3) := by decide +kernel
theorem dX5_isScheme_7 : decode cX5_isScheme 7 = .ok (.iconst 1, 1) := by decide +kernel
theorem dX5_isScheme_8 : decode cX5_isScheme 8 = .ok (.isub, 1) := by decide +kernel
theorem dX5_isScheme_9 : decode cX5_isScheme 9 = .ok (.invokevirtual 104, 3) := by decide +kernel
theorem dX5_isScheme_12 : decode cX5_isScheme 12 = .ok (.ireturn, 1) := by decide +kernel
theorem dX5_plot_0 : decode cX5_plot 0 = .ok (.aload_n 0, 1) := by decide +kernel
theorem dX5_plot_1 : decode cX5_plot 1 = .ok (.aload_n 0, 1) := by decide +kernel
theorem dX5_plot_2 : decode cX5_plot 2 = .ok (.iload_n 1, 1) := by decide +kernel
theorem dX5_plot_3 : decode cX5_plot 3 = .ok (.invokevirtual 114, 3) := by decide +kernel
theorem dX5_plot_6 : decode cX5_plot 6 = .ok (.ifCond .ne 7, 3) := by decide +kernel
theorem dX5_plot_9 : decode cX5_plot 9 = .ok (.iconst 1, 1) := by decide +kernel
theorem dX5_plot_10 : decode cX5_plot 10 = .ok (.goto 50, 3) := by decide +kernel
theorem dX5_plot_13 : decode cX5_plot 13 = .ok (.aload_n 0, 1) := by decide +kernel
theorem dX5_plot_14 : decode cX5_plot 14 = .ok (.iload_n 2, 1) := by decide +kernel
theorem dX5_plot_15 : decode cX5_plot 15 = .ok (.iconst 1, 1) := by decide +kernel
theorem dX5_plot_16 : decode cX5_plot 16 = .ok (.bipush 100, 2) := by decide +kernel
theorem dX5_plot_18 : decode cX5_plot 18 = .ok (.invokevirtual 104, 3) := by decide +kernel
theorem dX5_plot_21 : decode cX5_plot 21 = .ok (.ifCond .eq 11, 3) := by decide +kernel
theorem dX5_plot_24 : decode cX5_plot 24 = .ok (.aload_n 0, 1) := by decide +kernel
theorem dX5_plot_25 : decode cX5_plot 25 = .ok (.iload_n 3, 1) := by decide +kernel
theorem dX5_plot_26 : decode cX5_plot 26 = .ok (.invokevirtual 118, 3) := by decide +kernel
theorem dX5_plot_29 : decode cX5_plot 29 = .ok (.ifCond .ne 7, 3) := by decide +kernel
theorem dX5_plot_32 : decode cX5_plot 32 = .ok (.iconst 2, 1) := by decide +kernel
theorem dX5_plot_33 : decode cX5_plot 33 = .ok (.goto 27, 3) := by decide +kernel
theorem dX5_plot_36 : decode cX5_plot 36 = .ok (.aload_n 0, 1) := by decide +kernel
theorem dX5_plot_37 : decode cX5_plot 37 = .ok (.getfield 20, 3) := by decide +kernel
theorem dX5_plot_40 : decode cX5_plot 40 = .ok (.iload_n 1, 1) := by decide +kernel
theorem dX5_plot_41 : decode cX5_plot 41 = .ok (.iaload, 1) := by decide +kernel
theorem dX5_plot_42 : decode cX5_plot 42 = .ok (.ifCond .ne 13, 3) := by decide +kernel
theorem dX5_plot_45 : decode cX5_plot 45 = .ok (.aload_n 0, 1) := by decide +kernel
theorem dX5_plot_46 : decode cX5_plot 46 = .ok (.getfield 23, 3) := by decide +kernel
theorem dX5_plot_49 : decode cX5_plot 49 = .ok (.iload_n 1, 1) := by decide +kernel
theorem dX5_plot_50 : decode cX5_plot 50 = .ok (.iaload, 1) := by decide +kernel
theorem dX5_plot_51 : decode cX5_plot 51 = .ok (.iconst (-1), 1) := by decide +kernel
theorem dX5_plot_52 : decode cX5_plot 52 = .ok (.if_icmp .eq 7, 3) := by decide +kernel
theorem dX5_plot_55 : decode cX5_plot 55 = .ok (.iconst 3, 1) := by decide +kernel
theorem dX5_plot_56 : decode cX5_plot 56 = .ok (.goto 4, 3) := by decide +kernel
theorem dX5_plot_59 : decode cX5_plot 59 = .ok (.iconst 0, 1) := by decide +kernel
theorem dX5_plot_60 : decode cX5_plot 60 = .ok (.putfield 100, 3) := by decide +kernel
theorem dX5_plot_63 : decode cX5_plot 63 = .ok (.aload_n 0, 1) := by decide +kernel
theorem dX5_plot_64 : decode cX5_plot 64 = .ok (.getfield 100, 3) := by decide +kernel
theorem dX5_plot_67 : decode cX5_plot 67 = .ok (.ifCond .le 5, 3) := by decide +kernel
theorem dX5_plot_70 : decode cX5_plot 70 = .ok (.iconst 0, 1) := by decide +kernel
theorem dX5_plot_71 : decode cX5_plot 71 = .ok (.ireturn, 1) := by decide +kernel
theorem dX5_plot_72 : decode cX5_plot 72 = .ok (.aload_n 0, 1) := by decide +kernel
theorem dX5_plot_73 : decode cX5_plot 73 = .ok (.getfield 14, 3) := by decide +kernel
theorem dX5_plot_76 : decode cX5_plot 76 = .ok (.iload_n 1, 1) := by decide +kernel
theorem dX5_plot_77 : decode cX5_plot 77 = .ok (.iaload, 1) := by decide +kernel
theorem dX5_plot_78 : decode cX5_plot 78 = .ok (.istore 4, 2) := by decide +kernel
theorem dX5_plot_80 : decode cX5_plot 80 = .ok (.aload_n 0, 1) := by decide +kernel
theorem dX5_plot_81 : decode cX5_plot 81 = .ok (.getfield 14, 3) := by decide +kernel
theorem dX5_plot_84 : decode cX5_plot 84 = .ok (.iload_n 1, 1) := by decide +kernel
theorem dX5_plot_85 : decode cX5_plot 85 = .ok (.iload_n 2, 1) := by decide +kernel
theorem dX5_plot_86 : decode cX5_plot 86 = .ok (.iastore, 1) := by decide +kernel
theorem dX5_plot_87 : decode cX5_plot 87 = .ok (.aload_n 0, 1) := by decide +kernel
theorem dX5_plot_88 : decode cX5_plot 88 = .ok (.getfield 17, 3) := by decide +kernel
theorem dX5_plot_91 : decode cX5_plot 91 = .ok (.iload_n 1, 1) := by decide +kernel
theorem dX5_plot_92 : decode cX5_plot 92 = .ok (.iload_n 3, 1) := by decide +kernel
theorem dX5_plot_93 : decode cX5_plot 93 = .ok (.iastore, 1) := by decide +kernel
theorem dX5_plot_94 : decode cX5_plot 94 = .ok (.iload 4, 2) := by decide +kernel
theorem dX5_plot_96 : decode cX5_plot 96 = .ok (.ireturn, 1) := by decide +kernel
theorem dX5_price_0 : decode cX5_price 0 = .ok (.aload_n 0, 1) := by decide +kernel
theorem dX5_price_1 : decode cX5_price 1 = .ok (.aload_n 0, 1) := by decide +kernel
theorem dX5_price_2 : decode cX5_price 2 = .ok (.iload_n 1, 1) := by decide +kernel
theorem dX5_price_3 : decode cX5_price 3 = .ok (.invokevirtual 118, 3) := by decide +kernel
theorem dX5_price_6 : decode cX5_price 6 = .ok (.ifCond .eq 15, 3) := by decide +kernel
theorem dX5_price_9 : decode cX5_price 9 = .ok (.aload_n 0, 1) := by decide +kernel
theorem dX5_price_10 : decode cX5_price 10 = .ok (.iload_n 2, 1) := by decide +kernel
theorem dX5_price_11 : decode cX5_price 11 = .ok (.iconst 0, 1) := by decide +kernel
theorem dX5_price_12 : decode cX5_price 12 = .ok (.sipush 1000, 3) := by decide +kernel
theorem dX5_price_15 : decode cX5_price 15 = .ok (.invokevirtual 104, 3) := by decide +kernel
theorem dX5_price_18 : decode cX5_price 18 = .ok (.ifCond .ne 7, 3) := by decide +kernel
theorem dX5_price_21 : decode cX5_price 21 = .ok (.iconst 1, 1) := by decide +kernel
theorem dX5_price_22 : decode cX5_price 22 = .ok (.goto 4, 3) := by decide +kernel
theorem dX5_price_25 : decode cX5_price 25 = .ok (.iconst 0, 1) := by decide +kernel
theorem dX5_price_26 : decode cX5_price 26 = .ok (.putfield 100, 3) := by decide +kernel
theorem dX5_price_29 : decode cX5_price 29 = .ok (.aload_n 0, 1) := by decide +kernel
theorem dX5_price_30 : decode cX5_price 30 = .ok (.getfield 100, 3) := by decide +kernel
theorem dX5_price_33 : decode cX5_price 33 = .ok (.ifCond .le 5, 3) := by decide +kernel
theorem dX5_price_36 : decode cX5_price 36 = .ok (.iconst 0, 1) := by decide +kernel
theorem dX5_price_37 : decode cX5_price 37 = .ok (.ireturn, 1) := by decide +kernel
theorem dX5_price_38 : decode cX5_price 38 = .ok (.aload_n 0, 1) := by decide +kernel
theorem dX5_price_39 : decode cX5_price 39 = .ok (.getfield 8, 3) := by decide +kernel
theorem dX5_price_42 : decode cX5_price 42 = .ok (.iconst 3, 1) := by decide +kernel
theorem dX5_price_43 : decode cX5_price 43 = .ok (.aload_n 0, 1) := by decide +kernel
theorem dX5_price_44 : decode cX5_price 44 = .ok (.getfield 121, 3) := by decide +kernel
theorem dX5_price_47 : decode cX5_price 47 = .ok (.imul, 1) := by decide +kernel
theorem dX5_price_48 : decode cX5_price 48 = .ok (.iload_n 1, 1) := by decide +kernel
theorem dX5_price_49 : decode cX5_price 49 = .ok (.iadd, 1) := by decide +kernel
theorem dX5_price_50 : decode cX5_price 50 = .ok (.iaload, 1) := by decide +kernel
theorem dX5_price_51 : decode cX5_price 51 = .ok (.istore_n 3, 1) := by decide +kernel
theorem dX5_price_52 : decode cX5_price 52 = .ok (.aload_n 0, 1) := by decide +kernel
theorem dX5_price_53 : decode cX5_price 53 = .ok (.getfield 8, 3) := by decide +kernel
theorem dX5_price_56 : decode cX5_price 56 = .ok (.iconst 3, 1) := by decide +kernel
theorem dX5_price_57 : decode cX5_price 57 = .ok (.aload_n 0, 1) := by decide +kernel
theorem dX5_price_58 : decode cX5_price 58 = .ok (.getfield 121, 3) := by decide +kernel
theorem dX5_price_61 : decode cX5_price 61 = .ok (.imul, 1) := by decide +kernel
theorem dX5_price_62 : decode cX5_price 62 = .ok (.iload_n 1, 1) := by decide +kernel
theorem dX5_price_63 : decode cX5_price 63 = .ok (.iadd, 1) := by decide +kernel
theorem dX5_price_64 : decode cX5_price 64 = .ok (.iload_n 2, 1) := by decide +kernel
theorem dX5_price_65 : decode cX5_price 65 = .ok (.iastore, 1) := by decide +kernel
theorem dX5_price_66 : decode cX5_price 66 = .ok (.iload_n 3, 1) := by decide +kernel
theorem dX5_price_67 : decode cX5_price 67 = .ok (.ireturn, 1) := by decide +kernel
theorem dX5_worthOn_0 : decode cX5_worthOn 0 = .ok (.aload_n 0, 1) := by decide +kernel
theorem dX5_worthOn_1 : decode cX5_worthOn 1 = .ok (.getfield 14, 3) := by decide +kernel
theorem dX5_worthOn_4 : decode cX5_worthOn 4 = .ok (.iload_n 1, 1) := by decide +kernel
theorem dX5_worthOn_5 : decode cX5_worthOn 5 = .ok (.iaload, 1) := by decide +kernel
theorem dX5_worthOn_6 : decode cX5_worthOn 6 = .ok (.aload_n 0, 1) := by decide +kernel
theorem dX5_worthOn_7 : decode cX5_worthOn 7 = .ok (.getfield 8, 3) := by decide +kernel
theorem dX5_worthOn_10 : decode cX5_worthOn 10 = .ok (.iconst 3, 1) := by decide +kernel
theorem dX5_worthOn_11 : decode cX5_worthOn 11 = .ok (.iload_n 2, 1) := by decide +kernel
theorem dX5_worthOn_12 : decode cX5_worthOn 12 = .ok (.imul, 1) := by decide +kernel
theorem dX5_worthOn_13 : decode cX5_worthOn 13 = .ok (.aload_n 0, 1) := by decide +kernel
theorem dX5_worthOn_14 : decode cX5_worthOn 14 = .ok (.getfield 17, 3) := by decide +kernel
theorem dX5_worthOn_17 : decode cX5_worthOn 17 = .ok (.iload_n 1, 1) := by decide +kernel
theorem dX5_worthOn_18 : decode cX5_worthOn 18 = .ok (.iaload, 1) := by decide +kernel
theorem dX5_worthOn_19 : decode cX5_worthOn 19 = .ok (.iadd, 1) := by decide +kernel
theorem dX5_worthOn_20 : decode cX5_worthOn 20 = .ok (.iaload, 1) := by decide +kernel
theorem dX5_worthOn_21 : decode cX5_worthOn 21 = .ok (.imul, 1) := by decide +kernel
theorem dX5_worthOn_22 : decode cX5_worthOn 22 = .ok (.ireturn, 1) := by decide +kernel
theorem dX5_worth_0 : decode cX5_worth 0 = .ok (.aload_n 0, 1) := by decide +kernel
theorem dX5_worth_1 : decode cX5_worth 1 = .ok (.aload_n 0, 1) := by decide +kernel
theorem dX5_worth_2 : decode cX5_worth 2 = .ok (.iload_n 1, 1) := by decide +kernel
theorem dX5_worth_3 : decode cX5_worth 3 = .ok (.invokevirtual 114, 3) := by decide +kernel
theorem dX5_worth_6 : decode cX5_worth 6 = .ok (.ifCond .ne 7, 3) := by decide +kernel
theorem dX5_worth_9 : decode cX5_worth 9 = .ok (.iconst 1, 1) := by decide +kernel
theorem dX5_worth_10 : decode cX5_worth 10 = .ok (.goto 21, 3) := by decide +kernel
theorem dX5_worth_13 : decode cX5_worth 13 = .ok (.aload_n 0, 1) := by decide +kernel
theorem dX5_worth_14 : decode cX5_worth 14 = .ok (.iload_n 2, 1) := by decide +kernel
theorem dX5_worth_15 : decode cX5_worth 15 = .ok (.iconst 0, 1) := by decide +kernel
theorem dX5_worth_16 : decode cX5_worth 16 = .ok (.aload_n 0, 1) := by decide +kernel
theorem dX5_worth_17 : decode cX5_worth 17 = .ok (.getfield 121, 3) := by decide +kernel
theorem dX5_worth_20 : decode cX5_worth 20 = .ok (.invokevirtual 104, 3) := by decide +kernel
theorem dX5_worth_23 : decode cX5_worth 23 = .ok (.ifCond .ne 7, 3) := by decide +kernel
theorem dX5_worth_26 : decode cX5_worth 26 = .ok (.iconst 2, 1) := by decide +kernel
theorem dX5_worth_27 : decode cX5_worth 27 = .ok (.goto 4, 3) := by decide +kernel
theorem dX5_worth_30 : decode cX5_worth 30 = .ok (.iconst 0, 1) := by decide +kernel
theorem dX5_worth_31 : decode cX5_worth 31 = .ok (.putfield 100, 3) := by decide +kernel
theorem dX5_worth_34 : decode cX5_worth 34 = .ok (.aload_n 0, 1) := by decide +kernel
theorem dX5_worth_35 : decode cX5_worth 35 = .ok (.getfield 100, 3) := by decide +kernel
theorem dX5_worth_38 : decode cX5_worth 38 = .ok (.ifCond .le 7, 3) := by decide +kernel
theorem dX5_worth_41 : decode cX5_worth 41 = .ok (.iconst 0, 1) := by decide +kernel
theorem dX5_worth_42 : decode cX5_worth 42 = .ok (.goto 9, 3) := by decide +kernel
theorem dX5_worth_45 : decode cX5_worth 45 = .ok (.aload_n 0, 1) := by decide +kernel
theorem dX5_worth_46 : decode cX5_worth 46 = .ok (.iload_n 1, 1) := by decide +kernel
theorem dX5_worth_47 : decode cX5_worth 47 = .ok (.iload_n 2, 1) := by decide +kernel
theorem dX5_worth_48 : decode cX5_worth 48 = .ok (.invokevirtual 124, 3) := by decide +kernel
theorem dX5_worth_51 : decode cX5_worth 51 = .ok (.ireturn, 1) := by decide +kernel
theorem dX5_isNeededBeside_0 : decode cX5_isNeededBeside 0 = .ok (.iload_n 1, 1) := by decide +kernel
theorem dX5_isNeededBeside_1 : decode cX5_isNeededBeside 1 = .ok (.bipush 6, 2) := by decide +kernel
theorem dX5_isNeededBeside_3 : decode cX5_isNeededBeside 3 = .ok (.irem, 1) := by decide +kernel
theorem dX5_isNeededBeside_4 : decode cX5_isNeededBeside 4 = .ok (.istore_n 2, 1) := by decide +kernel
theorem dX5_isNeededBeside_5 : decode cX5_isNeededBeside 5 = .ok (.iload_n 2, 1) := by decide +kernel
theorem dX5_isNeededBeside_6 : decode cX5_isNeededBeside 6 = .ok (.ifCond .le 15, 3) := by decide +kernel
theorem dX5_isNeededBeside_9 : decode cX5_isNeededBeside 9 = .ok (.aload_n 0, 1) := by decide +kernel
theorem dX5_isNeededBeside_10 : decode cX5_isNeededBeside 10 = .ok (.getfield 23, 3) := by decide +kernel
theorem dX5_isNeededBeside_13 : decode cX5_isNeededBeside 13 = .ok (.iload_n 1, 1) := by decide +kernel
theorem dX5_isNeededBeside_14 : decode cX5_isNeededBeside 14 = .ok (.iconst 1, 1) := by decide +kernel
theorem dX5_isNeededBeside_15 : decode cX5_isNeededBeside 15 = .ok (.isub, 1) := by decide +kernel
theorem dX5_isNeededBeside_16 : decode cX5_isNeededBeside 16 = .ok (.iaload, 1) := by decide +kernel
theorem dX5_isNeededBeside_17 : decode cX5_isNeededBeside 17 = .ok (.iconst (-1), 1) := by decide +kernel
theorem dX5_isNeededBeside_18 : decode cX5_isNeededBeside 18 = .ok (.if_icmp .ne 20, 3) := by decide +kernel
theorem dX5_isNeededBeside_21 : decode cX5_isNeededBeside 21 = .ok (.iload_n 2, 1) := by decide +kernel
theorem dX5_isNeededBeside_22 : decode cX5_isNeededBeside 22 = .ok (.iconst 5, 1) := by decide +kernel
theorem dX5_isNeededBeside_23 : decode cX5_isNeededBeside 23 = .ok (.if_icmp .ge 19, 3) := by decide +kernel
theorem dX5_isNeededBeside_26 : decode cX5_isNeededBeside 26 = .ok (.aload_n 0, 1) := by decide +kernel
theorem dX5_isNeededBeside_27 : decode cX5_isNeededBeside 27 = .ok (.getfield 23, 3) := by decide +kernel
theorem dX5_isNeededBeside_30 : decode cX5_isNeededBeside 30 = .ok (.iload_n 1, 1) := by decide +kernel
theorem dX5_isNeededBeside_31 : decode cX5_isNeededBeside 31 = .ok (.iconst 1, 1) := by decide +kernel
theorem dX5_isNeededBeside_32 : decode cX5_isNeededBeside 32 = .ok (.iadd, 1) := by decide +kernel
theorem dX5_isNeededBeside_33 : decode cX5_isNeededBeside 33 = .ok (.iaload, 1) := by decide +kernel
theorem dX5_isNeededBeside_34 : decode cX5_isNeededBeside 34 = .ok (.iconst (-1), 1) := by decide +kernel
theorem dX5_isNeededBeside_35 : decode cX5_isNeededBeside 35 = .ok (.if_icmp .eq 7, 3) := by decide +kernel
theorem dX5_isNeededBeside_38 : decode cX5_isNeededBeside 38 = .ok (.iconst 1, 1) := by decide +kernel
theorem dX5_isNeededBeside_39 : decode cX5_isNeededBeside 39 = .ok (.goto 4, 3) := by decide +kernel
theorem dX5_isNeededBeside_42 : decode cX5_isNeededBeside 42 = .ok (.iconst 0, 1) := by decide +kernel
theorem dX5_isNeededBeside_43 : decode cX5_isNeededBeside 43 = .ok (.istore_n 3, 1) := by decide +kernel
theorem dX5_isNeededBeside_44 : decode cX5_isNeededBeside 44 = .ok (.iload_n 3, 1) := by decide +kernel
theorem dX5_isNeededBeside_45 : decode cX5_isNeededBeside 45 = .ok (.ifCond .ne 40, 3) := by decide +kernel
theorem dX5_isNeededBeside_48 : decode cX5_isNeededBeside 48 = .ok (.iload_n 1, 1) := by decide +kernel
theorem dX5_isNeededBeside_49 : decode cX5_isNeededBeside 49 = .ok (.iconst 5, 1) := by decide +kernel
theorem dX5_isNeededBeside_50 : decode cX5_isNeededBeside 50 = .ok (.if_icmp .le 16, 3) := by decide +kernel
theorem dX5_isNeededBeside_53 : decode cX5_isNeededBeside 53 = .ok (.aload_n 0, 1) := by decide +kernel
theorem dX5_isNeededBeside_54 : decode cX5_isNeededBeside 54 = .ok (.getfield 23, 3) := by decide +kernel
theorem dX5_isNeededBeside_57 : decode cX5_isNeededBeside 57 = .ok (.iload_n 1, 1) := by decide +kernel
theorem dX5_isNeededBeside_58 : decode cX5_isNeededBeside 58 = .ok (.bipush 6, 2) := by decide +kernel
theorem dX5_isNeededBeside_60 : decode cX5_isNeededBeside 60 = .ok (.isub, 1) := by decide +kernel
theorem dX5_isNeededBeside_61 : decode cX5_isNeededBeside 61 = .ok (.iaload, 1) := by decide +kernel
theorem dX5_isNeededBeside_62 : decode cX5_isNeededBeside 62 = .ok (.iconst (-1), 1) := by decide +kernel
theorem dX5_isNeededBeside_63 : decode cX5_isNeededBeside 63 = .ok (.if_icmp .ne 22, 3) := by decide +kernel
theorem dX5_isNeededBeside_66 : decode cX5_isNeededBeside 66 = .ok (.iload_n 1, 1) := by decide +kernel
theorem dX5_isNeededBeside_67 : decode cX5_isNeededBeside 67 = .ok (.bipush 30, 2) := by decide +kernel
theorem dX5_isNeededBeside_69 : decode cX5_isNeededBeside 69 = .ok (.if_icmp .ge 20, 3) := by decide +kernel
theorem dX5_isNeededBeside_72 : decode cX5_isNeededBeside 72 = .ok (.aload_n 0, 1) := by decide +kernel
theorem dX5_isNeededBeside_73 : decode cX5_isNeededBeside 73 = .ok (.getfield 23, 3) := by decide +kernel
theorem dX5_isNeededBeside_76 : decode cX5_isNeededBeside 76 = .ok (.iload_n 1, 1) := by decide +kernel
theorem dX5_isNeededBeside_77 : decode cX5_isNeededBeside 77 = .ok (.bipush 6, 2) := by decide +kernel
theorem dX5_isNeededBeside_79 : decode cX5_isNeededBeside 79 = .ok (.iadd, 1) := by decide +kernel
theorem dX5_isNeededBeside_80 : decode cX5_isNeededBeside 80 = .ok (.iaload, 1) := by decide +kernel
theorem dX5_isNeededBeside_81 : decode cX5_isNeededBeside 81 = .ok (.iconst (-1), 1) := by decide +kernel
theorem dX5_isNeededBeside_82 : decode cX5_isNeededBeside 82 = .ok (.if_icmp .eq 7, 3) := by decide +kernel
theorem dX5_isNeededBeside_85 : decode cX5_isNeededBeside 85 = .ok (.iconst 1, 1) := by decide +kernel
theorem dX5_isNeededBeside_86 : decode cX5_isNeededBeside 86 = .ok (.goto 4, 3) := by decide +kernel
theorem dX5_isNeededBeside_89 : decode cX5_isNeededBeside 89 = .ok (.iconst 0, 1) := by decide +kernel
theorem dX5_isNeededBeside_90 : decode cX5_isNeededBeside 90 = .ok (.ireturn, 1) := by decide +kernel
theorem dX5_market_0 : decode cX5_market 0 = .ok (.aload_n 0, 1) := by decide +kernel
theorem dX5_market_1 : decode cX5_market 1 = .ok (.aload_n 0, 1) := by decide +kernel
theorem dX5_market_2 : decode cX5_market 2 = .ok (.iload_n 1, 1) := by decide +kernel
theorem dX5_market_3 : decode cX5_market 3 = .ok (.invokevirtual 114, 3) := by decide +kernel
theorem dX5_market_6 : decode cX5_market 6 = .ok (.ifCond .ne 7, 3) := by decide +kernel
theorem dX5_market_9 : decode cX5_market 9 = .ok (.iconst 1, 1) := by decide +kernel
theorem dX5_market_10 : decode cX5_market 10 = .ok (.goto 4, 3) := by decide +kernel
theorem dX5_market_13 : decode cX5_market 13 = .ok (.iconst 0, 1) := by decide +kernel
theorem dX5_market_14 : decode cX5_market 14 = .ok (.putfield 100, 3) := by decide +kernel
theorem dX5_market_17 : decode cX5_market 17 = .ok (.aload_n 0, 1) := by decide +kernel
theorem dX5_market_18 : decode cX5_market 18 = .ok (.getfield 100, 3) := by decide +kernel
theorem dX5_market_21 : decode cX5_market 21 = .ok (.ifCond .le 5, 3) := by decide +kernel
theorem dX5_market_24 : decode cX5_market 24 = .ok (.iconst 0, 1) := by decide +kernel
theorem dX5_market_25 : decode cX5_market 25 = .ok (.ireturn, 1) := by decide +kernel
theorem dX5_market_26 : decode cX5_market 26 = .ok (.aload_n 0, 1) := by decide +kernel
theorem dX5_market_27 : decode cX5_market 27 = .ok (.iload_n 1, 1) := by decide +kernel
theorem dX5_market_28 : decode cX5_market 28 = .ok (.aload_n 0, 1) := by decide +kernel
theorem dX5_market_29 : decode cX5_market 29 = .ok (.getfield 121, 3) := by decide +kernel
theorem dX5_market_32 : decode cX5_market 32 = .ok (.invokevirtual 124, 3) := by decide +kernel
theorem dX5_market_35 : decode cX5_market 35 = .ok (.istore_n 2, 1) := by decide +kernel
theorem dX5_market_36 : decode cX5_market 36 = .ok (.aload_n 0, 1) := by decide +kernel
theorem dX5_market_37 : decode cX5_market 37 = .ok (.getfield 20, 3) := by decide +kernel
theorem dX5_market_40 : decode cX5_market 40 = .ok (.iload_n 1, 1) := by decide +kernel
theorem dX5_market_41 : decode cX5_market 41 = .ok (.iaload, 1) := by decide +kernel
theorem dX5_market_42 : decode cX5_market 42 = .ok (.ifCond .eq 5, 3) := by decide +kernel
theorem dX5_market_45 : decode cX5_market 45 = .ok (.iload_n 2, 1) := by decide +kernel
theorem dX5_market_46 : decode cX5_market 46 = .ok (.ireturn, 1) := by decide +kernel
theorem dX5_market_47 : decode cX5_market 47 = .ok (.aload_n 0, 1) := by decide +kernel
theorem dX5_market_48 : decode cX5_market 48 = .ok (.getfield 23, 3) := by decide +kernel
theorem dX5_market_51 : decode cX5_market 51 = .ok (.iload_n 1, 1) := by decide +kernel
theorem dX5_market_52 : decode cX5_market 52 = .ok (.iaload, 1) := by decide +kernel
theorem dX5_market_53 : decode cX5_market 53 = .ok (.iconst (-1), 1) := by decide +kernel
theorem dX5_market_54 : decode cX5_market 54 = .ok (.if_icmp .eq 13, 3) := by decide +kernel
theorem dX5_market_57 : decode cX5_market 57 = .ok (.iload_n 2, 1) := by decide +kernel
theorem dX5_market_58 : decode cX5_market 58 = .ok (.bipush 70, 2) := by decide +kernel
theorem dX5_market_60 : decode cX5_market 60 = .ok (.imul, 1) := by decide +kernel
theorem dX5_market_61 : decode cX5_market 61 = .ok (.bipush 100, 2) := by decide +kernel
theorem dX5_market_63 : decode cX5_market 63 = .ok (.idiv, 1) := by decide +kernel
theorem dX5_market_64 : decode cX5_market 64 = .ok (.goto 22, 3) := by decide +kernel
theorem dX5_market_67 : decode cX5_market 67 = .ok (.aload_n 0, 1) := by decide +kernel
theorem dX5_market_68 : decode cX5_market 68 = .ok (.iload_n 1, 1) := by decide +kernel
theorem dX5_market_69 : decode cX5_market 69 = .ok (.invokevirtual 128, 3) := by decide +kernel
theorem dX5_market_72 : decode cX5_market 72 = .ok (.ifCond .eq 13, 3) := by decide +kernel
theorem dX5_market_75 : decode cX5_market 75 = .ok (.iload_n 2, 1) := by decide +kernel
theorem dX5_market_76 : decode cX5_market 76 = .ok (.bipush 90, 2) := by decide +kernel
theorem dX5_market_78 : decode cX5_market 78 = .ok (.imul, 1) := by decide +kernel
theorem dX5_market_79 : decode cX5_market 79 = .ok (.bipush 100, 2) := by decide +kernel
theorem dX5_market_81 : decode cX5_market 81 = .ok (.idiv, 1) := by decide +kernel
theorem dX5_market_82 : decode cX5_market 82 = .ok (.goto 4, 3) := by decide +kernel
theorem dX5_market_85 : decode cX5_market 85 = .ok (.iload_n 2, 1) := by decide +kernel
theorem dX5_market_86 : decode cX5_market 86 = .ok (.ireturn, 1) := by decide +kernel
theorem dX5_plotOf_0 : decode cX5_plotOf 0 = .ok (.aload_n 0, 1) := by decide +kernel
theorem dX5_plotOf_1 : decode cX5_plotOf 1 = .ok (.aload_n 0, 1) := by decide +kernel
theorem dX5_plotOf_2 : decode cX5_plotOf 2 = .ok (.iload_n 1, 1) := by decide +kernel
theorem dX5_plotOf_3 : decode cX5_plotOf 3 = .ok (.invokevirtual 114, 3) := by decide +kernel
theorem dX5_plotOf_6 : decode cX5_plotOf 6 = .ok (.ifCond .ne 7, 3) := by decide +kernel
theorem dX5_plotOf_9 : decode cX5_plotOf 9 = .ok (.iconst 1, 1) := by decide +kernel
theorem dX5_plotOf_10 : decode cX5_plotOf 10 = .ok (.goto 19, 3) := by decide +kernel
theorem dX5_plotOf_13 : decode cX5_plotOf 13 = .ok (.aload_n 0, 1) := by decide +kernel
theorem dX5_plotOf_14 : decode cX5_plotOf 14 = .ok (.iload_n 2, 1) := by decide +kernel
theorem dX5_plotOf_15 : decode cX5_plotOf 15 = .ok (.iconst 0, 1) := by decide +kernel
theorem dX5_plotOf_16 : decode cX5_plotOf 16 = .ok (.bipush 8, 2) := by decide +kernel
theorem dX5_plotOf_18 : decode cX5_plotOf 18 = .ok (.invokevirtual 104, 3) := by decide +kernel
theorem dX5_plotOf_21 : decode cX5_plotOf 21 = .ok (.ifCond .ne 7, 3) := by decide +kernel
theorem dX5_plotOf_24 : decode cX5_plotOf 24 = .ok (.iconst 2, 1) := by decide +kernel
theorem dX5_plotOf_25 : decode cX5_plotOf 25 = .ok (.goto 4, 3) := by decide +kernel
theorem dX5_plotOf_28 : decode cX5_plotOf 28 = .ok (.iconst 0, 1) := by decide +kernel
theorem dX5_plotOf_29 : decode cX5_plotOf 29 = .ok (.putfield 100, 3) := by decide +kernel
theorem dX5_plotOf_32 : decode cX5_plotOf 32 = .ok (.aload_n 0, 1) := by decide +kernel
theorem dX5_plotOf_33 : decode cX5_plotOf 33 = .ok (.getfield 100, 3) := by decide +kernel
theorem dX5_plotOf_36 : decode cX5_plotOf 36 = .ok (.ifCond .le 5, 3) := by decide +kernel
theorem dX5_plotOf_39 : decode cX5_plotOf 39 = .ok (.iconst 0, 1) := by decide +kernel
theorem dX5_plotOf_40 : decode cX5_plotOf 40 = .ok (.ireturn, 1) := by decide +kernel
theorem dX5_plotOf_41 : decode cX5_plotOf 41 = .ok (.iload_n 2, 1) := by decide +kernel
theorem dX5_plotOf_42 : decode cX5_plotOf 42 = .ok (.tableswitch 110 0 7 #[46, 53, 60, 67, 74, 81, 88, 103], 46) := by decide +kernel
theorem dX5_plotOf_88 : decode cX5_plotOf 88 = .ok (.aload_n 0, 1) := by decide +kernel
theorem dX5_plotOf_89 : decode cX5_plotOf 89 = .ok (.getfield 14, 3) := by decide +kernel
theorem dX5_plotOf_92 : decode cX5_plotOf 92 = .ok (.iload_n 1, 1) := by decide +kernel
theorem dX5_plotOf_93 : decode cX5_plotOf 93 = .ok (.iaload, 1) := by decide +kernel
theorem dX5_plotOf_94 : decode cX5_plotOf 94 = .ok (.ireturn, 1) := by decide +kernel
theorem dX5_plotOf_95 : decode cX5_plotOf 95 = .ok (.aload_n 0, 1) := by decide +kernel
theorem dX5_plotOf_96 : decode cX5_plotOf 96 = .ok (.getfield 17, 3) := by decide +kernel
theorem dX5_plotOf_99 : decode cX5_plotOf 99 = .ok (.iload_n 1, 1) := by decide +kernel
theorem dX5_plotOf_100 : decode cX5_plotOf 100 = .ok (.iaload, 1) := by decide +kernel
theorem dX5_plotOf_101 : decode cX5_plotOf 101 = .ok (.ireturn, 1) := by decide +kernel
theorem dX5_plotOf_102 : decode cX5_plotOf 102 = .ok (.aload_n 0, 1) := by decide +kernel
theorem dX5_plotOf_103 : decode cX5_plotOf 103 = .ok (.getfield 20, 3) := by decide +kernel
theorem dX5_plotOf_106 : decode cX5_plotOf 106 = .ok (.iload_n 1, 1) := by decide +kernel
theorem dX5_plotOf_107 : decode cX5_plotOf 107 = .ok (.iaload, 1) := by decide +kernel
theorem dX5_plotOf_108 : decode cX5_plotOf 108 = .ok (.ireturn, 1) := by decide +kernel
theorem dX5_plotOf_109 : decode cX5_plotOf 109 = .ok (.aload_n 0, 1) := by decide +kernel
theorem dX5_plotOf_110 : decode cX5_plotOf 110 = .ok (.getfield 23, 3) := by decide +kernel
theorem dX5_plotOf_113 : decode cX5_plotOf 113 = .ok (.iload_n 1, 1) := by decide +kernel
theorem dX5_plotOf_114 : decode cX5_plotOf 114 = .ok (.iaload, 1) := by decide +kernel
theorem dX5_plotOf_115 : decode cX5_plotOf 115 = .ok (.ireturn, 1) := by decide +kernel
theorem dX5_plotOf_116 : decode cX5_plotOf 116 = .ok (.aload_n 0, 1) := by decide +kernel
theorem dX5_plotOf_117 : decode cX5_plotOf 117 = .ok (.getfield 26, 3) := by decide +kernel
theorem dX5_plotOf_120 : decode cX5_plotOf 120 = .ok (.iload_n 1, 1) := by decide +kernel
theorem dX5_plotOf_121 : decode cX5_plotOf 121 = .ok (.iaload, 1) := by decide +kernel
theorem dX5_plotOf_122 : decode cX5_plotOf 122 = .ok (.ireturn, 1) := by decide +kernel
theorem dX5_plotOf_123 : decode cX5_plotOf 123 = .ok (.aload_n 0, 1) := by decide +kernel
theorem dX5_plotOf_124 : decode cX5_plotOf 124 = .ok (.getfield 29, 3) := by decide +kernel
theorem dX5_plotOf_127 : decode cX5_plotOf 127 = .ok (.iload_n 1, 1) := by decide +kernel
theorem dX5_plotOf_128 : decode cX5_plotOf 128 = .ok (.iaload, 1) := by decide +kernel
theorem dX5_plotOf_129 : decode cX5_plotOf 129 = .ok (.ireturn, 1) := by decide +kernel
theorem dX5_plotOf_130 : decode cX5_plotOf 130 = .ok (.aload_n 0, 1) := by decide +kernel
theorem dX5_plotOf_131 : decode cX5_plotOf 131 = .ok (.getfield 32, 3) := by decide +kernel
theorem dX5_plotOf_134 : decode cX5_plotOf 134 = .ok (.iload_n 1, 1) := by decide +kernel
theorem dX5_plotOf_135 : decode cX5_plotOf 135 = .ok (.baload, 1) := by decide +kernel
theorem dX5_plotOf_136 : decode cX5_plotOf 136 = .ok (.ifCond .eq 7, 3) := by decide +kernel
theorem dX5_plotOf_139 : decode cX5_plotOf 139 = .ok (.iconst 1, 1) := by decide +kernel
theorem dX5_plotOf_140 : decode cX5_plotOf 140 = .ok (.goto 4, 3) := by decide +kernel
theorem dX5_plotOf_143 : decode cX5_plotOf 143 = .ok (.iconst 0, 1) := by decide +kernel
theorem dX5_plotOf_144 : decode cX5_plotOf 144 = .ok (.ireturn, 1) := by decide +kernel
theorem dX5_plotOf_145 : decode cX5_plotOf 145 = .ok (.aload_n 0, 1) := by decide +kernel
theorem dX5_plotOf_146 : decode cX5_plotOf 146 = .ok (.getfield 36, 3) := by decide +kernel
theorem dX5_plotOf_149 : decode cX5_plotOf 149 = .ok (.iload_n 1, 1) := by decide +kernel
theorem dX5_plotOf_150 : decode cX5_plotOf 150 = .ok (.iaload, 1) := by decide +kernel
theorem dX5_plotOf_151 : decode cX5_plotOf 151 = .ok (.ireturn, 1) := by decide +kernel
theorem dX5_plotOf_152 : decode cX5_plotOf 152 = .ok (.aload_n 0, 1) := by decide +kernel
theorem dX5_plotOf_153 : decode cX5_plotOf 153 = .ok (.getfield 39, 3) := by decide +kernel
theorem dX5_plotOf_156 : decode cX5_plotOf 156 = .ok (.iload_n 1, 1) := by decide +kernel
theorem dX5_plotOf_157 : decode cX5_plotOf 157 = .ok (.iaload, 1) := by decide +kernel
theorem dX5_plotOf_158 : decode cX5_plotOf 158 = .ok (.ireturn, 1) := by decide +kernel
theorem dX5_tell_0 : decode cX5_tell 0 = .ok (.aload_n 0, 1) := by decide +kernel
theorem dX5_tell_1 : decode cX5_tell 1 = .ok (.aload_n 0, 1) := by decide +kernel
theorem dX5_tell_2 : decode cX5_tell 2 = .ok (.iload_n 2, 1) := by decide +kernel
theorem dX5_tell_3 : decode cX5_tell 3 = .ok (.invokevirtual 114, 3) := by decide +kernel
theorem dX5_tell_6 : decode cX5_tell 6 = .ok (.ifCond .eq 14, 3) := by decide +kernel
theorem dX5_tell_9 : decode cX5_tell 9 = .ok (.aload_n 0, 1) := by decide +kernel
theorem dX5_tell_10 : decode cX5_tell 10 = .ok (.iload_n 3, 1) := by decide +kernel
theorem dX5_tell_11 : decode cX5_tell 11 = .ok (.iconst 0, 1) := by decide +kernel
theorem dX5_tell_12 : decode cX5_tell 12 = .ok (.bipush 9, 2) := by decide +kernel
theorem dX5_tell_14 : decode cX5_tell 14 = .ok (.invokevirtual 104, 3) := by decide +kernel
theorem dX5_tell_17 : decode cX5_tell 17 = .ok (.ifCond .ne 7, 3) := by decide +kernel
theorem dX5_tell_20 : decode cX5_tell 20 = .ok (.iconst 1, 1) := by decide +kernel
theorem dX5_tell_21 : decode cX5_tell 21 = .ok (.goto 35, 3) := by decide +kernel
theorem dX5_tell_24 : decode cX5_tell 24 = .ok (.iload 5, 2) := by decide +kernel
theorem dX5_tell_26 : decode cX5_tell 26 = .ok (.ifCond .ne 7, 3) := by decide +kernel
theorem dX5_tell_29 : decode cX5_tell 29 = .ok (.iconst 2, 1) := by decide +kernel
theorem dX5_tell_30 : decode cX5_tell 30 = .ok (.goto 26, 3) := by decide +kernel
theorem dX5_tell_33 : decode cX5_tell 33 = .ok (.aload_n 0, 1) := by decide +kernel
theorem dX5_tell_34 : decode cX5_tell 34 = .ok (.getfield 108, 3) := by decide +kernel
theorem dX5_tell_37 : decode cX5_tell 37 = .ok (.bipush 24, 2) := by decide +kernel
theorem dX5_tell_39 : decode cX5_tell 39 = .ok (.if_icmp .eq 12, 3) := by decide +kernel
theorem dX5_tell_42 : decode cX5_tell 42 = .ok (.aload_n 0, 1) := by decide +kernel
theorem dX5_tell_43 : decode cX5_tell 43 = .ok (.getfield 20, 3) := by decide +kernel
theorem dX5_tell_46 : decode cX5_tell 46 = .ok (.iload_n 2, 1) := by decide +kernel
theorem dX5_tell_47 : decode cX5_tell 47 = .ok (.iaload, 1) := by decide +kernel
theorem dX5_tell_48 : decode cX5_tell 48 = .ok (.ifCond .eq 7, 3) := by decide +kernel
theorem dX5_tell_51 : decode cX5_tell 51 = .ok (.iconst 3, 1) := by decide +kernel
theorem dX5_tell_52 : decode cX5_tell 52 = .ok (.goto 4, 3) := by decide +kernel
theorem dX5_tell_55 : decode cX5_tell 55 = .ok (.iconst 0, 1) := by decide +kernel
theorem dX5_tell_56 : decode cX5_tell 56 = .ok (.putfield 100, 3) := by decide +kernel
theorem dX5_tell_59 : decode cX5_tell 59 = .ok (.aload_n 0, 1) := by decide +kernel
theorem dX5_tell_60 : decode cX5_tell 60 = .ok (.getfield 100, 3) := by decide +kernel
theorem dX5_tell_63 : decode cX5_tell 63 = .ok (.ifCond .le 5, 3) := by decide +kernel
theorem dX5_tell_66 : decode cX5_tell 66 = .ok (.iconst 0, 1) := by decide +kernel
theorem dX5_tell_67 : decode cX5_tell 67 = .ok (.ireturn, 1) := by decide +kernel
theorem dX5_tell_68 : decode cX5_tell 68 = .ok (.aload_n 0, 1) := by decide +kernel
theorem dX5_tell_69 : decode cX5_tell 69 = .ok (.getfield 46, 3) := by decide +kernel
theorem dX5_tell_72 : decode cX5_tell 72 = .ok (.aload_n 0, 1) := by decide +kernel
theorem dX5_tell_73 : decode cX5_tell 73 = .ok (.getfield 108, 3) := by decide +kernel
theorem dX5_tell_76 : decode cX5_tell 76 = .ok (.iload_n 1, 1) := by decide +kernel
theorem dX5_tell_77 : decode cX5_tell 77 = .ok (.iastore, 1) := by decide +kernel
theorem dX5_tell_78 : decode cX5_tell 78 = .ok (.aload_n 0, 1) := by decide +kernel
theorem dX5_tell_79 : decode cX5_tell 79 = .ok (.getfield 49, 3) := by decide +kernel
theorem dX5_tell_82 : decode cX5_tell 82 = .ok (.aload_n 0, 1) := by decide +kernel
theorem dX5_tell_83 : decode cX5_tell 83 = .ok (.getfield 108, 3) := by decide +kernel
