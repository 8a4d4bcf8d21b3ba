theorem dX4_object_32 : decode cX4_object 32 = .ok (.aload_n 2, 1) := by decide +kernel
theorem dX4_object_33 : decode cX4_object 33 = .ok (.getfield 193, 3) := by decide +kernel
theorem dX4_object_36 : decode cX4_object 36 = .ok (.iconst (-1), 1) := by decide +kernel
theorem dX4_object_37 : decode cX4_object 37 = .ok (.if_icmp .eq 24, 3) := by decide +kernel
theorem dX4_object_40 : decode cX4_object 40 = .ok (.aload_n 0, 1) := by decide +kernel
theorem dX4_object_41 : decode cX4_object 41 = .ok (.getfield 84, 3) := by decide +kernel
theorem dX4_object_44 : decode cX4_object 44 = .ok (.aload_n 2, 1) := by decide +kernel
theorem dX4_object_45 : decode cX4_object 45 = .ok (.getfield 193, 3) := by decide +kernel
theorem dX4_object_48 : decode cX4_object 48 = .ok (.isub, 1) := by decide +kernel
theorem dX4_object_49 : decode cX4_object 49 = .ok (.bipush 21, 2) := by decide +kernel
theorem dX4_object_51 : decode cX4_object 51 = .ok (.if_icmp .gt 10, 3) := by decide +kernel
theorem dX4_object_54 : decode cX4_object 54 = .ok (.aload_n 2, 1) := by decide +kernel
theorem dX4_object_55 : decode cX4_object 55 = .ok (.getfield 243, 3) := by decide +kernel
theorem dX4_object_58 : decode cX4_object 58 = .ok (.ifCond .eq 13, 3) := by decide +kernel
theorem dX4_object_61 : decode cX4_object 61 = .ok (.new 71, 3) := by decide +kernel
theorem dX4_object_64 : decode cX4_object 64 = .ok (.dup, 1) := by decide +kernel
theorem dX4_object_65 : decode cX4_object 65 = .ok (.ldc 246, 2) := by decide +kernel
theorem dX4_object_67 : decode cX4_object 67 = .ok (.invokespecial 75, 3) := by decide +kernel
theorem dX4_object_70 : decode cX4_object 70 = .ok (.athrow, 1) := by decide +kernel
theorem dX4_object_71 : decode cX4_object 71 = .ok (.aload_n 2, 1) := by decide +kernel
theorem dX4_object_72 : decode cX4_object 72 = .ok (.iconst 1, 1) := by decide +kernel
theorem dX4_object_73 : decode cX4_object 73 = .ok (.putfield 243, 3) := by decide +kernel
theorem dX4_object_76 : decode cX4_object 76 = .ok (.aload_n 2, 1) := by decide +kernel
theorem dX4_object_77 : decode cX4_object 77 = .ok (.iconst 1, 1) := by decide +kernel
theorem dX4_object_78 : decode cX4_object 78 = .ok (.putfield 196, 3) := by decide +kernel
theorem dX4_object_81 : decode cX4_object 81 = .ok (.aload_n 0, 1) := by decide +kernel
theorem dX4_object_82 : decode cX4_object 82 = .ok (.aload_n 3, 1) := by decide +kernel
theorem dX4_object_83 : decode cX4_object 83 = .ok (.invokevirtual 248, 3) := by decide +kernel
theorem dX4_object_86 : decode cX4_object 86 = .ok (.ireturn, 1) := by decide +kernel
theorem dX4_hear_0 : decode cX4_hear 0 = .ok (.aload_n 0, 1) := by decide +kernel
theorem dX4_hear_1 : decode cX4_hear 1 = .ok (.iload_n 1, 1) := by decide +kernel
theorem dX4_hear_2 : decode cX4_hear 2 = .ok (.invokevirtual 169, 3) := by decide +kernel
theorem dX4_hear_5 : decode cX4_hear 5 = .ok (.astore_n 3, 1) := by decide +kernel
theorem dX4_hear_6 : decode cX4_hear 6 = .ok (.aload_n 3, 1) := by decide +kernel
theorem dX4_hear_7 : decode cX4_hear 7 = .ok (.ifnonnull 13, 3) := by decide +kernel
theorem dX4_hear_10 : decode cX4_hear 10 = .ok (.new 43, 3) := by decide +kernel
theorem dX4_hear_13 : decode cX4_hear 13 = .ok (.dup, 1) := by decide +kernel
theorem dX4_hear_14 : decode cX4_hear 14 = .ok (.ldc 173, 2) := by decide +kernel
theorem dX4_hear_16 : decode cX4_hear 16 = .ok (.invokespecial 47, 3) := by decide +kernel
theorem dX4_hear_19 : decode cX4_hear 19 = .ok (.athrow, 1) := by decide +kernel
theorem dX4_hear_20 : decode cX4_hear 20 = .ok (.aload_n 3, 1) := by decide +kernel
theorem dX4_hear_21 : decode cX4_hear 21 = .ok (.getfield 178, 3) := by decide +kernel
theorem dX4_hear_24 : decode cX4_hear 24 = .ok (.invokestatic 237, 3) := by decide +kernel
theorem dX4_hear_27 : decode cX4_hear 27 = .ok (.astore 4, 2) := by decide +kernel
theorem dX4_hear_29 : decode cX4_hear 29 = .ok (.aload 4, 2) := by decide +kernel
theorem dX4_hear_31 : decode cX4_hear 31 = .ok (.ifnull 10, 3) := by decide +kernel
theorem dX4_hear_34 : decode cX4_hear 34 = .ok (.aload_n 3, 1) := by decide +kernel
theorem dX4_hear_35 : decode cX4_hear 35 = .ok (.getfield 196, 3) := by decide +kernel
theorem dX4_hear_38 : decode cX4_hear 38 = .ok (.ifCond .ne 13, 3) := by decide +kernel
theorem dX4_hear_41 : decode cX4_hear 41 = .ok (.new 71, 3) := by decide +kernel
theorem dX4_hear_44 : decode cX4_hear 44 = .ok (.dup, 1) := by decide +kernel
theorem dX4_hear_45 : decode cX4_hear 45 = .ok (.ldc 251, 2) := by decide +kernel
theorem dX4_hear_47 : decode cX4_hear 47 = .ok (.invokespecial 75, 3) := by decide +kernel
theorem dX4_hear_50 : decode cX4_hear 50 = .ok (.athrow, 1) := by decide +kernel
theorem dX4_hear_51 : decode cX4_hear 51 = .ok (.iload_n 2, 1) := by decide +kernel
theorem dX4_hear_52 : decode cX4_hear 52 = .ok (.ifCond .eq 14, 3) := by decide +kernel
theorem dX4_hear_55 : decode cX4_hear 55 = .ok (.aload_n 0, 1) := by decide +kernel
theorem dX4_hear_56 : decode cX4_hear 56 = .ok (.aload_n 3, 1) := by decide +kernel
theorem dX4_hear_57 : decode cX4_hear 57 = .ok (.getfield 178, 3) := by decide +kernel
theorem dX4_hear_60 : decode cX4_hear 60 = .ok (.invokevirtual 253, 3) := by decide +kernel
theorem dX4_hear_63 : decode cX4_hear 63 = .ok (.goto 8, 3) := by decide +kernel
theorem dX4_hear_66 : decode cX4_hear 66 = .ok (.aload_n 3, 1) := by decide +kernel
theorem dX4_hear_67 : decode cX4_hear 67 = .ok (.iconst 0, 1) := by decide +kernel
theorem dX4_hear_68 : decode cX4_hear 68 = .ok (.putfield 196, 3) := by decide +kernel
theorem dX4_hear_71 : decode cX4_hear 71 = .ok (.aload_n 0, 1) := by decide +kernel
theorem dX4_hear_72 : decode cX4_hear 72 = .ok (.aload 4, 2) := by decide +kernel
theorem dX4_hear_74 : decode cX4_hear 74 = .ok (.invokevirtual 248, 3) := by decide +kernel
theorem dX4_hear_77 : decode cX4_hear 77 = .ok (.ireturn, 1) := by decide +kernel
theorem dX4_confirm_0 : decode cX4_confirm 0 = .ok (.aload_n 0, 1) := by decide +kernel
theorem dX4_confirm_1 : decode cX4_confirm 1 = .ok (.iload_n 1, 1) := by decide +kernel
theorem dX4_confirm_2 : decode cX4_confirm 2 = .ok (.invokevirtual 219, 3) := by decide +kernel
theorem dX4_confirm_5 : decode cX4_confirm 5 = .ok (.astore_n 2, 1) := by decide +kernel
theorem dX4_confirm_6 : decode cX4_confirm 6 = .ok (.aload_n 2, 1) := by decide +kernel
theorem dX4_confirm_7 : decode cX4_confirm 7 = .ok (.ifnonnull 14, 3) := by decide +kernel
theorem dX4_confirm_10 : decode cX4_confirm 10 = .ok (.new 43, 3) := by decide +kernel
theorem dX4_confirm_13 : decode cX4_confirm 13 = .ok (.dup, 1) := by decide +kernel
theorem dX4_confirm_14 : decode cX4_confirm 14 = .ok (.ldc_w 257, 3) := by decide +kernel
theorem dX4_confirm_17 : decode cX4_confirm 17 = .ok (.invokespecial 47, 3) := by decide +kernel
theorem dX4_confirm_20 : decode cX4_confirm 20 = .ok (.athrow, 1) := by decide +kernel
theorem dX4_confirm_21 : decode cX4_confirm 21 = .ok (.aload_n 0, 1) := by decide +kernel
theorem dX4_confirm_22 : decode cX4_confirm 22 = .ok (.aload_n 2, 1) := by decide +kernel
theorem dX4_confirm_23 : decode cX4_confirm 23 = .ok (.invokevirtual 259, 3) := by decide +kernel
theorem dX4_confirm_26 : decode cX4_confirm 26 = .ok (.istore_n 3, 1) := by decide +kernel
theorem dX4_confirm_27 : decode cX4_confirm 27 = .ok (.aload_n 2, 1) := by decide +kernel
theorem dX4_confirm_28 : decode cX4_confirm 28 = .ok (.getfield 227, 3) := by decide +kernel
theorem dX4_confirm_31 : decode cX4_confirm 31 = .ok (.ifCond .ne 7, 3) := by decide +kernel
theorem dX4_confirm_34 : decode cX4_confirm 34 = .ok (.iload_n 3, 1) := by decide +kernel
theorem dX4_confirm_35 : decode cX4_confirm 35 = .ok (.ifCond .ne 14, 3) := by decide +kernel
theorem dX4_confirm_38 : decode cX4_confirm 38 = .ok (.new 71, 3) := by decide +kernel
theorem dX4_confirm_41 : decode cX4_confirm 41 = .ok (.dup, 1) := by decide +kernel
theorem dX4_confirm_42 : decode cX4_confirm 42 = .ok (.ldc_w 262, 3) := by decide +kernel
theorem dX4_confirm_45 : decode cX4_confirm 45 = .ok (.invokespecial 75, 3) := by decide +kernel
theorem dX4_confirm_48 : decode cX4_confirm 48 = .ok (.athrow, 1) := by decide +kernel
theorem dX4_confirm_49 : decode cX4_confirm 49 = .ok (.aload_n 0, 1) := by decide +kernel
theorem dX4_confirm_50 : decode cX4_confirm 50 = .ok (.aload_n 2, 1) := by decide +kernel
theorem dX4_confirm_51 : decode cX4_confirm 51 = .ok (.invokevirtual 264, 3) := by decide +kernel
theorem dX4_confirm_54 : decode cX4_confirm 54 = .ok (.ifnull 14, 3) := by decide +kernel
theorem dX4_confirm_57 : decode cX4_confirm 57 = .ok (.new 71, 3) := by decide +kernel
theorem dX4_confirm_60 : decode cX4_confirm 60 = .ok (.dup, 1) := by decide +kernel
theorem dX4_confirm_61 : decode cX4_confirm 61 = .ok (.ldc_w 268, 3) := by decide +kernel
theorem dX4_confirm_64 : decode cX4_confirm 64 = .ok (.invokespecial 75, 3) := by decide +kernel
theorem dX4_confirm_67 : decode cX4_confirm 67 = .ok (.athrow, 1) := by decide +kernel
theorem dX4_confirm_68 : decode cX4_confirm 68 = .ok (.aload_n 2, 1) := by decide +kernel
theorem dX4_confirm_69 : decode cX4_confirm 69 = .ok (.iconst 1, 1) := by decide +kernel
theorem dX4_confirm_70 : decode cX4_confirm 70 = .ok (.putfield 227, 3) := by decide +kernel
theorem dX4_confirm_73 : decode cX4_confirm 73 = .ok (.aload_n 2, 1) := by decide +kernel
theorem dX4_confirm_74 : decode cX4_confirm 74 = .ok (.aload_n 0, 1) := by decide +kernel
theorem dX4_confirm_75 : decode cX4_confirm 75 = .ok (.getfield 84, 3) := by decide +kernel
theorem dX4_confirm_78 : decode cX4_confirm 78 = .ok (.putfield 270, 3) := by decide +kernel
theorem dX4_confirm_81 : decode cX4_confirm 81 = .ok (.iload_n 3, 1) := by decide +kernel
theorem dX4_confirm_82 : decode cX4_confirm 82 = .ok (.ireturn, 1) := by decide +kernel
theorem dX4_whoStops_0 : decode cX4_whoStops 0 = .ok (.aload_n 0, 1) := by decide +kernel
theorem dX4_whoStops_1 : decode cX4_whoStops 1 = .ok (.iload_n 1, 1) := by decide +kernel
theorem dX4_whoStops_2 : decode cX4_whoStops 2 = .ok (.invokevirtual 219, 3) := by decide +kernel
theorem dX4_whoStops_5 : decode cX4_whoStops 5 = .ok (.astore_n 2, 1) := by decide +kernel
theorem dX4_whoStops_6 : decode cX4_whoStops 6 = .ok (.aload_n 2, 1) := by decide +kernel
theorem dX4_whoStops_7 : decode cX4_whoStops 7 = .ok (.ifnonnull 14, 3) := by decide +kernel
theorem dX4_whoStops_10 : decode cX4_whoStops 10 = .ok (.new 43, 3) := by decide +kernel
theorem dX4_whoStops_13 : decode cX4_whoStops 13 = .ok (.dup, 1) := by decide +kernel
theorem dX4_whoStops_14 : decode cX4_whoStops 14 = .ok (.ldc_w 257, 3) := by decide +kernel
theorem dX4_whoStops_17 : decode cX4_whoStops 17 = .ok (.invokespecial 47, 3) := by decide +kernel
theorem dX4_whoStops_20 : decode cX4_whoStops 20 = .ok (.athrow, 1) := by decide +kernel
theorem dX4_whoStops_21 : decode cX4_whoStops 21 = .ok (.aload_n 2, 1) := by decide +kernel
theorem dX4_whoStops_22 : decode cX4_whoStops 22 = .ok (.getfield 227, 3) := by decide +kernel
theorem dX4_whoStops_25 : decode cX4_whoStops 25 = .ok (.ifCond .ne 14, 3) := by decide +kernel
theorem dX4_whoStops_28 : decode cX4_whoStops 28 = .ok (.aload_n 0, 1) := by decide +kernel
theorem dX4_whoStops_29 : decode cX4_whoStops 29 = .ok (.aload_n 2, 1) := by decide +kernel
theorem dX4_whoStops_30 : decode cX4_whoStops 30 = .ok (.invokevirtual 264, 3) := by decide +kernel
theorem dX4_whoStops_33 : decode cX4_whoStops 33 = .ok (.invokestatic 137, 3) := by decide +kernel
theorem dX4_whoStops_36 : decode cX4_whoStops 36 = .ok (.goto 4, 3) := by decide +kernel
theorem dX4_whoStops_39 : decode cX4_whoStops 39 = .ok (.iconst (-1), 1) := by decide +kernel
theorem dX4_whoStops_40 : decode cX4_whoStops 40 = .ok (.ireturn, 1) := by decide +kernel
theorem dX4_drop_0 : decode cX4_drop 0 = .ok (.aload_n 0, 1) := by decide +kernel
theorem dX4_drop_1 : decode cX4_drop 1 = .ok (.iload_n 1, 1) := by decide +kernel
theorem dX4_drop_2 : decode cX4_drop 2 = .ok (.invokevirtual 219, 3) := by decide +kernel
theorem dX4_drop_5 : decode cX4_drop 5 = .ok (.astore_n 2, 1) := by decide +kernel
theorem dX4_drop_6 : decode cX4_drop 6 = .ok (.aload_n 2, 1) := by decide +kernel
theorem dX4_drop_7 : decode cX4_drop 7 = .ok (.ifnonnull 14, 3) := by decide +kernel
theorem dX4_drop_10 : decode cX4_drop 10 = .ok (.new 43, 3) := by decide +kernel
theorem dX4_drop_13 : decode cX4_drop 13 = .ok (.dup, 1) := by decide +kernel
theorem dX4_drop_14 : decode cX4_drop 14 = .ok (.ldc_w 257, 3) := by decide +kernel
theorem dX4_drop_17 : decode cX4_drop 17 = .ok (.invokespecial 47, 3) := by decide +kernel
theorem dX4_drop_20 : decode cX4_drop 20 = .ok (.athrow, 1) := by decide +kernel
theorem dX4_drop_21 : decode cX4_drop 21 = .ok (.aload_n 2, 1) := by decide +kernel
theorem dX4_drop_22 : decode cX4_drop 22 = .ok (.getfield 227, 3) := by decide +kernel
theorem dX4_drop_25 : decode cX4_drop 25 = .ok (.iconst 2, 1) := by decide +kernel
theorem dX4_drop_26 : decode cX4_drop 26 = .ok (.if_icmp .ne 14, 3) := by decide +kernel
theorem dX4_drop_29 : decode cX4_drop 29 = .ok (.new 71, 3) := by decide +kernel
theorem dX4_drop_32 : decode cX4_drop 32 = .ok (.dup, 1) := by decide +kernel
theorem dX4_drop_33 : decode cX4_drop 33 = .ok (.ldc_w 273, 3) := by decide +kernel
theorem dX4_drop_36 : decode cX4_drop 36 = .ok (.invokespecial 75, 3) := by decide +kernel
theorem dX4_drop_39 : decode cX4_drop 39 = .ok (.athrow, 1) := by decide +kernel
theorem dX4_drop_40 : decode cX4_drop 40 = .ok (.iconst 0, 1) := by decide +kernel
theorem dX4_drop_41 : decode cX4_drop 41 = .ok (.istore_n 3, 1) := by decide +kernel
theorem dX4_drop_42 : decode cX4_drop 42 = .ok (.aload_n 0, 1) := by decide +kernel
theorem dX4_drop_43 : decode cX4_drop 43 = .ok (.getfield 11, 3) := by decide +kernel
theorem dX4_drop_46 : decode cX4_drop 46 = .ok (.astore 4, 2) := by decide +kernel
theorem dX4_drop_48 : decode cX4_drop 48 = .ok (.aload 4, 2) := by decide +kernel
theorem dX4_drop_50 : decode cX4_drop 50 = .ok (.arraylength, 1) := by decide +kernel
theorem dX4_drop_51 : decode cX4_drop 51 = .ok (.istore 5, 2) := by decide +kernel
theorem dX4_drop_53 : decode cX4_drop 53 = .ok (.iconst 0, 1) := by decide +kernel
theorem dX4_drop_54 : decode cX4_drop 54 = .ok (.istore 6, 2) := by decide +kernel
theorem dX4_drop_56 : decode cX4_drop 56 = .ok (.iload 6, 2) := by decide +kernel
theorem dX4_drop_58 : decode cX4_drop 58 = .ok (.iload 5, 2) := by decide +kernel
theorem dX4_drop_60 : decode cX4_drop 60 = .ok (.if_icmp .ge 37, 3) := by decide +kernel
theorem dX4_drop_63 : decode cX4_drop 63 = .ok (.aload 4, 2) := by decide +kernel
theorem dX4_drop_65 : decode cX4_drop 65 = .ok (.iload 6, 2) := by decide +kernel
theorem dX4_drop_67 : decode cX4_drop 67 = .ok (.aaload, 1) := by decide +kernel
theorem dX4_drop_68 : decode cX4_drop 68 = .ok (.astore 7, 2) := by decide +kernel
theorem dX4_drop_70 : decode cX4_drop 70 = .ok (.aload 7, 2) := by decide +kernel
theorem dX4_drop_72 : decode cX4_drop 72 = .ok (.aload_n 2, 1) := by decide +kernel
theorem dX4_drop_73 : decode cX4_drop 73 = .ok (.invokestatic 275, 3) := by decide +kernel
theorem dX4_drop_76 : decode cX4_drop 76 = .ok (.ifCond .eq 15, 3) := by decide +kernel
theorem dX4_drop_79 : decode cX4_drop 79 = .ok (.aload_n 0, 1) := by decide +kernel
theorem dX4_drop_80 : decode cX4_drop 80 = .ok (.aload 7, 2) := by decide +kernel
theorem dX4_drop_82 : decode cX4_drop 82 = .ok (.invokevirtual 279, 3) := by decide +kernel
theorem dX4_drop_85 : decode cX4_drop 85 = .ok (.ifCond .eq 6, 3) := by decide +kernel
theorem dX4_drop_88 : decode cX4_drop 88 = .ok (.iinc 3 1, 3) := by decide +kernel
theorem dX4_drop_91 : decode cX4_drop 91 = .ok (.iinc 6 1, 3) := by decide +kernel
theorem dX4_drop_94 : decode cX4_drop 94 = .ok (.goto (-38), 3) := by decide +kernel
theorem dX4_drop_97 : decode cX4_drop 97 = .ok (.aload_n 2, 1) := by decide +kernel
theorem dX4_drop_98 : decode cX4_drop 98 = .ok (.iconst 2, 1) := by decide +kernel
theorem dX4_drop_99 : decode cX4_drop 99 = .ok (.putfield 227, 3) := by decide +kernel
theorem dX4_drop_102 : decode cX4_drop 102 = .ok (.aload_n 2, 1) := by decide +kernel
theorem dX4_drop_103 : decode cX4_drop 103 = .ok (.aload_n 0, 1) := by decide +kernel
theorem dX4_drop_104 : decode cX4_drop 104 = .ok (.getfield 84, 3) := by decide +kernel
theorem dX4_drop_107 : decode cX4_drop 107 = .ok (.putfield 282, 3) := by decide +kernel
theorem dX4_drop_110 : decode cX4_drop 110 = .ok (.iload_n 3, 1) := by decide +kernel
theorem dX4_drop_111 : decode cX4_drop 111 = .ok (.ireturn, 1) := by decide +kernel
theorem dX4_enter_0 : decode cX4_enter 0 = .ok (.aload_n 0, 1) := by decide +kernel
theorem dX4_enter_1 : decode cX4_enter 1 = .ok (.iload_n 1, 1) := by decide +kernel
theorem dX4_enter_2 : decode cX4_enter 2 = .ok (.invokevirtual 39, 3) := by decide +kernel
theorem dX4_enter_5 : decode cX4_enter 5 = .ok (.astore_n 2, 1) := by decide +kernel
theorem dX4_enter_6 : decode cX4_enter 6 = .ok (.aload_n 2, 1) := by decide +kernel
theorem dX4_enter_7 : decode cX4_enter 7 = .ok (.ifnonnull 13, 3) := by decide +kernel
theorem dX4_enter_10 : decode cX4_enter 10 = .ok (.new 43, 3) := by decide +kernel
theorem dX4_enter_13 : decode cX4_enter 13 = .ok (.dup, 1) := by decide +kernel
theorem dX4_enter_14 : decode cX4_enter 14 = .ok (.ldc 45, 2) := by decide +kernel
theorem dX4_enter_16 : decode cX4_enter 16 = .ok (.invokespecial 47, 3) := by decide +kernel
theorem dX4_enter_19 : decode cX4_enter 19 = .ok (.athrow, 1) := by decide +kernel
theorem dX4_enter_20 : decode cX4_enter 20 = .ok (.aload_n 2, 1) := by decide +kernel
theorem dX4_enter_21 : decode cX4_enter 21 = .ok (.invokestatic 115, 3) := by decide +kernel
theorem dX4_enter_24 : decode cX4_enter 24 = .ok (.astore_n 3, 1) := by decide +kernel
theorem dX4_enter_25 : decode cX4_enter 25 = .ok (.aload_n 2, 1) := by decide +kernel
theorem dX4_enter_26 : decode cX4_enter 26 = .ok (.getfield 63, 3) := by decide +kernel
theorem dX4_enter_29 : decode cX4_enter 29 = .ok (.ifCond .ne 30, 3) := by decide +kernel
theorem dX4_enter_32 : decode cX4_enter 32 = .ok (.aload_n 3, 1) := by decide +kernel
theorem dX4_enter_33 : decode cX4_enter 33 = .ok (.ifnull 26, 3) := by decide +kernel
theorem dX4_enter_36 : decode cX4_enter 36 = .ok (.aload_n 3, 1) := by decide +kernel
theorem dX4_enter_37 : decode cX4_enter 37 = .ok (.getfield 227, 3) := by decide +kernel
theorem dX4_enter_40 : decode cX4_enter 40 = .ok (.iconst 1, 1) := by decide +kernel
theorem dX4_enter_41 : decode cX4_enter 41 = .ok (.if_icmp .ne 18, 3) := by decide +kernel
theorem dX4_enter_44 : decode cX4_enter 44 = .ok (.aload_n 0, 1) := by decide +kernel
theorem dX4_enter_45 : decode cX4_enter 45 = .ok (.getfield 84, 3) := by decide +kernel
theorem dX4_enter_48 : decode cX4_enter 48 = .ok (.aload_n 3, 1) := by decide +kernel
theorem dX4_enter_49 : decode cX4_enter 49 = .ok (.getfield 270, 3) := by decide +kernel
theorem dX4_enter_52 : decode cX4_enter 52 = .ok (.isub, 1) := by decide +kernel
theorem dX4_enter_53 : decode cX4_enter 53 = .ok (.sipush 1095, 3) := by decide +kernel
theorem dX4_enter_56 : decode cX4_enter 56 = .ok (.if_icmp .le 14, 3) := by decide +kernel
theorem dX4_enter_59 : decode cX4_enter 59 = .ok (.new 71, 3) := by decide +kernel
theorem dX4_enter_62 : decode cX4_enter 62 = .ok (.dup, 1) := by decide +kernel
theorem dX4_enter_63 : decode cX4_enter 63 = .ok (.ldc_w 285, 3) := by decide +kernel
theorem dX4_enter_66 : decode cX4_enter 66 = .ok (.invokespecial 75, 3) := by decide +kernel
theorem dX4_enter_69 : decode cX4_enter 69 = .ok (.athrow, 1) := by decide +kernel
theorem dX4_enter_70 : decode cX4_enter 70 = .ok (.aload_n 0, 1) := by decide +kernel
theorem dX4_enter_71 : decode cX4_enter 71 = .ok (.aload_n 2, 1) := by decide +kernel
theorem dX4_enter_72 : decode cX4_enter 72 = .ok (.invokevirtual 287, 3) := by decide +kernel
theorem dX4_enter_75 : decode cX4_enter 75 = .ok (.ireturn, 1) := by decide +kernel
theorem dX4_blight_0 : decode cX4_blight 0 = .ok (.aload_n 0, 1) := by decide +kernel
theorem dX4_blight_1 : decode cX4_blight 1 = .ok (.iload_n 1, 1) := by decide +kernel
theorem dX4_blight_2 : decode cX4_blight 2 = .ok (.invokevirtual 169, 3) := by decide +kernel
theorem dX4_blight_5 : decode cX4_blight 5 = .ok (.astore_n 2, 1) := by decide +kernel
theorem dX4_blight_6 : decode cX4_blight 6 = .ok (.aload_n 2, 1) := by decide +kernel
theorem dX4_blight_7 : decode cX4_blight 7 = .ok (.ifnonnull 13, 3) := by decide +kernel
theorem dX4_blight_10 : decode cX4_blight 10 = .ok (.new 43, 3) := by decide +kernel
theorem dX4_blight_13 : decode cX4_blight 13 = .ok (.dup, 1) := by decide +kernel
theorem dX4_blight_14 : decode cX4_blight 14 = .ok (.ldc 173, 2) := by decide +kernel
theorem dX4_blight_16 : decode cX4_blight 16 = .ok (.invokespecial 47, 3) := by decide +kernel
theorem dX4_blight_19 : decode cX4_blight 19 = .ok (.athrow, 1) := by decide +kernel
theorem dX4_blight_20 : decode cX4_blight 20 = .ok (.aload_n 2, 1) := by decide +kernel
theorem dX4_blight_21 : decode cX4_blight 21 = .ok (.getfield 175, 3) := by decide +kernel
theorem dX4_blight_24 : decode cX4_blight 24 = .ok (.ifCond .eq 14, 3) := by decide +kernel
theorem dX4_blight_27 : decode cX4_blight 27 = .ok (.new 58, 3) := by decide +kernel
theorem dX4_blight_30 : decode cX4_blight 30 = .ok (.dup, 1) := by decide +kernel
theorem dX4_blight_31 : decode cX4_blight 31 = .ok (.ldc_w 290, 3) := by decide +kernel
theorem dX4_blight_34 : decode cX4_blight 34 = .ok (.invokespecial 62, 3) := by decide +kernel
theorem dX4_blight_37 : decode cX4_blight 37 = .ok (.athrow, 1) := by decide +kernel
theorem dX4_blight_38 : decode cX4_blight 38 = .ok (.aload_n 2, 1) := by decide +kernel
theorem dX4_blight_39 : decode cX4_blight 39 = .ok (.getfield 178, 3) := by decide +kernel
theorem dX4_blight_42 : decode cX4_blight 42 = .ok (.astore_n 3, 1) := by decide +kernel
theorem dX4_blight_43 : decode cX4_blight 43 = .ok (.aload_n 3, 1) := by decide +kernel
theorem dX4_blight_44 : decode cX4_blight 44 = .ok (.ifnull 40, 3) := by decide +kernel
theorem dX4_blight_47 : decode cX4_blight 47 = .ok (.aload_n 3, 1) := by decide +kernel
theorem dX4_blight_48 : decode cX4_blight 48 = .ok (.getfield 63, 3) := by decide +kernel
theorem dX4_blight_51 : decode cX4_blight 51 = .ok (.ifCond .ne 33, 3) := by decide +kernel
theorem dX4_blight_54 : decode cX4_blight 54 = .ok (.aload_n 3, 1) := by decide +kernel
theorem dX4_blight_55 : decode cX4_blight 55 = .ok (.invokestatic 67, 3) := by decide +kernel
theorem dX4_blight_58 : decode cX4_blight 58 = .ok (.ifCond .eq 26, 3) := by decide +kernel
theorem dX4_blight_61 : decode cX4_blight 61 = .ok (.aload_n 3, 1) := by decide +kernel
theorem dX4_blight_62 : decode cX4_blight 62 = .ok (.getfield 79, 3) := by decide +kernel
theorem dX4_blight_65 : decode cX4_blight 65 = .ok (.iconst 1, 1) := by decide +kernel
theorem dX4_blight_66 : decode cX4_blight 66 = .ok (.if_icmp .ne 18, 3) := by decide +kernel
theorem dX4_blight_69 : decode cX4_blight 69 = .ok (.aload_n 0, 1) := by decide +kernel
theorem dX4_blight_70 : decode cX4_blight 70 = .ok (.getfield 84, 3) := by decide +kernel
theorem dX4_blight_73 : decode cX4_blight 73 = .ok (.aload_n 2, 1) := by decide +kernel
theorem dX4_blight_74 : decode cX4_blight 74 = .ok (.getfield 187, 3) := by decide +kernel
theorem dX4_blight_77 : decode cX4_blight 77 = .ok (.isub, 1) := by decide +kernel
theorem dX4_blight_78 : decode cX4_blight 78 = .ok (.sipush 180, 3) := by decide +kernel
theorem dX4_blight_81 : decode cX4_blight 81 = .ok (.if_icmp .ge 14, 3) := by decide +kernel
theorem dX4_blight_84 : decode cX4_blight 84 = .ok (.new 71, 3) := by decide +kernel
theorem dX4_blight_87 : decode cX4_blight 87 = .ok (.dup, 1) := by decide +kernel
theorem dX4_blight_88 : decode cX4_blight 88 = .ok (.ldc_w 292, 3) := by decide +kernel
theorem dX4_blight_91 : decode cX4_blight 91 = .ok (.invokespecial 75, 3) := by decide +kernel
theorem dX4_blight_94 : decode cX4_blight 94 = .ok (.athrow, 1) := by decide +kernel
theorem dX4_blight_95 : decode cX4_blight 95 = .ok (.aload_n 3, 1) := by decide +kernel
theorem dX4_blight_96 : decode cX4_blight 96 = .ok (.bipush 100, 2) := by decide +kernel
theorem dX4_blight_98 : decode cX4_blight 98 = .ok (.putfield 123, 3) := by decide +kernel
theorem dX4_blight_101 : decode cX4_blight 101 = .ok (.aload_n 0, 1) := by decide +kernel
theorem dX4_blight_102 : decode cX4_blight 102 = .ok (.aload_n 3, 1) := by decide +kernel
theorem dX4_blight_103 : decode cX4_blight 103 = .ok (.invokevirtual 287, 3) := by decide +kernel
theorem dX4_blight_106 : decode cX4_blight 106 = .ok (.ireturn, 1) := by decide +kernel
theorem dX4_works_0 : decode cX4_works 0 = .ok (.aload_n 0, 1) := by decide +kernel
theorem dX4_works_1 : decode cX4_works 1 = .ok (.iload_n 1, 1) := by decide +kernel
theorem dX4_works_2 : decode cX4_works 2 = .ok (.invokevirtual 39, 3) := by decide +kernel
theorem dX4_works_5 : decode cX4_works 5 = .ok (.astore_n 2, 1) := by decide +kernel
theorem dX4_works_6 : decode cX4_works 6 = .ok (.aload_n 2, 1) := by decide +kernel
theorem dX4_works_7 : decode cX4_works 7 = .ok (.ifnonnull 13, 3) := by decide +kernel
theorem dX4_works_10 : decode cX4_works 10 = .ok (.new 43, 3) := by decide +kernel
theorem dX4_works_13 : decode cX4_works 13 = .ok (.dup, 1) := by decide +kernel
theorem dX4_works_14 : decode cX4_works 14 = .ok (.ldc 45, 2) := by decide +kernel
theorem dX4_works_16 : decode cX4_works 16 = .ok (.invokespecial 47, 3) := by decide +kernel
theorem dX4_works_19 : decode cX4_works 19 = .ok (.athrow, 1) := by decide +kernel
theorem dX4_works_20 : decode cX4_works 20 = .ok (.aload_n 2, 1) := by decide +kernel
theorem dX4_works_21 : decode cX4_works 21 = .ok (.getfield 63, 3) := by decide +kernel
theorem dX4_works_24 : decode cX4_works 24 = .ok (.iconst 1, 1) := by decide +kernel
theorem dX4_works_25 : decode cX4_works 25 = .ok (.if_icmp .ne 17, 3) := by decide +kernel
theorem dX4_works_28 : decode cX4_works 28 = .ok (.aload_n 2, 1) := by decide +kernel
theorem dX4_works_29 : decode cX4_works 29 = .ok (.getfield 129, 3) := by decide +kernel
theorem dX4_works_32 : decode cX4_works 32 = .ok (.ifCond .ne 10, 3) := by decide +kernel
theorem dX4_works_35 : decode cX4_works 35 = .ok (.aload_n 2, 1) := by decide +kernel
theorem dX4_works_36 : decode cX4_works 36 = .ok (.invokestatic 67, 3) := by decide +kernel
theorem dX4_works_39 : decode cX4_works 39 = .ok (.ifCond .ne 14, 3) := by decide +kernel
theorem dX4_works_42 : decode cX4_works 42 = .ok (.new 71, 3) := by decide +kernel
theorem dX4_works_45 : decode cX4_works 45 = .ok (.dup, 1) := by decide +kernel
theorem dX4_works_46 : decode cX4_works 46 = .ok (.ldc_w 294, 3) := by decide +kernel
theorem dX4_works_49 : decode cX4_works 49 = .ok (.invokespecial 75, 3) := by decide +kernel
theorem dX4_works_52 : decode cX4_works 52 = .ok (.athrow, 1) := by decide +kernel
theorem dX4_works_53 : decode cX4_works 53 = .ok (.aload_n 2, 1) := by decide +kernel
theorem dX4_works_54 : decode cX4_works 54 = .ok (.iconst 1, 1) := by decide +kernel
theorem dX4_works_55 : decode cX4_works 55 = .ok (.putfield 129, 3) := by decide +kernel
theorem dX4_works_58 : decode cX4_works 58 = .ok (.aload_n 0, 1) := by decide +kernel
theorem dX4_works_59 : decode cX4_works 59 = .ok (.invokevirtual 296, 3) := by decide +kernel
theorem dX4_works_62 : decode cX4_works 62 = .ok (.ireturn, 1) := by decide +kernel
theorem dX4_sumAnew_0 : decode cX4_sumAnew 0 = .ok (.aload_n 0, 1) := by decide +kernel
theorem dX4_sumAnew_1 : decode cX4_sumAnew 1 = .ok (.iload_n 1, 1) := by decide +kernel
theorem dX4_sumAnew_2 : decode cX4_sumAnew 2 = .ok (.invokevirtual 169, 3) := by decide +kernel
theorem dX4_sumAnew_5 : decode cX4_sumAnew 5 = .ok (.astore_n 2, 1) := by decide +kernel
theorem dX4_sumAnew_6 : decode cX4_sumAnew 6 = .ok (.aload_n 2, 1) := by decide +kernel
theorem dX4_sumAnew_7 : decode cX4_sumAnew 7 = .ok (.ifnonnull 13, 3) := by decide +kernel
theorem dX4_sumAnew_10 : decode cX4_sumAnew 10 = .ok (.new 43, 3) := by decide +kernel
theorem dX4_sumAnew_13 : decode cX4_sumAnew 13 = .ok (.dup, 1) := by decide +kernel
theorem dX4_sumAnew_14 : decode cX4_sumAnew 14 = .ok (.ldc 173, 2) := by decide +kernel
theorem dX4_sumAnew_16 : decode cX4_sumAnew 16 = .ok (.invokespecial 47, 3) := by decide +kernel
theorem dX4_sumAnew_19 : decode cX4_sumAnew 19 = .ok (.athrow, 1) := by decide +kernel
theorem dX4_sumAnew_20 : decode cX4_sumAnew 20 = .ok (.aload_n 2, 1) := by decide +kernel
theorem dX4_sumAnew_21 : decode cX4_sumAnew 21 = .ok (.getfield 178, 3) := by decide +kernel
theorem dX4_sumAnew_24 : decode cX4_sumAnew 24 = .ok (.invokestatic 300, 3) := by decide +kernel
theorem dX4_sumAnew_27 : decode cX4_sumAnew 27 = .ok (.ifCond .eq 18, 3) := by decide +kernel
theorem dX4_sumAnew_30 : decode cX4_sumAnew 30 = .ok (.aload_n 0, 1) := by decide +kernel
theorem dX4_sumAnew_31 : decode cX4_sumAnew 31 = .ok (.aload_n 2, 1) := by decide +kernel
theorem dX4_sumAnew_32 : decode cX4_sumAnew 32 = .ok (.aload_n 2, 1) := by decide +kernel
theorem dX4_sumAnew_33 : decode cX4_sumAnew 33 = .ok (.getfield 178, 3) := by decide +kernel
theorem dX4_sumAnew_36 : decode cX4_sumAnew 36 = .ok (.invokestatic 303, 3) := by decide +kernel
theorem dX4_sumAnew_39 : decode cX4_sumAnew 39 = .ok (.invokevirtual 306, 3) := by decide +kernel
theorem dX4_sumAnew_42 : decode cX4_sumAnew 42 = .ok (.goto 4, 3) := by decide +kernel
theorem dX4_sumAnew_45 : decode cX4_sumAnew 45 = .ok (.lconst 0, 1) := by decide +kernel
theorem dX4_sumAnew_46 : decode cX4_sumAnew 46 = .ok (.lreturn, 1) := by decide +kernel
theorem dX4_owed_0 : decode cX4_owed 0 = .ok (.aload_n 0, 1) := by decide +kernel
theorem dX4_owed_1 : decode cX4_owed 1 = .ok (.iload_n 1, 1) := by decide +kernel
theorem dX4_owed_2 : decode cX4_owed 2 = .ok (.invokevirtual 169, 3) := by decide +kernel
theorem dX4_owed_5 : decode cX4_owed 5 = .ok (.astore_n 2, 1) := by decide +kernel
theorem dX4_owed_6 : decode cX4_owed 6 = .ok (.aload_n 2, 1) := by decide +kernel
theorem dX4_owed_7 : decode cX4_owed 7 = .ok (.ifnonnull 13, 3) := by decide +kernel
theorem dX4_owed_10 : decode cX4_owed 10 = .ok (.new 43, 3) := by decide +kernel
theorem dX4_owed_13 : decode cX4_owed 13 = .ok (.dup, 1) := by decide +kernel
theorem dX4_owed_14 : decode cX4_owed 14 = .ok (.ldc 173, 2) := by decide +kernel
theorem dX4_owed_16 : decode cX4_owed 16 = .ok (.invokespecial 47, 3) := by decide +kernel
theorem dX4_owed_19 : decode cX4_owed 19 = .ok (.athrow, 1) := by decide +kernel
theorem dX4_owed_20 : decode cX4_owed 20 = .ok (.aload_n 0, 1) := by decide +kernel
theorem dX4_owed_21 : decode cX4_owed 21 = .ok (.aload_n 2, 1) := by decide +kernel
theorem dX4_owed_22 : decode cX4_owed 22 = .ok (.invokevirtual 310, 3) := by decide +kernel
theorem dX4_owed_25 : decode cX4_owed 25 = .ok (.lreturn, 1) := by decide +kernel
theorem dX4_advance_0 : decode cX4_advance 0 = .ok (.aload_n 0, 1) := by decide +kernel
theorem dX4_advance_1 : decode cX4_advance 1 = .ok (.iload_n 1, 1) := by decide +kernel
theorem dX4_advance_2 : decode cX4_advance 2 = .ok (.invokevirtual 169, 3) := by decide +kernel
theorem dX4_advance_5 : decode cX4_advance 5 = .ok (.astore_n 2, 1) := by decide +kernel
theorem dX4_advance_6 : decode cX4_advance 6 = .ok (.aload_n 2, 1) := by decide +kernel
theorem dX4_advance_7 : decode cX4_advance 7 = .ok (.ifnonnull 13, 3) := by decide +kernel
theorem dX4_advance_10 : decode cX4_advance 10 = .ok (.new 43, 3) := by decide +kernel
theorem dX4_advance_13 : decode cX4_advance 13 = .ok (.dup, 1) := by decide +kernel
theorem dX4_advance_14 : decode cX4_advance 14 = .ok (.ldc 173, 2) := by decide +kernel
theorem dX4_advance_16 : decode cX4_advance 16 = .ok (.invokespecial 47, 3) := by decide +kernel
theorem dX4_advance_19 : decode cX4_advance 19 = .ok (.athrow, 1) := by decide +kernel
theorem dX4_advance_20 : decode cX4_advance 20 = .ok (.aload_n 2, 1) := by decide +kernel
theorem dX4_advance_21 : decode cX4_advance 21 = .ok (.getfield 178, 3) := by decide +kernel
theorem dX4_advance_24 : decode cX4_advance 24 = .ok (.invokestatic 300, 3) := by decide +kernel
theorem dX4_advance_27 : decode cX4_advance 27 = .ok (.ifCond .eq 18, 3) := by decide +kernel
theorem dX4_advance_30 : decode cX4_advance 30 = .ok (.aload_n 2, 1) := by decide +kernel
theorem dX4_advance_31 : decode cX4_advance 31 = .ok (.getfield 314, 3) := by decide +kernel
theorem dX4_advance_34 : decode cX4_advance 34 = .ok (.iconst (-1), 1) := by decide +kernel
theorem dX4_advance_35 : decode cX4_advance 35 = .ok (.if_icmp .ne 10, 3) := by decide +kernel
theorem dX4_advance_38 : decode cX4_advance 38 = .ok (.aload_n 2, 1) := by decide +kernel
theorem dX4_advance_39 : decode cX4_advance 39 = .ok (.getfield 317, 3) := by decide +kernel
theorem dX4_advance_42 : decode cX4_advance 42 = .ok (.ifCond .eq 14, 3) := by decide +kernel
theorem dX4_advance_45 : decode cX4_advance 45 = .ok (.new 71, 3) := by decide +kernel
theorem dX4_advance_48 : decode cX4_advance 48 = .ok (.dup, 1) := by decide +kernel
theorem dX4_advance_49 : decode cX4_advance 49 = .ok (.ldc_w 320, 3) := by decide +kernel
theorem dX4_advance_52 : decode cX4_advance 52 = .ok (.invokespecial 75, 3) := by decide +kernel
theorem dX4_advance_55 : decode cX4_advance 55 = .ok (.athrow, 1) := by decide +kernel
theorem dX4_advance_56 : decode cX4_advance 56 = .ok (.aload_n 2, 1) := by decide +kernel
theorem dX4_advance_57 : decode cX4_advance 57 = .ok (.getfield 199, 3) := by decide +kernel
theorem dX4_advance_60 : decode cX4_advance 60 = .ok (.ldc2_w 322, 3) := by decide +kernel
theorem dX4_advance_63 : decode cX4_advance 63 = .ok (.lmul, 1) := by decide +kernel
theorem dX4_advance_64 : decode cX4_advance 64 = .ok (.ldc2_w 324, 3) := by decide +kernel
theorem dX4_advance_67 : decode cX4_advance 67 = .ok (.ldiv, 1) := by decide +kernel
theorem dX4_advance_68 : decode cX4_advance 68 = .ok (.lstore_n 3, 1) := by decide +kernel
theorem dX4_advance_69 : decode cX4_advance 69 = .ok (.aload_n 2, 1) := by decide +kernel
theorem dX4_advance_70 : decode cX4_advance 70 = .ok (.lload_n 3, 1) := by decide +kernel
theorem dX4_advance_71 : decode cX4_advance 71 = .ok (.putfield 203, 3) := by decide +kernel
theorem dX4_advance_74 : decode cX4_advance 74 = .ok (.aload_n 2, 1) := by decide +kernel
theorem dX4_advance_75 : decode cX4_advance 75 = .ok (.aload_n 0, 1) := by decide +kernel
theorem dX4_advance_76 : decode cX4_advance 76 = .ok (.getfield 84, 3) := by decide +kernel
theorem dX4_advance_79 : decode cX4_advance 79 = .ok (.putfield 314, 3) := by decide +kernel
theorem dX4_advance_82 : decode cX4_advance 82 = .ok (.aload_n 0, 1) := by decide +kernel
theorem dX4_advance_83 : decode cX4_advance 83 = .ok (.dup, 1) := by decide +kernel
theorem dX4_advance_84 : decode cX4_advance 84 = .ok (.getfield 326, 3) := by decide +kernel
theorem dX4_advance_87 : decode cX4_advance 87 = .ok (.lload_n 3, 1) := by decide +kernel
theorem dX4_advance_88 : decode cX4_advance 88 = .ok (.ladd, 1) := by decide +kernel
theorem dX4_advance_89 : decode cX4_advance 89 = .ok (.putfield 326, 3) := by decide +kernel
theorem dX4_advance_92 : decode cX4_advance 92 = .ok (.lload_n 3, 1) := by decide +kernel
theorem dX4_advance_93 : decode cX4_advance 93 = .ok (.lreturn, 1) := by decide +kernel
theorem dX4_settle_0 : decode cX4_settle 0 = .ok (.aload_n 0, 1) := by decide +kernel
theorem dX4_settle_1 : decode cX4_settle 1 = .ok (.iload_n 1, 1) := by decide +kernel
theorem dX4_settle_2 : decode cX4_settle 2 = .ok (.invokevirtual 169, 3) := by decide +kernel
theorem dX4_settle_5 : decode cX4_settle 5 = .ok (.astore_n 2, 1) := by decide +kernel
theorem dX4_settle_6 : decode cX4_settle 6 = .ok (.aload_n 2, 1) := by decide +kernel
theorem dX4_settle_7 : decode cX4_settle 7 = .ok (.ifnonnull 13, 3) := by decide +kernel
theorem dX4_settle_10 : decode cX4_settle 10 = .ok (.new 43, 3) := by decide +kernel
theorem dX4_settle_13 : decode cX4_settle 13 = .ok (.dup, 1) := by decide +kernel
theorem dX4_settle_14 : decode cX4_settle 14 = .ok (.ldc 173, 2) := by decide +kernel
theorem dX4_settle_16 : decode cX4_settle 16 = .ok (.invokespecial 47, 3) := by decide +kernel
theorem dX4_settle_19 : decode cX4_settle 19 = .ok (.athrow, 1) := by decide +kernel
theorem dX4_settle_20 : decode cX4_settle 20 = .ok (.aload_n 2, 1) := by decide +kernel
theorem dX4_settle_21 : decode cX4_settle 21 = .ok (.getfield 178, 3) := by decide +kernel
theorem dX4_settle_24 : decode cX4_settle 24 = .ok (.invokestatic 300, 3) := by decide +kernel
theorem dX4_settle_27 : decode cX4_settle 27 = .ok (.ifCond .eq 10, 3) := by decide +kernel
theorem dX4_settle_30 : decode cX4_settle 30 = .ok (.aload_n 2, 1) := by decide +kernel
theorem dX4_settle_31 : decode cX4_settle 31 = .ok (.getfield 317, 3) := by decide +kernel
theorem dX4_settle_34 : decode cX4_settle 34 = .ok (.ifCond .eq 14, 3) := by decide +kernel
theorem dX4_settle_37 : decode cX4_settle 37 = .ok (.new 71, 3) := by decide +kernel
theorem dX4_settle_40 : decode cX4_settle 40 = .ok (.dup, 1) := by decide +kernel
theorem dX4_settle_41 : decode cX4_settle 41 = .ok (.ldc_w 329, 3) := by decide +kernel
theorem dX4_settle_44 : decode cX4_settle 44 = .ok (.invokespecial 75, 3) := by decide +kernel
theorem dX4_settle_47 : decode cX4_settle 47 = .ok (.athrow, 1) := by decide +kernel
theorem dX4_settle_48 : decode cX4_settle 48 = .ok (.aload_n 0, 1) := by decide +kernel
theorem dX4_settle_49 : decode cX4_settle 49 = .ok (.aload_n 2, 1) := by decide +kernel
theorem dX4_settle_50 : decode cX4_settle 50 = .ok (.invokevirtual 310, 3) := by decide +kernel
theorem dX4_settle_53 : decode cX4_settle 53 = .ok (.lstore_n 3, 1) := by decide +kernel
theorem dX4_settle_54 : decode cX4_settle 54 = .ok (.aload_n 2, 1) := by decide +kernel
theorem dX4_settle_55 : decode cX4_settle 55 = .ok (.lload_n 3, 1) := by decide +kernel
theorem dX4_settle_56 : decode cX4_settle 56 = .ok (.putfield 206, 3) := by decide +kernel
theorem dX4_settle_59 : decode cX4_settle 59 = .ok (.aload_n 2, 1) := by decide +kernel
theorem dX4_settle_60 : decode cX4_settle 60 = .ok (.iconst 1, 1) := by decide +kernel
theorem dX4_settle_61 : decode cX4_settle 61 = .ok (.putfield 317, 3) := by decide +kernel
theorem dX4_settle_64 : decode cX4_settle 64 = .ok (.aload_n 0, 1) := by decide +kernel
theorem dX4_settle_65 : decode cX4_settle 65 = .ok (.dup, 1) := by decide +kernel
theorem dX4_settle_66 : decode cX4_settle 66 = .ok (.getfield 326, 3) := by decide +kernel
theorem dX4_settle_69 : decode cX4_settle 69 = .ok (.lload_n 3, 1) := by decide +kernel
theorem dX4_settle_70 : decode cX4_settle 70 = .ok (.ladd, 1) := by decide +kernel
theorem dX4_settle_71 : decode cX4_settle 71 = .ok (.putfield 326, 3) := by decide +kernel
theorem dX4_settle_74 : decode cX4_settle 74 = .ok (.lload_n 3, 1) := by decide +kernel
theorem dX4_settle_75 : decode cX4_settle 75 = .ok (.lreturn, 1) := by decide +kernel
theorem dX4_refuse_0 : decode cX4_refuse 0 = .ok (.aload_n 0, 1) := by decide +kernel
theorem dX4_refuse_1 : decode cX4_refuse 1 = .ok (.iload_n 1, 1) := by decide +kernel
theorem dX4_refuse_2 : decode cX4_refuse 2 = .ok (.invokevirtual 39, 3) := by decide +kernel
theorem dX4_refuse_5 : decode cX4_refuse 5 = .ok (.astore_n 2, 1) := by decide +kernel
theorem dX4_refuse_6 : decode cX4_refuse 6 = .ok (.aload_n 2, 1) := by decide +kernel
theorem dX4_refuse_7 : decode cX4_refuse 7 = .ok (.ifnonnull 13, 3) := by decide +kernel
theorem dX4_refuse_10 : decode cX4_refuse 10 = .ok (.new 43, 3) := by decide +kernel
theorem dX4_refuse_13 : decode cX4_refuse 13 = .ok (.dup, 1) := by decide +kernel
theorem dX4_refuse_14 : decode cX4_refuse 14 = .ok (.ldc 45, 2) := by decide +kernel
theorem dX4_refuse_16 : decode cX4_refuse 16 = .ok (.invokespecial 47, 3) := by decide +kernel
theorem dX4_refuse_19 : decode cX4_refuse 19 = .ok (.athrow, 1) := by decide +kernel
theorem dX4_refuse_20 : decode cX4_refuse 20 = .ok (.aload_n 2, 1) := by decide +kernel
theorem dX4_refuse_21 : decode cX4_refuse 21 = .ok (.getfield 133, 3) := by decide +kernel
theorem dX4_refuse_24 : decode cX4_refuse 24 = .ok (.ifnonnull 14, 3) := by decide +kernel
theorem dX4_refuse_27 : decode cX4_refuse 27 = .ok (.new 71, 3) := by decide +kernel
theorem dX4_refuse_30 : decode cX4_refuse 30 = .ok (.dup, 1) := by decide +kernel
theorem dX4_refuse_31 : decode cX4_refuse 31 = .ok (.ldc_w 331, 3) := by decide +kernel
theorem dX4_refuse_34 : decode cX4_refuse 34 = .ok (.invokespecial 75, 3) := by decide +kernel
theorem dX4_refuse_37 : decode cX4_refuse 37 = .ok (.athrow, 1) := by decide +kernel
theorem dX4_refuse_38 : decode cX4_refuse 38 = .ok (.aload_n 0, 1) := by decide +kernel
theorem dX4_refuse_39 : decode cX4_refuse 39 = .ok (.aload_n 2, 1) := by decide +kernel
theorem dX4_refuse_40 : decode cX4_refuse 40 = .ok (.aload_n 2, 1) := by decide +kernel
theorem dX4_refuse_41 : decode cX4_refuse 41 = .ok (.getfield 133, 3) := by decide +kernel
theorem dX4_refuse_44 : decode cX4_refuse 44 = .ok (.invokevirtual 333, 3) := by decide +kernel
theorem dX4_refuse_47 : decode cX4_refuse 47 = .ok (.astore_n 3, 1) := by decide +kernel
theorem dX4_refuse_48 : decode cX4_refuse 48 = .ok (.aload_n 2, 1) := by decide +kernel
theorem dX4_refuse_49 : decode cX4_refuse 49 = .ok (.aload_n 3, 1) := by decide +kernel
theorem dX4_refuse_50 : decode cX4_refuse 50 = .ok (.aload_n 2, 1) := by decide +kernel
theorem dX4_refuse_51 : decode cX4_refuse 51 = .ok (.getfield 140, 3) := by decide +kernel
theorem dX4_refuse_54 : decode cX4_refuse 54 = .ok (.invokestatic 337, 3) := by decide +kernel
theorem dX4_refuse_57 : decode cX4_refuse 57 = .ok (.aload_n 3, 1) := by decide +kernel
theorem dX4_refuse_58 : decode cX4_refuse 58 = .ok (.invokestatic 137, 3) := by decide +kernel
theorem dX4_refuse_61 : decode cX4_refuse 61 = .ok (.ireturn, 1) := by decide +kernel
theorem dX4_accept_0 : decode cX4_accept 0 = .ok (.aload_n 0, 1) := by decide +kernel
theorem dX4_accept_1 : decode cX4_accept 1 = .ok (.iload_n 1, 1) := by decide +kernel
theorem dX4_accept_2 : decode cX4_accept 2 = .ok (.invokevirtual 39, 3) := by decide +kernel
theorem dX4_accept_5 : decode cX4_accept 5 = .ok (.astore_n 2, 1) := by decide +kernel
theorem dX4_accept_6 : decode cX4_accept 6 = .ok (.aload_n 2, 1) := by decide +kernel
theorem dX4_accept_7 : decode cX4_accept 7 = .ok (.ifnonnull 13, 3) := by decide +kernel
theorem dX4_accept_10 : decode cX4_accept 10 = .ok (.new 43, 3) := by decide +kernel
theorem dX4_accept_13 : decode cX4_accept 13 = .ok (.dup, 1) := by decide +kernel
theorem dX4_accept_14 : decode cX4_accept 14 = .ok (.ldc 45, 2) := by decide +kernel
theorem dX4_accept_16 : decode cX4_accept 16 = .ok (.invokespecial 47, 3) := by decide +kernel
theorem dX4_accept_19 : decode cX4_accept 19 = .ok (.athrow, 1) := by decide +kernel
theorem dX4_accept_20 : decode cX4_accept 20 = .ok (.aload_n 2, 1) := by decide +kernel
theorem dX4_accept_21 : decode cX4_accept 21 = .ok (.getfield 133, 3) := by decide +kernel
theorem dX4_accept_24 : decode cX4_accept 24 = .ok (.ifnonnull 14, 3) := by decide +kernel
theorem dX4_accept_27 : decode cX4_accept 27 = .ok (.new 71, 3) := by decide +kernel
theorem dX4_accept_30 : decode cX4_accept 30 = .ok (.dup, 1) := by decide +kernel
theorem dX4_accept_31 : decode cX4_accept 31 = .ok (.ldc_w 331, 3) := by decide +kernel
theorem dX4_accept_34 : decode cX4_accept 34 = .ok (.invokespecial 75, 3) := by decide +kernel
theorem dX4_accept_37 : decode cX4_accept 37 = .ok (.athrow, 1) := by decide +kernel
theorem dX4_accept_38 : decode cX4_accept 38 = .ok (.aload_n 2, 1) := by decide +kernel
theorem dX4_accept_39 : decode cX4_accept 39 = .ok (.getfield 140, 3) := by decide +kernel
theorem dX4_accept_42 : decode cX4_accept 42 = .ok (.istore_n 3, 1) := by decide +kernel
theorem dX4_accept_43 : decode cX4_accept 43 = .ok (.aload_n 2, 1) := by decide +kernel
theorem dX4_accept_44 : decode cX4_accept 44 = .ok (.iconst 2, 1) := by decide +kernel
theorem dX4_accept_45 : decode cX4_accept 45 = .ok (.putfield 63, 3) := by decide +kernel
theorem dX4_accept_48 : decode cX4_accept 48 = .ok (.aload_n 2, 1) := by decide +kernel
theorem dX4_accept_49 : decode cX4_accept 49 = .ok (.aconst_null, 1) := by decide +kernel
theorem dX4_accept_50 : decode cX4_accept 50 = .ok (.iconst 0, 1) := by decide +kernel
theorem dX4_accept_51 : decode cX4_accept 51 = .ok (.invokestatic 337, 3) := by decide +kernel
theorem dX4_accept_54 : decode cX4_accept 54 = .ok (.aload_n 0, 1) := by decide +kernel
theorem dX4_accept_55 : decode cX4_accept 55 = .ok (.dup, 1) := by decide +kernel
theorem dX4_accept_56 : decode cX4_accept 56 = .ok (.getfield 341, 3) := by decide +kernel
theorem dX4_accept_59 : decode cX4_accept 59 = .ok (.iload_n 3, 1) := by decide +kernel
theorem dX4_accept_60 : decode cX4_accept 60 = .ok (.i2l, 1) := by decide +kernel
theorem dX4_accept_61 : decode cX4_accept 61 = .ok (.ladd, 1) := by decide +kernel
theorem dX4_accept_62 : decode cX4_accept 62 = .ok (.putfield 341, 3) := by decide +kernel
theorem dX4_accept_65 : decode cX4_accept 65 = .ok (.iload_n 3, 1) := by decide +kernel
theorem dX4_accept_66 : decode cX4_accept 66 = .ok (.ireturn, 1) := by decide +kernel
theorem dX4_pass_0 : decode cX4_pass 0 = .ok (.iload_n 1, 1) := by decide +kernel
theorem dX4_pass_1 : decode cX4_pass 1 = .ok (.iconst 1, 1) := by decide +kernel
theorem dX4_pass_2 : decode cX4_pass 2 = .ok (.sipush 1000, 3) := by decide +kernel
theorem dX4_pass_5 : decode cX4_pass 5 = .ok (.invokestatic 50, 3) := by decide +kernel
theorem dX4_pass_8 : decode cX4_pass 8 = .ok (.ifCond .ne 14, 3) := by decide +kernel
theorem dX4_pass_11 : decode cX4_pass 11 = .ok (.new 58, 3) := by decide +kernel
theorem dX4_pass_14 : decode cX4_pass 14 = .ok (.dup, 1) := by decide +kernel
theorem dX4_pass_15 : decode cX4_pass 15 = .ok (.ldc_w 344, 3) := by decide +kernel
theorem dX4_pass_18 : decode cX4_pass 18 = .ok (.invokespecial 62, 3) := by decide +kernel
theorem dX4_pass_21 : decode cX4_pass 21 = .ok (.athrow, 1) := by decide +kernel
theorem dX4_pass_22 : decode cX4_pass 22 = .ok (.aload_n 0, 1) := by decide +kernel
theorem dX4_pass_23 : decode cX4_pass 23 = .ok (.getfield 84, 3) := by decide +kernel
theorem dX4_pass_26 : decode cX4_pass 26 = .ok (.iload_n 1, 1) := by decide +kernel
theorem dX4_pass_27 : decode cX4_pass 27 = .ok (.iadd, 1) := by decide +kernel
theorem dX4_pass_28 : decode cX4_pass 28 = .ok (.sipush 20000, 3) := by decide +kernel
theorem dX4_pass_31 : decode cX4_pass 31 = .ok (.if_icmp .le 14, 3) := by decide +kernel
theorem dX4_pass_34 : decode cX4_pass 34 = .ok (.new 71, 3) := by decide +kernel
theorem dX4_pass_37 : decode cX4_pass 37 = .ok (.dup, 1) := by decide +kernel
theorem dX4_pass_38 : decode cX4_pass 38 = .ok (.ldc_w 346, 3) := by decide +kernel
theorem dX4_pass_41 : decode cX4_pass 41 = .ok (.invokespecial 75, 3) := by decide +kernel
theorem dX4_pass_44 : decode cX4_pass 44 = .ok (.athrow, 1) := by decide +kernel
theorem dX4_pass_45 : decode cX4_pass 45 = .ok (.aload_n 0, 1) := by decide +kernel
theorem dX4_pass_46 : decode cX4_pass 46 = .ok (.dup, 1) := by decide +kernel
theorem dX4_pass_47 : decode cX4_pass 47 = .ok (.getfield 84, 3) := by decide +kernel
theorem dX4_pass_50 : decode cX4_pass 50 = .ok (.iload_n 1, 1) := by decide +kernel
theorem dX4_pass_51 : decode cX4_pass 51 = .ok (.iadd, 1) := by decide +kernel
theorem dX4_pass_52 : decode cX4_pass 52 = .ok (.putfield 84, 3) := by decide +kernel
theorem dX4_pass_55 : decode cX4_pass 55 = .ok (.aload_n 0, 1) := by decide +kernel
theorem dX4_pass_56 : decode cX4_pass 56 = .ok (.getfield 84, 3) := by decide +kernel
theorem dX4_pass_59 : decode cX4_pass 59 = .ok (.ireturn, 1) := by decide +kernel
theorem dX4_total_0 : decode cX4_total 0 = .ok (.iload_n 1, 1) := by decide +kernel
theorem dX4_total_1 : decode cX4_total 1 = .ok (.tableswitch 60 0 4 #[35, 40, 45, 50, 55], 35) := by decide +kernel
theorem dX4_total_36 : decode cX4_total 36 = .ok (.aload_n 0, 1) := by decide +kernel
theorem dX4_total_37 : decode cX4_total 37 = .ok (.getfield 348, 3) := by decide +kernel
theorem dX4_total_40 : decode cX4_total 40 = .ok (.lreturn, 1) := by decide +kernel
theorem dX4_total_41 : decode cX4_total 41 = .ok (.aload_n 0, 1) := by decide +kernel
theorem dX4_total_42 : decode cX4_total 42 = .ok (.getfield 326, 3) := by decide +kernel
theorem dX4_total_45 : decode cX4_total 45 = .ok (.lreturn, 1) := by decide +kernel
theorem dX4_total_46 : decode cX4_total 46 = .ok (.aload_n 0, 1) := by decide +kernel
theorem dX4_total_47 : decode cX4_total 47 = .ok (.getfield 351, 3) := by decide +kernel
theorem dX4_total_50 : decode cX4_total 50 = .ok (.lreturn, 1) := by decide +kernel
theorem dX4_total_51 : decode cX4_total 51 = .ok (.aload_n 0, 1) := by decide +kernel
theorem dX4_total_52 : decode cX4_total 52 = .ok (.getfield 341, 3) := by decide +kernel
theorem dX4_total_55 : decode cX4_total 55 = .ok (.lreturn, 1) := by decide +kernel
theorem dX4_total_56 : decode cX4_total 56 = .ok (.aload_n 0, 1) := by decide +kernel
theorem dX4_total_57 : decode cX4_total 57 = .ok (.getfield 354, 3) := by decide +kernel
theorem dX4_total_60 : decode cX4_total 60 = .ok (.lreturn, 1) := by decide +kernel
theorem dX4_total_61 : decode cX4_total 61 = .ok (.new 58, 3) := by decide +kernel
theorem dX4_total_64 : decode cX4_total 64 = .ok (.dup, 1) := by decide +kernel
theorem dX4_total_65 : decode cX4_total 65 = .ok (.ldc 143, 2) := by decide +kernel
theorem dX4_total_67 : decode cX4_total 67 = .ok (.invokespecial 62, 3) := by decide +kernel
theorem dX4_total_70 : decode cX4_total 70 = .ok (.athrow, 1) := by decide +kernel
theorem dX4_isWithin_0 : decode cX4_isWithin 0 = .ok (.iload_n 0, 1) := by decide +kernel
theorem dX4_isWithin_1 : decode cX4_isWithin 1 = .ok (.iload_n 1, 1) := by decide +kernel
theorem dX4_isWithin_2 : decode cX4_isWithin 2 = .ok (.if_icmp .lt 12, 3) := by decide +kernel
theorem dX4_isWithin_5 : decode cX4_isWithin 5 = .ok (.iload_n 0, 1) := by decide +kernel
theorem dX4_isWithin_6 : decode cX4_isWithin 6 = .ok (.iload_n 2, 1) := by decide +kernel
theorem dX4_isWithin_7 : decode cX4_isWithin 7 = .ok (.if_icmp .gt 7, 3) := by decide +kernel
theorem dX4_isWithin_10 : decode cX4_isWithin 10 = .ok (.iconst 1, 1) := by decide +kernel
theorem dX4_isWithin_11 : decode cX4_isWithin 11 = .ok (.goto 4, 3) := by decide +kernel
theorem dX4_isWithin_14 : decode cX4_isWithin 14 = .ok (.iconst 0, 1) := by decide +kernel
theorem dX4_isWithin_15 : decode cX4_isWithin 15 = .ok (.ireturn, 1) := by decide +kernel
theorem dX4_isUse_0 : decode cX4_isUse 0 = .ok (.iload_n 0, 1) := by decide +kernel
theorem dX4_isUse_1 : decode cX4_isUse 1 = .ok (.iconst 0, 1) := by decide +kernel
theorem dX4_isUse_2 : decode cX4_isUse 2 = .ok (.iconst 2, 1) := by decide +kernel
theorem dX4_isUse_3 : decode cX4_isUse 3 = .ok (.invokestatic 50, 3) := by decide +kernel
theorem dX4_isUse_6 : decode cX4_isUse 6 = .ok (.ireturn, 1) := by decide +kernel
theorem dX4_isPerson_0 : decode cX4_isPerson 0 = .ok (.iload_n 0, 1) := by decide +kernel
theorem dX4_isPerson_1 : decode cX4_isPerson 1 = .ok (.iconst 0, 1) := by decide +kernel
theorem dX4_isPerson_2 : decode cX4_isPerson 2 = .ok (.bipush 9, 2) := by decide +kernel
theorem dX4_isPerson_4 : decode cX4_isPerson 4 = .ok (.invokestatic 50, 3) := by decide +kernel
theorem dX4_isPerson_7 : decode cX4_isPerson 7 = .ok (.ireturn, 1) := by decide +kernel
theorem dX4_hundredths_0 : decode cX4_hundredths 0 = .ok (.iload_n 0, 1) := by decide +kernel
theorem dX4_hundredths_1 : decode cX4_hundredths 1 = .ok (.iload_n 1, 1) := by decide +kernel
theorem dX4_hundredths_2 : decode cX4_hundredths 2 = .ok (.imul, 1) := by decide +kernel
theorem dX4_hundredths_3 : decode cX4_hundredths 3 = .ok (.bipush 100, 2) := by decide +kernel
theorem dX4_hundredths_5 : decode cX4_hundredths 5 = .ok (.idiv, 1) := by decide +kernel
theorem dX4_hundredths_6 : decode cX4_hundredths 6 = .ok (.ireturn, 1) := by decide +kernel
theorem dX4_plotAt_0 : decode cX4_plotAt 0 = .ok (.iload_n 1, 1) := by decide +kernel
theorem dX4_plotAt_1 : decode cX4_plotAt 1 = .ok (.ifCond .lt 21, 3) := by decide +kernel
theorem dX4_plotAt_4 : decode cX4_plotAt 4 = .ok (.iload_n 1, 1) := by decide +kernel
theorem dX4_plotAt_5 : decode cX4_plotAt 5 = .ok (.aload_n 0, 1) := by decide +kernel
theorem dX4_plotAt_6 : decode cX4_plotAt 6 = .ok (.getfield 11, 3) := by decide +kernel
theorem dX4_plotAt_9 : decode cX4_plotAt 9 = .ok (.arraylength, 1) := by decide +kernel
theorem dX4_plotAt_10 : decode cX4_plotAt 10 = .ok (.if_icmp .ge 12, 3) := by decide +kernel
theorem dX4_plotAt_13 : decode cX4_plotAt 13 = .ok (.aload_n 0, 1) := by decide +kernel
theorem dX4_plotAt_14 : decode cX4_plotAt 14 = .ok (.getfield 11, 3) := by decide +kernel
theorem dX4_plotAt_17 : decode cX4_plotAt 17 = .ok (.iload_n 1, 1) := by decide +kernel
theorem dX4_plotAt_18 : decode cX4_plotAt 18 = .ok (.aaload, 1) := by decide +kernel
theorem dX4_plotAt_19 : decode cX4_plotAt 19 = .ok (.goto 4, 3) := by decide +kernel
theorem dX4_plotAt_22 : decode cX4_plotAt 22 = .ok (.aconst_null, 1) := by decide +kernel
theorem dX4_plotAt_23 : decode cX4_plotAt 23 = .ok (.areturn, 1) := by decide +kernel
theorem dX4_interestAt_0 : decode cX4_interestAt 0 = .ok (.iload_n 1, 1) := by decide +kernel
theorem dX4_interestAt_1 : decode cX4_interestAt 1 = .ok (.ifCond .lt 21, 3) := by decide +kernel
theorem dX4_interestAt_4 : decode cX4_interestAt 4 = .ok (.iload_n 1, 1) := by decide +kernel
theorem dX4_interestAt_5 : decode cX4_interestAt 5 = .ok (.aload_n 0, 1) := by decide +kernel
theorem dX4_interestAt_6 : decode cX4_interestAt 6 = .ok (.getfield 23, 3) := by decide +kernel
theorem dX4_interestAt_9 : decode cX4_interestAt 9 = .ok (.arraylength, 1) := by decide +kernel
theorem dX4_interestAt_10 : decode cX4_interestAt 10 = .ok (.if_icmp .ge 12, 3) := by decide +kernel
theorem dX4_interestAt_13 : decode cX4_interestAt 13 = .ok (.aload_n 0, 1) := by decide +kernel
theorem dX4_interestAt_14 : decode cX4_interestAt 14 = .ok (.getfield 23, 3) := by decide +kernel
theorem dX4_interestAt_17 : decode cX4_interestAt 17 = .ok (.iload_n 1, 1) := by decide +kernel
theorem dX4_interestAt_18 : decode cX4_interestAt 18 = .ok (.aaload, 1) := by decide +kernel
theorem dX4_interestAt_19 : decode cX4_interestAt 19 = .ok (.goto 4, 3) := by decide +kernel
theorem dX4_interestAt_22 : decode cX4_interestAt 22 = .ok (.aconst_null, 1) := by decide +kernel
theorem dX4_interestAt_23 : decode cX4_interestAt 23 = .ok (.areturn, 1) := by decide +kernel
theorem dX4_schemeAt_0 : decode cX4_schemeAt 0 = .ok (.iload_n 1, 1) := by decide +kernel
theorem dX4_schemeAt_1 : decode cX4_schemeAt 1 = .ok (.ifCond .lt 21, 3) := by decide +kernel
theorem dX4_schemeAt_4 : decode cX4_schemeAt 4 = .ok (.iload_n 1, 1) := by decide +kernel
theorem dX4_schemeAt_5 : decode cX4_schemeAt 5 = .ok (.aload_n 0, 1) := by decide +kernel
theorem dX4_schemeAt_6 : decode cX4_schemeAt 6 = .ok (.getfield 29, 3) := by decide +kernel
theorem dX4_schemeAt_9 : decode cX4_schemeAt 9 = .ok (.arraylength, 1) := by decide +kernel
theorem dX4_schemeAt_10 : decode cX4_schemeAt 10 = .ok (.if_icmp .ge 12, 3) := by decide +kernel
theorem dX4_schemeAt_13 : decode cX4_schemeAt 13 = .ok (.aload_n 0, 1) := by decide +kernel
theorem dX4_schemeAt_14 : decode cX4_schemeAt 14 = .ok (.getfield 29, 3) := by decide +kernel
theorem dX4_schemeAt_17 : decode cX4_schemeAt 17 = .ok (.iload_n 1, 1) := by decide +kernel
theorem dX4_schemeAt_18 : decode cX4_schemeAt 18 = .ok (.aaload, 1) := by decide +kernel
theorem dX4_schemeAt_19 : decode cX4_schemeAt 19 = .ok (.goto 4, 3) := by decide +kernel
theorem dX4_schemeAt_22 : decode cX4_schemeAt 22 = .ok (.aconst_null, 1) := by decide +kernel
theorem dX4_schemeAt_23 : decode cX4_schemeAt 23 = .ok (.areturn, 1) := by decide +kernel
theorem dX4_numberOf_0 : decode cX4_numberOf 0 = .ok (.aload_n 0, 1) := by decide +kernel
theorem dX4_numberOf_1 : decode cX4_numberOf 1 = .ok (.ifnonnull 7, 3) := by decide +kernel
theorem dX4_numberOf_4 : decode cX4_numberOf 4 = .ok (.iconst (-1), 1) := by decide +kernel
theorem dX4_numberOf_5 : decode cX4_numberOf 5 = .ok (.goto 7, 3) := by decide +kernel
theorem dX4_numberOf_8 : decode cX4_numberOf 8 = .ok (.aload_n 0, 1) := by decide +kernel
theorem dX4_numberOf_9 : decode cX4_numberOf 9 = .ok (.getfield 109, 3) := by decide +kernel
theorem dX4_numberOf_12 : decode cX4_numberOf 12 = .ok (.ireturn, 1) := by decide +kernel
theorem dX4_numberOf__0 : decode cX4_numberOf_ 0 = .ok (.aload_n 0, 1) := by decide +kernel
theorem dX4_numberOf__1 : decode cX4_numberOf_ 1 = .ok (.ifnonnull 7, 3) := by decide +kernel
theorem dX4_numberOf__4 : decode cX4_numberOf_ 4 = .ok (.iconst (-1), 1) := by decide +kernel
theorem dX4_numberOf__5 : decode cX4_numberOf_ 5 = .ok (.goto 7, 3) := by decide +kernel
theorem dX4_numberOf__8 : decode cX4_numberOf_ 8 = .ok (.aload_n 0, 1) := by decide +kernel
theorem dX4_numberOf__9 : decode cX4_numberOf_ 9 = .ok (.getfield 359, 3) := by decide +kernel
theorem dX4_numberOf__12 : decode cX4_numberOf_ 12 = .ok (.ireturn, 1) := by decide +kernel
theorem dX4_numberOf___0 : decode cX4_numberOf__ 0 = .ok (.aload_n 0, 1) := by decide +kernel
theorem dX4_numberOf___1 : decode cX4_numberOf__ 1 = .ok (.ifnonnull 7, 3) := by decide +kernel
theorem dX4_numberOf___4 : decode cX4_numberOf__ 4 = .ok (.iconst (-1), 1) := by decide +kernel
theorem dX4_numberOf___5 : decode cX4_numberOf__ 5 = .ok (.goto 7, 3) := by decide +kernel
theorem dX4_numberOf___8 : decode cX4_numberOf__ 8 = .ok (.aload_n 0, 1) := by decide +kernel
theorem dX4_numberOf___9 : decode cX4_numberOf__ 9 = .ok (.getfield 242, 3) := by decide +kernel
theorem dX4_numberOf___12 : decode cX4_numberOf__ 12 = .ok (.ireturn, 1) := by decide +kernel
theorem dX4_priceOn_0 : decode cX4_priceOn 0 = .ok (.iload_n 1, 1) := by decide +kernel
theorem dX4_priceOn_1 : decode cX4_priceOn 1 = .ok (.ifCond .lt 21, 3) := by decide +kernel
theorem dX4_priceOn_4 : decode cX4_priceOn 4 = .ok (.iload_n 1, 1) := by decide +kernel
theorem dX4_priceOn_5 : decode cX4_priceOn 5 = .ok (.aload_n 0, 1) := by decide +kernel
theorem dX4_priceOn_6 : decode cX4_priceOn 6 = .ok (.getfield 17, 3) := by decide +kernel
theorem dX4_priceOn_9 : decode cX4_priceOn 9 = .ok (.arraylength, 1) := by decide +kernel
theorem dX4_priceOn_10 : decode cX4_priceOn 10 = .ok (.if_icmp .ge 12, 3) := by decide +kernel
theorem dX4_priceOn_13 : decode cX4_priceOn 13 = .ok (.aload_n 0, 1) := by decide +kernel
theorem dX4_priceOn_14 : decode cX4_priceOn 14 = .ok (.getfield 17, 3) := by decide +kernel
theorem dX4_priceOn_17 : decode cX4_priceOn 17 = .ok (.iload_n 1, 1) := by decide +kernel
theorem dX4_priceOn_18 : decode cX4_priceOn 18 = .ok (.aaload, 1) := by decide +kernel
theorem dX4_priceOn_19 : decode cX4_priceOn 19 = .ok (.goto 4, 3) := by decide +kernel
theorem dX4_priceOn_22 : decode cX4_priceOn 22 = .ok (.aconst_null, 1) := by decide +kernel
theorem dX4_priceOn_23 : decode cX4_priceOn 23 = .ok (.astore_n 3, 1) := by decide +kernel
theorem dX4_priceOn_24 : decode cX4_priceOn 24 = .ok (.aload_n 3, 1) := by decide +kernel
theorem dX4_priceOn_25 : decode cX4_priceOn 25 = .ok (.ifnull 19, 3) := by decide +kernel
theorem dX4_priceOn_28 : decode cX4_priceOn 28 = .ok (.aload_n 3, 1) := by decide +kernel
theorem dX4_priceOn_29 : decode cX4_priceOn 29 = .ok (.getfield 360, 3) := by decide +kernel
theorem dX4_priceOn_32 : decode cX4_priceOn 32 = .ok (.iload_n 2, 1) := by decide +kernel
theorem dX4_priceOn_33 : decode cX4_priceOn 33 = .ok (.if_icmp .le 11, 3) := by decide +kernel
theorem dX4_priceOn_36 : decode cX4_priceOn 36 = .ok (.aload_n 3, 1) := by decide +kernel
theorem dX4_priceOn_37 : decode cX4_priceOn 37 = .ok (.getfield 363, 3) := by decide +kernel
theorem dX4_priceOn_40 : decode cX4_priceOn 40 = .ok (.astore_n 3, 1) := by decide +kernel
theorem dX4_priceOn_41 : decode cX4_priceOn 41 = .ok (.goto (-17), 3) := by decide +kernel
theorem dX4_priceOn_44 : decode cX4_priceOn 44 = .ok (.aload_n 3, 1) := by decide +kernel
theorem dX4_priceOn_45 : decode cX4_priceOn 45 = .ok (.areturn, 1) := by decide +kernel
theorem dX4_centsOf_0 : decode cX4_centsOf 0 = .ok (.aload_n 0, 1) := by decide +kernel
theorem dX4_centsOf_1 : decode cX4_centsOf 1 = .ok (.ifnonnull 7, 3) := by decide +kernel
theorem dX4_centsOf_4 : decode cX4_centsOf 4 = .ok (.iconst 0, 1) := by decide +kernel
theorem dX4_centsOf_5 : decode cX4_centsOf 5 = .ok (.goto 7, 3) := by decide +kernel
theorem dX4_centsOf_8 : decode cX4_centsOf 8 = .ok (.aload_n 0, 1) := by decide +kernel
theorem dX4_centsOf_9 : decode cX4_centsOf 9 = .ok (.getfield 367, 3) := by decide +kernel
theorem dX4_centsOf_12 : decode cX4_centsOf 12 = .ok (.ireturn, 1) := by decide +kernel
theorem dX4_worthBy_0 : decode cX4_worthBy 0 = .ok (.aload_n 0, 1) := by decide +kernel
theorem dX4_worthBy_1 : decode cX4_worthBy 1 = .ok (.ifnonnull 7, 3) := by decide +kernel
theorem dX4_worthBy_4 : decode cX4_worthBy 4 = .ok (.iconst 0, 1) := by decide +kernel
theorem dX4_worthBy_5 : decode cX4_worthBy 5 = .ok (.goto 12, 3) := by decide +kernel
theorem dX4_worthBy_8 : decode cX4_worthBy 8 = .ok (.aload_n 0, 1) := by decide +kernel
theorem dX4_worthBy_9 : decode cX4_worthBy 9 = .ok (.getfield 76, 3) := by decide +kernel
theorem dX4_worthBy_12 : decode cX4_worthBy 12 = .ok (.aload_n 1, 1) := by decide +kernel
theorem dX4_worthBy_13 : decode cX4_worthBy 13 = .ok (.invokestatic 91, 3) := by decide +kernel
theorem dX4_worthBy_16 : decode cX4_worthBy 16 = .ok (.imul, 1) := by decide +kernel
theorem dX4_worthBy_17 : decode cX4_worthBy 17 = .ok (.ireturn, 1) := by decide +kernel
theorem dX4_worthToday_0 : decode cX4_worthToday 0 = .ok (.aload_n 1, 1) := by decide +kernel
theorem dX4_worthToday_1 : decode cX4_worthToday 1 = .ok (.ifnonnull 7, 3) := by decide +kernel
theorem dX4_worthToday_4 : decode cX4_worthToday 4 = .ok (.iconst 0, 1) := by decide +kernel
