theorem dX4_leaseSum_52 : decode cX4_leaseSum 52 = .ok (.iload_n 2, 1) := by decide +kernel
theorem dX4_leaseSum_53 : decode cX4_leaseSum 53 = .ok (.aload_n 0, 1) := by decide +kernel
theorem dX4_leaseSum_54 : decode cX4_leaseSum 54 = .ok (.getfield 420, 3) := by decide +kernel
theorem dX4_leaseSum_57 : decode cX4_leaseSum 57 = .ok (.imul, 1) := by decide +kernel
theorem dX4_leaseSum_58 : decode cX4_leaseSum 58 = .ok (.ireturn, 1) := by decide +kernel
theorem dX4_leftBehindCharges_0 : decode cX4_leftBehindCharges 0 = .ok (.iload_n 2, 1) := by decide +kernel
theorem dX4_leftBehindCharges_1 : decode cX4_leftBehindCharges 1 = .ok (.istore 4, 2) := by decide +kernel
theorem dX4_leftBehindCharges_3 : decode cX4_leftBehindCharges 3 = .ok (.aload_n 0, 1) := by decide +kernel
theorem dX4_leftBehindCharges_4 : decode cX4_leftBehindCharges 4 = .ok (.getfield 23, 3) := by decide +kernel
theorem dX4_leftBehindCharges_7 : decode cX4_leftBehindCharges 7 = .ok (.astore 5, 2) := by decide +kernel
theorem dX4_leftBehindCharges_9 : decode cX4_leftBehindCharges 9 = .ok (.aload 5, 2) := by decide +kernel
theorem dX4_leftBehindCharges_11 : decode cX4_leftBehindCharges 11 = .ok (.arraylength, 1) := by decide +kernel
theorem dX4_leftBehindCharges_12 : decode cX4_leftBehindCharges 12 = .ok (.istore 6, 2) := by decide +kernel
theorem dX4_leftBehindCharges_14 : decode cX4_leftBehindCharges 14 = .ok (.iconst 0, 1) := by decide +kernel
theorem dX4_leftBehindCharges_15 : decode cX4_leftBehindCharges 15 = .ok (.istore 7, 2) := by decide +kernel
theorem dX4_leftBehindCharges_17 : decode cX4_leftBehindCharges 17 = .ok (.iload 7, 2) := by decide +kernel
theorem dX4_leftBehindCharges_19 : decode cX4_leftBehindCharges 19 = .ok (.iload 6, 2) := by decide +kernel
theorem dX4_leftBehindCharges_21 : decode cX4_leftBehindCharges 21 = .ok (.if_icmp .ge 63, 3) := by decide +kernel
theorem dX4_leftBehindCharges_24 : decode cX4_leftBehindCharges 24 = .ok (.aload 5, 2) := by decide +kernel
theorem dX4_leftBehindCharges_26 : decode cX4_leftBehindCharges 26 = .ok (.iload 7, 2) := by decide +kernel
theorem dX4_leftBehindCharges_28 : decode cX4_leftBehindCharges 28 = .ok (.aaload, 1) := by decide +kernel
theorem dX4_leftBehindCharges_29 : decode cX4_leftBehindCharges 29 = .ok (.astore 8, 2) := by decide +kernel
theorem dX4_leftBehindCharges_31 : decode cX4_leftBehindCharges 31 = .ok (.aload 8, 2) := by decide +kernel
theorem dX4_leftBehindCharges_33 : decode cX4_leftBehindCharges 33 = .ok (.ifnull 45, 3) := by decide +kernel
theorem dX4_leftBehindCharges_36 : decode cX4_leftBehindCharges 36 = .ok (.aload 8, 2) := by decide +kernel
theorem dX4_leftBehindCharges_38 : decode cX4_leftBehindCharges 38 = .ok (.getfield 175, 3) := by decide +kernel
theorem dX4_leftBehindCharges_41 : decode cX4_leftBehindCharges 41 = .ok (.iconst 2, 1) := by decide +kernel
theorem dX4_leftBehindCharges_42 : decode cX4_leftBehindCharges 42 = .ok (.if_icmp .ne 36, 3) := by decide +kernel
theorem dX4_leftBehindCharges_45 : decode cX4_leftBehindCharges 45 = .ok (.aload 8, 2) := by decide +kernel
theorem dX4_leftBehindCharges_47 : decode cX4_leftBehindCharges 47 = .ok (.getfield 178, 3) := by decide +kernel
theorem dX4_leftBehindCharges_50 : decode cX4_leftBehindCharges 50 = .ok (.aload_n 1, 1) := by decide +kernel
theorem dX4_leftBehindCharges_51 : decode cX4_leftBehindCharges 51 = .ok (.if_acmp .ne 27, 3) := by decide +kernel
theorem dX4_leftBehindCharges_54 : decode cX4_leftBehindCharges 54 = .ok (.aload 8, 2) := by decide +kernel
theorem dX4_leftBehindCharges_56 : decode cX4_leftBehindCharges 56 = .ok (.getfield 359, 3) := by decide +kernel
theorem dX4_leftBehindCharges_59 : decode cX4_leftBehindCharges 59 = .ok (.iload_n 3, 1) := by decide +kernel
theorem dX4_leftBehindCharges_60 : decode cX4_leftBehindCharges 60 = .ok (.if_icmp .ge 18, 3) := by decide +kernel
theorem dX4_leftBehindCharges_63 : decode cX4_leftBehindCharges 63 = .ok (.iload 4, 2) := by decide +kernel
theorem dX4_leftBehindCharges_65 : decode cX4_leftBehindCharges 65 = .ok (.iload 4, 2) := by decide +kernel
theorem dX4_leftBehindCharges_67 : decode cX4_leftBehindCharges 67 = .ok (.aload 8, 2) := by decide +kernel
theorem dX4_leftBehindCharges_69 : decode cX4_leftBehindCharges 69 = .ok (.getfield 190, 3) := by decide +kernel
theorem dX4_leftBehindCharges_72 : decode cX4_leftBehindCharges 72 = .ok (.invokestatic 417, 3) := by decide +kernel
theorem dX4_leftBehindCharges_75 : decode cX4_leftBehindCharges 75 = .ok (.isub, 1) := by decide +kernel
theorem dX4_leftBehindCharges_76 : decode cX4_leftBehindCharges 76 = .ok (.istore 4, 2) := by decide +kernel
theorem dX4_leftBehindCharges_78 : decode cX4_leftBehindCharges 78 = .ok (.iinc 7 1, 3) := by decide +kernel
theorem dX4_leftBehindCharges_81 : decode cX4_leftBehindCharges 81 = .ok (.goto (-64), 3) := by decide +kernel
theorem dX4_leftBehindCharges_84 : decode cX4_leftBehindCharges 84 = .ok (.iload 4, 2) := by decide +kernel
theorem dX4_leftBehindCharges_86 : decode cX4_leftBehindCharges 86 = .ok (.ireturn, 1) := by decide +kernel
theorem dX4_leftForCourt_0 : decode cX4_leftForCourt 0 = .ok (.aload_n 0, 1) := by decide +kernel
theorem dX4_leftForCourt_1 : decode cX4_leftForCourt 1 = .ok (.aload_n 1, 1) := by decide +kernel
theorem dX4_leftForCourt_2 : decode cX4_leftForCourt 2 = .ok (.iload_n 2, 1) := by decide +kernel
theorem dX4_leftForCourt_3 : decode cX4_leftForCourt 3 = .ok (.bipush 24, 2) := by decide +kernel
theorem dX4_leftForCourt_5 : decode cX4_leftForCourt 5 = .ok (.invokevirtual 413, 3) := by decide +kernel
theorem dX4_leftForCourt_8 : decode cX4_leftForCourt 8 = .ok (.istore_n 3, 1) := by decide +kernel
theorem dX4_leftForCourt_9 : decode cX4_leftForCourt 9 = .ok (.iload_n 3, 1) := by decide +kernel
theorem dX4_leftForCourt_10 : decode cX4_leftForCourt 10 = .ok (.istore 4, 2) := by decide +kernel
theorem dX4_leftForCourt_12 : decode cX4_leftForCourt 12 = .ok (.aload_n 0, 1) := by decide +kernel
theorem dX4_leftForCourt_13 : decode cX4_leftForCourt 13 = .ok (.getfield 23, 3) := by decide +kernel
theorem dX4_leftForCourt_16 : decode cX4_leftForCourt 16 = .ok (.astore 5, 2) := by decide +kernel
theorem dX4_leftForCourt_18 : decode cX4_leftForCourt 18 = .ok (.aload 5, 2) := by decide +kernel
theorem dX4_leftForCourt_20 : decode cX4_leftForCourt 20 = .ok (.arraylength, 1) := by decide +kernel
theorem dX4_leftForCourt_21 : decode cX4_leftForCourt 21 = .ok (.istore 6, 2) := by decide +kernel
theorem dX4_leftForCourt_23 : decode cX4_leftForCourt 23 = .ok (.iconst 0, 1) := by decide +kernel
theorem dX4_leftForCourt_24 : decode cX4_leftForCourt 24 = .ok (.istore 7, 2) := by decide +kernel
theorem dX4_leftForCourt_26 : decode cX4_leftForCourt 26 = .ok (.iload 7, 2) := by decide +kernel
theorem dX4_leftForCourt_28 : decode cX4_leftForCourt 28 = .ok (.iload 6, 2) := by decide +kernel
theorem dX4_leftForCourt_30 : decode cX4_leftForCourt 30 = .ok (.if_icmp .ge 52, 3) := by decide +kernel
theorem dX4_leftForCourt_33 : decode cX4_leftForCourt 33 = .ok (.aload 5, 2) := by decide +kernel
theorem dX4_leftForCourt_35 : decode cX4_leftForCourt 35 = .ok (.iload 7, 2) := by decide +kernel
theorem dX4_leftForCourt_37 : decode cX4_leftForCourt 37 = .ok (.aaload, 1) := by decide +kernel
theorem dX4_leftForCourt_38 : decode cX4_leftForCourt 38 = .ok (.astore 8, 2) := by decide +kernel
theorem dX4_leftForCourt_40 : decode cX4_leftForCourt 40 = .ok (.aload 8, 2) := by decide +kernel
theorem dX4_leftForCourt_42 : decode cX4_leftForCourt 42 = .ok (.ifnull 34, 3) := by decide +kernel
theorem dX4_leftForCourt_45 : decode cX4_leftForCourt 45 = .ok (.aload 8, 2) := by decide +kernel
theorem dX4_leftForCourt_47 : decode cX4_leftForCourt 47 = .ok (.getfield 175, 3) := by decide +kernel
theorem dX4_leftForCourt_50 : decode cX4_leftForCourt 50 = .ok (.ifCond .ne 26, 3) := by decide +kernel
theorem dX4_leftForCourt_53 : decode cX4_leftForCourt 53 = .ok (.aload 8, 2) := by decide +kernel
theorem dX4_leftForCourt_55 : decode cX4_leftForCourt 55 = .ok (.getfield 178, 3) := by decide +kernel
theorem dX4_leftForCourt_58 : decode cX4_leftForCourt 58 = .ok (.aload_n 1, 1) := by decide +kernel
theorem dX4_leftForCourt_59 : decode cX4_leftForCourt 59 = .ok (.if_acmp .ne 17, 3) := by decide +kernel
theorem dX4_leftForCourt_62 : decode cX4_leftForCourt 62 = .ok (.iload 4, 2) := by decide +kernel
theorem dX4_leftForCourt_64 : decode cX4_leftForCourt 64 = .ok (.iload_n 3, 1) := by decide +kernel
theorem dX4_leftForCourt_65 : decode cX4_leftForCourt 65 = .ok (.aload 8, 2) := by decide +kernel
theorem dX4_leftForCourt_67 : decode cX4_leftForCourt 67 = .ok (.getfield 190, 3) := by decide +kernel
theorem dX4_leftForCourt_70 : decode cX4_leftForCourt 70 = .ok (.invokestatic 105, 3) := by decide +kernel
theorem dX4_leftForCourt_73 : decode cX4_leftForCourt 73 = .ok (.isub, 1) := by decide +kernel
theorem dX4_leftForCourt_74 : decode cX4_leftForCourt 74 = .ok (.istore 4, 2) := by decide +kernel
theorem dX4_leftForCourt_76 : decode cX4_leftForCourt 76 = .ok (.iinc 7 1, 3) := by decide +kernel
theorem dX4_leftForCourt_79 : decode cX4_leftForCourt 79 = .ok (.goto (-53), 3) := by decide +kernel
theorem dX4_leftForCourt_82 : decode cX4_leftForCourt 82 = .ok (.iload 4, 2) := by decide +kernel
theorem dX4_leftForCourt_84 : decode cX4_leftForCourt 84 = .ok (.ireturn, 1) := by decide +kernel
theorem dX4_owedTo_0 : decode cX4_owedTo 0 = .ok (.aload_n 1, 1) := by decide +kernel
theorem dX4_owedTo_1 : decode cX4_owedTo 1 = .ok (.ifnull 20, 3) := by decide +kernel
theorem dX4_owedTo_4 : decode cX4_owedTo 4 = .ok (.aload_n 1, 1) := by decide +kernel
theorem dX4_owedTo_5 : decode cX4_owedTo 5 = .ok (.getfield 178, 3) := by decide +kernel
theorem dX4_owedTo_8 : decode cX4_owedTo 8 = .ok (.invokestatic 300, 3) := by decide +kernel
theorem dX4_owedTo_11 : decode cX4_owedTo 11 = .ok (.ifCond .eq 10, 3) := by decide +kernel
theorem dX4_owedTo_14 : decode cX4_owedTo 14 = .ok (.aload_n 1, 1) := by decide +kernel
theorem dX4_owedTo_15 : decode cX4_owedTo 15 = .ok (.getfield 317, 3) := by decide +kernel
theorem dX4_owedTo_18 : decode cX4_owedTo 18 = .ok (.ifCond .eq 5, 3) := by decide +kernel
theorem dX4_owedTo_21 : decode cX4_owedTo 21 = .ok (.lconst 0, 1) := by decide +kernel
theorem dX4_owedTo_22 : decode cX4_owedTo 22 = .ok (.lreturn, 1) := by decide +kernel
theorem dX4_owedTo_23 : decode cX4_owedTo 23 = .ok (.aload_n 1, 1) := by decide +kernel
theorem dX4_owedTo_24 : decode cX4_owedTo 24 = .ok (.getfield 199, 3) := by decide +kernel
theorem dX4_owedTo_27 : decode cX4_owedTo 27 = .ok (.aload_n 1, 1) := by decide +kernel
theorem dX4_owedTo_28 : decode cX4_owedTo 28 = .ok (.getfield 203, 3) := by decide +kernel
theorem dX4_owedTo_31 : decode cX4_owedTo 31 = .ok (.lsub, 1) := by decide +kernel
theorem dX4_owedTo_32 : decode cX4_owedTo 32 = .ok (.aload_n 0, 1) := by decide +kernel
theorem dX4_owedTo_33 : decode cX4_owedTo 33 = .ok (.aload_n 1, 1) := by decide +kernel
theorem dX4_owedTo_34 : decode cX4_owedTo 34 = .ok (.invokevirtual 423, 3) := by decide +kernel
theorem dX4_owedTo_37 : decode cX4_owedTo 37 = .ok (.ladd, 1) := by decide +kernel
theorem dX4_owedTo_38 : decode cX4_owedTo 38 = .ok (.lreturn, 1) := by decide +kernel
theorem dX4_gainOf_0 : decode cX4_gainOf 0 = .ok (.aload_n 1, 1) := by decide +kernel
theorem dX4_gainOf_1 : decode cX4_gainOf 1 = .ok (.ifnull 10, 3) := by decide +kernel
theorem dX4_gainOf_4 : decode cX4_gainOf 4 = .ok (.aload_n 1, 1) := by decide +kernel
theorem dX4_gainOf_5 : decode cX4_gainOf 5 = .ok (.getfield 178, 3) := by decide +kernel
theorem dX4_gainOf_8 : decode cX4_gainOf 8 = .ok (.ifnonnull 5, 3) := by decide +kernel
theorem dX4_gainOf_11 : decode cX4_gainOf 11 = .ok (.lconst 0, 1) := by decide +kernel
theorem dX4_gainOf_12 : decode cX4_gainOf 12 = .ok (.lreturn, 1) := by decide +kernel
theorem dX4_gainOf_13 : decode cX4_gainOf 13 = .ok (.aload_n 1, 1) := by decide +kernel
theorem dX4_gainOf_14 : decode cX4_gainOf 14 = .ok (.getfield 178, 3) := by decide +kernel
theorem dX4_gainOf_17 : decode cX4_gainOf 17 = .ok (.getfield 126, 3) := by decide +kernel
theorem dX4_gainOf_20 : decode cX4_gainOf 20 = .ok (.istore_n 2, 1) := by decide +kernel
theorem dX4_gainOf_21 : decode cX4_gainOf 21 = .ok (.aload_n 1, 1) := by decide +kernel
theorem dX4_gainOf_22 : decode cX4_gainOf 22 = .ok (.getfield 314, 3) := by decide +kernel
theorem dX4_gainOf_25 : decode cX4_gainOf 25 = .ok (.iconst (-1), 1) := by decide +kernel
theorem dX4_gainOf_26 : decode cX4_gainOf 26 = .ok (.if_icmp .ne 18, 3) := by decide +kernel
theorem dX4_gainOf_29 : decode cX4_gainOf 29 = .ok (.aload_n 1, 1) := by decide +kernel
theorem dX4_gainOf_30 : decode cX4_gainOf 30 = .ok (.getfield 199, 3) := by decide +kernel
theorem dX4_gainOf_33 : decode cX4_gainOf 33 = .ok (.aload_n 0, 1) := by decide +kernel
theorem dX4_gainOf_34 : decode cX4_gainOf 34 = .ok (.getfield 84, 3) := by decide +kernel
theorem dX4_gainOf_37 : decode cX4_gainOf 37 = .ok (.iload_n 2, 1) := by decide +kernel
theorem dX4_gainOf_38 : decode cX4_gainOf 38 = .ok (.isub, 1) := by decide +kernel
theorem dX4_gainOf_39 : decode cX4_gainOf 39 = .ok (.i2l, 1) := by decide +kernel
theorem dX4_gainOf_40 : decode cX4_gainOf 40 = .ok (.invokestatic 426, 3) := by decide +kernel
theorem dX4_gainOf_43 : decode cX4_gainOf 43 = .ok (.lreturn, 1) := by decide +kernel
theorem dX4_gainOf_44 : decode cX4_gainOf 44 = .ok (.aload_n 1, 1) := by decide +kernel
theorem dX4_gainOf_45 : decode cX4_gainOf 45 = .ok (.getfield 199, 3) := by decide +kernel
theorem dX4_gainOf_48 : decode cX4_gainOf 48 = .ok (.aload_n 1, 1) := by decide +kernel
theorem dX4_gainOf_49 : decode cX4_gainOf 49 = .ok (.getfield 314, 3) := by decide +kernel
theorem dX4_gainOf_52 : decode cX4_gainOf 52 = .ok (.iload_n 2, 1) := by decide +kernel
theorem dX4_gainOf_53 : decode cX4_gainOf 53 = .ok (.isub, 1) := by decide +kernel
theorem dX4_gainOf_54 : decode cX4_gainOf 54 = .ok (.i2l, 1) := by decide +kernel
theorem dX4_gainOf_55 : decode cX4_gainOf 55 = .ok (.invokestatic 426, 3) := by decide +kernel
theorem dX4_gainOf_58 : decode cX4_gainOf 58 = .ok (.aload_n 1, 1) := by decide +kernel
theorem dX4_gainOf_59 : decode cX4_gainOf 59 = .ok (.getfield 199, 3) := by decide +kernel
theorem dX4_gainOf_62 : decode cX4_gainOf 62 = .ok (.aload_n 1, 1) := by decide +kernel
theorem dX4_gainOf_63 : decode cX4_gainOf 63 = .ok (.getfield 203, 3) := by decide +kernel
theorem dX4_gainOf_66 : decode cX4_gainOf 66 = .ok (.lsub, 1) := by decide +kernel
theorem dX4_gainOf_67 : decode cX4_gainOf 67 = .ok (.aload_n 0, 1) := by decide +kernel
theorem dX4_gainOf_68 : decode cX4_gainOf 68 = .ok (.getfield 84, 3) := by decide +kernel
theorem dX4_gainOf_71 : decode cX4_gainOf 71 = .ok (.aload_n 1, 1) := by decide +kernel
theorem dX4_gainOf_72 : decode cX4_gainOf 72 = .ok (.getfield 314, 3) := by decide +kernel
theorem dX4_gainOf_75 : decode cX4_gainOf 75 = .ok (.isub, 1) := by decide +kernel
theorem dX4_gainOf_76 : decode cX4_gainOf 76 = .ok (.i2l, 1) := by decide +kernel
theorem dX4_gainOf_77 : decode cX4_gainOf 77 = .ok (.invokestatic 426, 3) := by decide +kernel
theorem dX4_gainOf_80 : decode cX4_gainOf 80 = .ok (.ladd, 1) := by decide +kernel
theorem dX4_gainOf_81 : decode cX4_gainOf 81 = .ok (.lreturn, 1) := by decide +kernel
theorem dX4_gainOfRow_0 : decode cX4_gainOfRow 0 = .ok (.lload_n 0, 1) := by decide +kernel
theorem dX4_gainOfRow_1 : decode cX4_gainOfRow 1 = .ok (.lload_n 2, 1) := by decide +kernel
theorem dX4_gainOfRow_2 : decode cX4_gainOfRow 2 = .ok (.lmul, 1) := by decide +kernel
theorem dX4_gainOfRow_3 : decode cX4_gainOfRow 3 = .ok (.ldc2_w 430, 3) := by decide +kernel
theorem dX4_gainOfRow_6 : decode cX4_gainOfRow 6 = .ok (.lmul, 1) := by decide +kernel
theorem dX4_gainOfRow_7 : decode cX4_gainOfRow 7 = .ok (.ldc2_w 432, 3) := by decide +kernel
theorem dX4_gainOfRow_10 : decode cX4_gainOfRow 10 = .ok (.ldiv, 1) := by decide +kernel
theorem dX4_gainOfRow_11 : decode cX4_gainOfRow 11 = .ok (.lreturn, 1) := by decide +kernel
theorem dX4_offer_0 : decode cX4_offer 0 = .ok (.aload_n 0, 1) := by decide +kernel
theorem dX4_offer_1 : decode cX4_offer 1 = .ok (.ifnull 21, 3) := by decide +kernel
theorem dX4_offer_4 : decode cX4_offer 4 = .ok (.aload_n 0, 1) := by decide +kernel
theorem dX4_offer_5 : decode cX4_offer 5 = .ok (.aload_n 1, 1) := by decide +kernel
theorem dX4_offer_6 : decode cX4_offer 6 = .ok (.putfield 133, 3) := by decide +kernel
theorem dX4_offer_9 : decode cX4_offer 9 = .ok (.aload_n 0, 1) := by decide +kernel
theorem dX4_offer_10 : decode cX4_offer 10 = .ok (.aload_n 1, 1) := by decide +kernel
theorem dX4_offer_11 : decode cX4_offer 11 = .ok (.ifnonnull 7, 3) := by decide +kernel
theorem dX4_offer_14 : decode cX4_offer 14 = .ok (.iconst 0, 1) := by decide +kernel
theorem dX4_offer_15 : decode cX4_offer 15 = .ok (.goto 4, 3) := by decide +kernel
theorem dX4_offer_18 : decode cX4_offer 18 = .ok (.iload_n 2, 1) := by decide +kernel
theorem dX4_offer_19 : decode cX4_offer 19 = .ok (.putfield 140, 3) := by decide +kernel
theorem dX4_offer_22 : decode cX4_offer 22 = .ok (.return_, 1) := by decide +kernel
theorem dX4_ownerBehind_0 : decode cX4_ownerBehind 0 = .ok (.aconst_null, 1) := by decide +kernel
theorem dX4_ownerBehind_1 : decode cX4_ownerBehind 1 = .ok (.astore_n 3, 1) := by decide +kernel
theorem dX4_ownerBehind_2 : decode cX4_ownerBehind 2 = .ok (.aload_n 0, 1) := by decide +kernel
theorem dX4_ownerBehind_3 : decode cX4_ownerBehind 3 = .ok (.getfield 23, 3) := by decide +kernel
theorem dX4_ownerBehind_6 : decode cX4_ownerBehind 6 = .ok (.astore 4, 2) := by decide +kernel
theorem dX4_ownerBehind_8 : decode cX4_ownerBehind 8 = .ok (.aload 4, 2) := by decide +kernel
theorem dX4_ownerBehind_10 : decode cX4_ownerBehind 10 = .ok (.arraylength, 1) := by decide +kernel
theorem dX4_ownerBehind_11 : decode cX4_ownerBehind 11 = .ok (.istore 5, 2) := by decide +kernel
theorem dX4_ownerBehind_13 : decode cX4_ownerBehind 13 = .ok (.iconst 0, 1) := by decide +kernel
theorem dX4_ownerBehind_14 : decode cX4_ownerBehind 14 = .ok (.istore 6, 2) := by decide +kernel
theorem dX4_ownerBehind_16 : decode cX4_ownerBehind 16 = .ok (.iload 6, 2) := by decide +kernel
theorem dX4_ownerBehind_18 : decode cX4_ownerBehind 18 = .ok (.iload 5, 2) := by decide +kernel
theorem dX4_ownerBehind_20 : decode cX4_ownerBehind 20 = .ok (.if_icmp .ge 69, 3) := by decide +kernel
theorem dX4_ownerBehind_23 : decode cX4_ownerBehind 23 = .ok (.aload 4, 2) := by decide +kernel
theorem dX4_ownerBehind_25 : decode cX4_ownerBehind 25 = .ok (.iload 6, 2) := by decide +kernel
theorem dX4_ownerBehind_27 : decode cX4_ownerBehind 27 = .ok (.aaload, 1) := by decide +kernel
theorem dX4_ownerBehind_28 : decode cX4_ownerBehind 28 = .ok (.astore 7, 2) := by decide +kernel
theorem dX4_ownerBehind_30 : decode cX4_ownerBehind 30 = .ok (.aload 7, 2) := by decide +kernel
theorem dX4_ownerBehind_32 : decode cX4_ownerBehind 32 = .ok (.ifnull 51, 3) := by decide +kernel
theorem dX4_ownerBehind_35 : decode cX4_ownerBehind 35 = .ok (.aload 7, 2) := by decide +kernel
theorem dX4_ownerBehind_37 : decode cX4_ownerBehind 37 = .ok (.getfield 175, 3) := by decide +kernel
theorem dX4_ownerBehind_40 : decode cX4_ownerBehind 40 = .ok (.ifCond .ne 43, 3) := by decide +kernel
theorem dX4_ownerBehind_43 : decode cX4_ownerBehind 43 = .ok (.aload 7, 2) := by decide +kernel
theorem dX4_ownerBehind_45 : decode cX4_ownerBehind 45 = .ok (.getfield 178, 3) := by decide +kernel
theorem dX4_ownerBehind_48 : decode cX4_ownerBehind 48 = .ok (.aload_n 1, 1) := by decide +kernel
theorem dX4_ownerBehind_49 : decode cX4_ownerBehind 49 = .ok (.if_acmp .ne 34, 3) := by decide +kernel
theorem dX4_ownerBehind_52 : decode cX4_ownerBehind 52 = .ok (.aload 7, 2) := by decide +kernel
theorem dX4_ownerBehind_54 : decode cX4_ownerBehind 54 = .ok (.aload_n 2, 1) := by decide +kernel
theorem dX4_ownerBehind_55 : decode cX4_ownerBehind 55 = .ok (.invokestatic 434, 3) := by decide +kernel
theorem dX4_ownerBehind_58 : decode cX4_ownerBehind 58 = .ok (.ifCond .ne 6, 3) := by decide +kernel
theorem dX4_ownerBehind_61 : decode cX4_ownerBehind 61 = .ok (.goto 22, 3) := by decide +kernel
theorem dX4_ownerBehind_64 : decode cX4_ownerBehind 64 = .ok (.aload_n 3, 1) := by decide +kernel
theorem dX4_ownerBehind_65 : decode cX4_ownerBehind 65 = .ok (.ifnull 15, 3) := by decide +kernel
theorem dX4_ownerBehind_68 : decode cX4_ownerBehind 68 = .ok (.aload 7, 2) := by decide +kernel
theorem dX4_ownerBehind_70 : decode cX4_ownerBehind 70 = .ok (.getfield 190, 3) := by decide +kernel
theorem dX4_ownerBehind_73 : decode cX4_ownerBehind 73 = .ok (.aload_n 3, 1) := by decide +kernel
theorem dX4_ownerBehind_74 : decode cX4_ownerBehind 74 = .ok (.getfield 190, 3) := by decide +kernel
theorem dX4_ownerBehind_77 : decode cX4_ownerBehind 77 = .ok (.if_icmp .le 6, 3) := by decide +kernel
theorem dX4_ownerBehind_80 : decode cX4_ownerBehind 80 = .ok (.aload 7, 2) := by decide +kernel
theorem dX4_ownerBehind_82 : decode cX4_ownerBehind 82 = .ok (.astore_n 3, 1) := by decide +kernel
theorem dX4_ownerBehind_83 : decode cX4_ownerBehind 83 = .ok (.iinc 6 1, 3) := by decide +kernel
theorem dX4_ownerBehind_86 : decode cX4_ownerBehind 86 = .ok (.goto (-70), 3) := by decide +kernel
theorem dX4_ownerBehind_89 : decode cX4_ownerBehind 89 = .ok (.aload_n 3, 1) := by decide +kernel
theorem dX4_ownerBehind_90 : decode cX4_ownerBehind 90 = .ok (.areturn, 1) := by decide +kernel
theorem dX4_comesBehind_0 : decode cX4_comesBehind 0 = .ok (.aload_n 0, 1) := by decide +kernel
theorem dX4_comesBehind_1 : decode cX4_comesBehind 1 = .ok (.ifnull 7, 3) := by decide +kernel
theorem dX4_comesBehind_4 : decode cX4_comesBehind 4 = .ok (.aload_n 1, 1) := by decide +kernel
theorem dX4_comesBehind_5 : decode cX4_comesBehind 5 = .ok (.ifnonnull 13, 3) := by decide +kernel
theorem dX4_comesBehind_8 : decode cX4_comesBehind 8 = .ok (.aload_n 0, 1) := by decide +kernel
theorem dX4_comesBehind_9 : decode cX4_comesBehind 9 = .ok (.ifnull 7, 3) := by decide +kernel
theorem dX4_comesBehind_12 : decode cX4_comesBehind 12 = .ok (.iconst 1, 1) := by decide +kernel
theorem dX4_comesBehind_13 : decode cX4_comesBehind 13 = .ok (.goto 4, 3) := by decide +kernel
theorem dX4_comesBehind_16 : decode cX4_comesBehind 16 = .ok (.iconst 0, 1) := by decide +kernel
theorem dX4_comesBehind_17 : decode cX4_comesBehind 17 = .ok (.ireturn, 1) := by decide +kernel
theorem dX4_comesBehind_18 : decode cX4_comesBehind 18 = .ok (.aload_n 0, 1) := by decide +kernel
theorem dX4_comesBehind_19 : decode cX4_comesBehind 19 = .ok (.getfield 190, 3) := by decide +kernel
theorem dX4_comesBehind_22 : decode cX4_comesBehind 22 = .ok (.aload_n 1, 1) := by decide +kernel
theorem dX4_comesBehind_23 : decode cX4_comesBehind 23 = .ok (.getfield 190, 3) := by decide +kernel
theorem dX4_comesBehind_26 : decode cX4_comesBehind 26 = .ok (.if_icmp .lt 25, 3) := by decide +kernel
theorem dX4_comesBehind_29 : decode cX4_comesBehind 29 = .ok (.aload_n 0, 1) := by decide +kernel
theorem dX4_comesBehind_30 : decode cX4_comesBehind 30 = .ok (.getfield 190, 3) := by decide +kernel
theorem dX4_comesBehind_33 : decode cX4_comesBehind 33 = .ok (.aload_n 1, 1) := by decide +kernel
theorem dX4_comesBehind_34 : decode cX4_comesBehind 34 = .ok (.getfield 190, 3) := by decide +kernel
theorem dX4_comesBehind_37 : decode cX4_comesBehind 37 = .ok (.if_icmp .ne 18, 3) := by decide +kernel
theorem dX4_comesBehind_40 : decode cX4_comesBehind 40 = .ok (.aload_n 0, 1) := by decide +kernel
theorem dX4_comesBehind_41 : decode cX4_comesBehind 41 = .ok (.getfield 359, 3) := by decide +kernel
theorem dX4_comesBehind_44 : decode cX4_comesBehind 44 = .ok (.aload_n 1, 1) := by decide +kernel
theorem dX4_comesBehind_45 : decode cX4_comesBehind 45 = .ok (.getfield 359, 3) := by decide +kernel
theorem dX4_comesBehind_48 : decode cX4_comesBehind 48 = .ok (.if_icmp .le 7, 3) := by decide +kernel
theorem dX4_comesBehind_51 : decode cX4_comesBehind 51 = .ok (.iconst 1, 1) := by decide +kernel
theorem dX4_comesBehind_52 : decode cX4_comesBehind 52 = .ok (.goto 4, 3) := by decide +kernel
theorem dX4_comesBehind_55 : decode cX4_comesBehind 55 = .ok (.iconst 0, 1) := by decide +kernel
theorem dX4_comesBehind_56 : decode cX4_comesBehind 56 = .ok (.ireturn, 1) := by decide +kernel
theorem dJ9_max_7cf53_0 : decode cJ9_max_7cf53 0 = .ok (.iload_n 0, 1) := by decide +kernel
theorem dJ9_max_7cf53_1 : decode cJ9_max_7cf53 1 = .ok (.iload_n 1, 1) := by decide +kernel
theorem dJ9_max_7cf53_2 : decode cJ9_max_7cf53 2 = .ok (.if_icmp .lt 7, 3) := by decide +kernel
theorem dJ9_max_7cf53_5 : decode cJ9_max_7cf53 5 = .ok (.iload_n 0, 1) := by decide +kernel
theorem dJ9_max_7cf53_6 : decode cJ9_max_7cf53 6 = .ok (.goto 4, 3) := by decide +kernel
theorem dJ9_max_7cf53_9 : decode cJ9_max_7cf53 9 = .ok (.iload_n 1, 1) := by decide +kernel
theorem dJ9_max_7cf53_10 : decode cJ9_max_7cf53 10 = .ok (.ireturn, 1) := by decide +kernel
theorem dJ9_min_7cf53_0 : decode cJ9_min_7cf53 0 = .ok (.iload_n 0, 1) := by decide +kernel
theorem dJ9_min_7cf53_1 : decode cJ9_min_7cf53 1 = .ok (.iload_n 1, 1) := by decide +kernel
theorem dJ9_min_7cf53_2 : decode cJ9_min_7cf53 2 = .ok (.if_icmp .gt 7, 3) := by decide +kernel
theorem dJ9_min_7cf53_5 : decode cJ9_min_7cf53 5 = .ok (.iload_n 0, 1) := by decide +kernel
theorem dJ9_min_7cf53_6 : decode cJ9_min_7cf53 6 = .ok (.goto 4, 3) := by decide +kernel
theorem dJ9_min_7cf53_9 : decode cJ9_min_7cf53 9 = .ok (.iload_n 1, 1) := by decide +kernel
theorem dJ9_min_7cf53_10 : decode cJ9_min_7cf53 10 = .ok (.ireturn, 1) := by decide +kernel
theorem dL_up_0 : decode cL_up 0 = .ok (.iload_n 0, 1) := by decide +kernel
theorem dL_up_1 : decode cL_up 1 = .ok (.iconst 2, 1) := by decide +kernel
theorem dL_up_2 : decode cL_up 2 = .ok (.iushr, 1) := by decide +kernel
theorem dL_up_3 : decode cL_up 3 = .ok (.iload_n 1, 1) := by decide +kernel
theorem dL_up_4 : decode cL_up 4 = .ok (.irem, 1) := by decide +kernel
theorem dL_up_5 : decode cL_up 5 = .ok (.ireturn, 1) := by decide +kernel
theorem dL_cell_0 : decode cL_cell 0 = .ok (.aload_n 0, 1) := by decide +kernel
theorem dL_cell_1 : decode cL_cell 1 = .ok (.arraylength, 1) := by decide +kernel
theorem dL_cell_2 : decode cL_cell 2 = .ok (.ifCond .ne 7, 3) := by decide +kernel
theorem dL_cell_5 : decode cL_cell 5 = .ok (.iconst 0, 1) := by decide +kernel
theorem dL_cell_6 : decode cL_cell 6 = .ok (.goto 14, 3) := by decide +kernel
theorem dL_cell_9 : decode cL_cell 9 = .ok (.aload_n 0, 1) := by decide +kernel
theorem dL_cell_10 : decode cL_cell 10 = .ok (.iload_n 1, 1) := by decide +kernel
theorem dL_cell_11 : decode cL_cell 11 = .ok (.aload_n 0, 1) := by decide +kernel
theorem dL_cell_12 : decode cL_cell 12 = .ok (.arraylength, 1) := by decide +kernel
theorem dL_cell_13 : decode cL_cell 13 = .ok (.irem, 1) := by decide +kernel
theorem dL_cell_14 : decode cL_cell 14 = .ok (.iaload, 1) := by decide +kernel
theorem dL_cell_15 : decode cL_cell 15 = .ok (.bipush 31, 2) := by decide +kernel
theorem dL_cell_17 : decode cL_cell 17 = .ok (.iload_n 1, 1) := by decide +kernel
theorem dL_cell_18 : decode cL_cell 18 = .ok (.imul, 1) := by decide +kernel
theorem dL_cell_19 : decode cL_cell 19 = .ok (.iadd, 1) := by decide +kernel
theorem dL_cell_20 : decode cL_cell 20 = .ok (.ireturn, 1) := by decide +kernel
theorem dL_plot_0 : decode cL_plot 0 = .ok (.iload_n 0, 1) := by decide +kernel
theorem dL_plot_1 : decode cL_plot 1 = .ok (.ifCond .ne 8, 3) := by decide +kernel
theorem dL_plot_4 : decode cL_plot 4 = .ok (.bipush 14, 2) := by decide +kernel
theorem dL_plot_6 : decode cL_plot 6 = .ok (.goto 25, 3) := by decide +kernel
theorem dL_plot_9 : decode cL_plot 9 = .ok (.iload_n 0, 1) := by decide +kernel
theorem dL_plot_10 : decode cL_plot 10 = .ok (.iconst 1, 1) := by decide +kernel
theorem dL_plot_11 : decode cL_plot 11 = .ok (.if_icmp .ne 8, 3) := by decide +kernel
theorem dL_plot_14 : decode cL_plot 14 = .ok (.bipush 15, 2) := by decide +kernel
theorem dL_plot_16 : decode cL_plot 16 = .ok (.goto 15, 3) := by decide +kernel
theorem dL_plot_19 : decode cL_plot 19 = .ok (.iload_n 0, 1) := by decide +kernel
theorem dL_plot_20 : decode cL_plot 20 = .ok (.iconst 2, 1) := by decide +kernel
theorem dL_plot_21 : decode cL_plot 21 = .ok (.if_icmp .ne 8, 3) := by decide +kernel
theorem dL_plot_24 : decode cL_plot 24 = .ok (.bipush 20, 2) := by decide +kernel
theorem dL_plot_26 : decode cL_plot 26 = .ok (.goto 5, 3) := by decide +kernel
theorem dL_plot_29 : decode cL_plot 29 = .ok (.bipush 35, 2) := by decide +kernel
theorem dL_plot_31 : decode cL_plot 31 = .ok (.ireturn, 1) := by decide +kernel
theorem dL_told_0 : decode cL_told 0 = .ok (.iload_n 1, 1) := by decide +kernel
theorem dL_told_1 : decode cL_told 1 = .ok (.tableswitch 202 0 14 #[75, 85, 97, 107, 117, 124, 131, 148, 155, 162, 169, 176, 183, 189, 195], 75) := by decide +kernel
theorem dL_told_76 : decode cL_told 76 = .ok (.aload_n 0, 1) := by decide +kernel
theorem dL_told_77 : decode cL_told 77 = .ok (.iload_n 2, 1) := by decide +kernel
theorem dL_told_78 : decode cL_told 78 = .ok (.iload_n 3, 1) := by decide +kernel
theorem dL_told_79 : decode cL_told 79 = .ok (.iload 4, 2) := by decide +kernel
theorem dL_told_81 : decode cL_told 81 = .ok (.invokevirtual 7, 3) := by decide +kernel
theorem dL_told_84 : decode cL_told 84 = .ok (.i2l, 1) := by decide +kernel
theorem dL_told_85 : decode cL_told 85 = .ok (.lreturn, 1) := by decide +kernel
theorem dL_told_86 : decode cL_told 86 = .ok (.aload_n 0, 1) := by decide +kernel
theorem dL_told_87 : decode cL_told 87 = .ok (.iload_n 2, 1) := by decide +kernel
theorem dL_told_88 : decode cL_told 88 = .ok (.iload_n 3, 1) := by decide +kernel
theorem dL_told_89 : decode cL_told 89 = .ok (.iload 4, 2) := by decide +kernel
theorem dL_told_91 : decode cL_told 91 = .ok (.iload 5, 2) := by decide +kernel
theorem dL_told_93 : decode cL_told 93 = .ok (.invokevirtual 13, 3) := by decide +kernel
theorem dL_told_96 : decode cL_told 96 = .ok (.i2l, 1) := by decide +kernel
theorem dL_told_97 : decode cL_told 97 = .ok (.lreturn, 1) := by decide +kernel
theorem dL_told_98 : decode cL_told 98 = .ok (.aload_n 0, 1) := by decide +kernel
theorem dL_told_99 : decode cL_told 99 = .ok (.iload_n 2, 1) := by decide +kernel
theorem dL_told_100 : decode cL_told 100 = .ok (.iload_n 3, 1) := by decide +kernel
theorem dL_told_101 : decode cL_told 101 = .ok (.iload 4, 2) := by decide +kernel
theorem dL_told_103 : decode cL_told 103 = .ok (.invokevirtual 17, 3) := by decide +kernel
theorem dL_told_106 : decode cL_told 106 = .ok (.i2l, 1) := by decide +kernel
theorem dL_told_107 : decode cL_told 107 = .ok (.lreturn, 1) := by decide +kernel
theorem dL_told_108 : decode cL_told 108 = .ok (.aload_n 0, 1) := by decide +kernel
theorem dL_told_109 : decode cL_told 109 = .ok (.iload_n 2, 1) := by decide +kernel
theorem dL_told_110 : decode cL_told 110 = .ok (.iload_n 3, 1) := by decide +kernel
theorem dL_told_111 : decode cL_told 111 = .ok (.iload 4, 2) := by decide +kernel
theorem dL_told_113 : decode cL_told 113 = .ok (.invokevirtual 20, 3) := by decide +kernel
theorem dL_told_116 : decode cL_told 116 = .ok (.i2l, 1) := by decide +kernel
theorem dL_told_117 : decode cL_told 117 = .ok (.lreturn, 1) := by decide +kernel
theorem dL_told_118 : decode cL_told 118 = .ok (.aload_n 0, 1) := by decide +kernel
theorem dL_told_119 : decode cL_told 119 = .ok (.iload_n 2, 1) := by decide +kernel
theorem dL_told_120 : decode cL_told 120 = .ok (.invokevirtual 23, 3) := by decide +kernel
theorem dL_told_123 : decode cL_told 123 = .ok (.i2l, 1) := by decide +kernel
theorem dL_told_124 : decode cL_told 124 = .ok (.lreturn, 1) := by decide +kernel
theorem dL_told_125 : decode cL_told 125 = .ok (.aload_n 0, 1) := by decide +kernel
theorem dL_told_126 : decode cL_told 126 = .ok (.iload_n 2, 1) := by decide +kernel
theorem dL_told_127 : decode cL_told 127 = .ok (.invokevirtual 27, 3) := by decide +kernel
theorem dL_told_130 : decode cL_told 130 = .ok (.i2l, 1) := by decide +kernel
theorem dL_told_131 : decode cL_told 131 = .ok (.lreturn, 1) := by decide +kernel
theorem dL_told_132 : decode cL_told 132 = .ok (.aload_n 0, 1) := by decide +kernel
theorem dL_told_133 : decode cL_told 133 = .ok (.iload_n 2, 1) := by decide +kernel
theorem dL_told_134 : decode cL_told 134 = .ok (.iload_n 3, 1) := by decide +kernel
theorem dL_told_135 : decode cL_told 135 = .ok (.iconst 1, 1) := by decide +kernel
theorem dL_told_136 : decode cL_told 136 = .ok (.if_icmp .ne 7, 3) := by decide +kernel
theorem dL_told_139 : decode cL_told 139 = .ok (.iconst 1, 1) := by decide +kernel
theorem dL_told_140 : decode cL_told 140 = .ok (.goto 4, 3) := by decide +kernel
theorem dL_told_143 : decode cL_told 143 = .ok (.iconst 0, 1) := by decide +kernel
theorem dL_told_144 : decode cL_told 144 = .ok (.invokevirtual 30, 3) := by decide +kernel
theorem dL_told_147 : decode cL_told 147 = .ok (.i2l, 1) := by decide +kernel
theorem dL_told_148 : decode cL_told 148 = .ok (.lreturn, 1) := by decide +kernel
theorem dL_told_149 : decode cL_told 149 = .ok (.aload_n 0, 1) := by decide +kernel
theorem dL_told_150 : decode cL_told 150 = .ok (.iload_n 2, 1) := by decide +kernel
theorem dL_told_151 : decode cL_told 151 = .ok (.invokevirtual 34, 3) := by decide +kernel
theorem dL_told_154 : decode cL_told 154 = .ok (.i2l, 1) := by decide +kernel
theorem dL_told_155 : decode cL_told 155 = .ok (.lreturn, 1) := by decide +kernel
theorem dL_told_156 : decode cL_told 156 = .ok (.aload_n 0, 1) := by decide +kernel
theorem dL_told_157 : decode cL_told 157 = .ok (.iload_n 2, 1) := by decide +kernel
theorem dL_told_158 : decode cL_told 158 = .ok (.invokevirtual 37, 3) := by decide +kernel
theorem dL_told_161 : decode cL_told 161 = .ok (.i2l, 1) := by decide +kernel
theorem dL_told_162 : decode cL_told 162 = .ok (.lreturn, 1) := by decide +kernel
theorem dL_told_163 : decode cL_told 163 = .ok (.aload_n 0, 1) := by decide +kernel
theorem dL_told_164 : decode cL_told 164 = .ok (.iload_n 2, 1) := by decide +kernel
theorem dL_told_165 : decode cL_told 165 = .ok (.invokevirtual 40, 3) := by decide +kernel
theorem dL_told_168 : decode cL_told 168 = .ok (.i2l, 1) := by decide +kernel
theorem dL_told_169 : decode cL_told 169 = .ok (.lreturn, 1) := by decide +kernel
theorem dL_told_170 : decode cL_told 170 = .ok (.aload_n 0, 1) := by decide +kernel
theorem dL_told_171 : decode cL_told 171 = .ok (.iload_n 2, 1) := by decide +kernel
theorem dL_told_172 : decode cL_told 172 = .ok (.invokevirtual 43, 3) := by decide +kernel
theorem dL_told_175 : decode cL_told 175 = .ok (.i2l, 1) := by decide +kernel
theorem dL_told_176 : decode cL_told 176 = .ok (.lreturn, 1) := by decide +kernel
theorem dL_told_177 : decode cL_told 177 = .ok (.aload_n 0, 1) := by decide +kernel
theorem dL_told_178 : decode cL_told 178 = .ok (.iload_n 2, 1) := by decide +kernel
theorem dL_told_179 : decode cL_told 179 = .ok (.invokevirtual 46, 3) := by decide +kernel
theorem dL_told_182 : decode cL_told 182 = .ok (.i2l, 1) := by decide +kernel
theorem dL_told_183 : decode cL_told 183 = .ok (.lreturn, 1) := by decide +kernel
theorem dL_told_184 : decode cL_told 184 = .ok (.aload_n 0, 1) := by decide +kernel
theorem dL_told_185 : decode cL_told 185 = .ok (.iload_n 2, 1) := by decide +kernel
theorem dL_told_186 : decode cL_told 186 = .ok (.invokevirtual 49, 3) := by decide +kernel
theorem dL_told_189 : decode cL_told 189 = .ok (.lreturn, 1) := by decide +kernel
theorem dL_told_190 : decode cL_told 190 = .ok (.aload_n 0, 1) := by decide +kernel
theorem dL_told_191 : decode cL_told 191 = .ok (.iload_n 2, 1) := by decide +kernel
theorem dL_told_192 : decode cL_told 192 = .ok (.invokevirtual 53, 3) := by decide +kernel
theorem dL_told_195 : decode cL_told 195 = .ok (.lreturn, 1) := by decide +kernel
theorem dL_told_196 : decode cL_told 196 = .ok (.aload_n 0, 1) := by decide +kernel
theorem dL_told_197 : decode cL_told 197 = .ok (.iload_n 2, 1) := by decide +kernel
theorem dL_told_198 : decode cL_told 198 = .ok (.invokevirtual 56, 3) := by decide +kernel
theorem dL_told_201 : decode cL_told 201 = .ok (.i2l, 1) := by decide +kernel
theorem dL_told_202 : decode cL_told 202 = .ok (.lreturn, 1) := by decide +kernel
theorem dL_told_203 : decode cL_told 203 = .ok (.aload_n 0, 1) := by decide +kernel
theorem dL_told_204 : decode cL_told 204 = .ok (.iload_n 2, 1) := by decide +kernel
theorem dL_told_205 : decode cL_told 205 = .ok (.invokevirtual 59, 3) := by decide +kernel
theorem dL_told_208 : decode cL_told 208 = .ok (.i2l, 1) := by decide +kernel
theorem dL_told_209 : decode cL_told 209 = .ok (.lreturn, 1) := by decide +kernel
theorem dL_act_0 : decode cL_act 0 = .ok (.aload_n 0, 1) := by decide +kernel
theorem dL_act_1 : decode cL_act 1 = .ok (.iload_n 1, 1) := by decide +kernel
theorem dL_act_2 : decode cL_act 2 = .ok (.iload_n 2, 1) := by decide +kernel
theorem dL_act_3 : decode cL_act 3 = .ok (.iload_n 3, 1) := by decide +kernel
theorem dL_act_4 : decode cL_act 4 = .ok (.iload 4, 2) := by decide +kernel
theorem dL_act_6 : decode cL_act 6 = .ok (.iload 5, 2) := by decide +kernel
theorem dL_act_8 : decode cL_act 8 = .ok (.invokestatic 62, 3) := by decide +kernel
theorem dL_act_11 : decode cL_act 11 = .ok (.lreturn, 1) := by decide +kernel
theorem dL_act_12 : decode cL_act 12 = .ok (.astore 6, 2) := by decide +kernel
theorem dL_act_14 : decode cL_act 14 = .ok (.ldc2_w 70, 3) := by decide +kernel
theorem dL_act_17 : decode cL_act 17 = .ok (.lreturn, 1) := by decide +kernel
theorem dL_act_18 : decode cL_act 18 = .ok (.astore 6, 2) := by decide +kernel
theorem dL_act_20 : decode cL_act 20 = .ok (.ldc2_w 74, 3) := by decide +kernel
theorem dL_act_23 : decode cL_act 23 = .ok (.lreturn, 1) := by decide +kernel
theorem dL_act_24 : decode cL_act 24 = .ok (.astore 6, 2) := by decide +kernel
theorem dL_act_26 : decode cL_act 26 = .ok (.ldc2_w 78, 3) := by decide +kernel
theorem dL_act_29 : decode cL_act 29 = .ok (.lreturn, 1) := by decide +kernel
theorem dL_stops_0 : decode cL_stops 0 = .ok (.iconst 0, 1) := by decide +kernel
theorem dL_stops_1 : decode cL_stops 1 = .ok (.istore 8, 2) := by decide +kernel
theorem dL_stops_3 : decode cL_stops 3 = .ok (.iload 8, 2) := by decide +kernel
theorem dL_stops_5 : decode cL_stops 5 = .ok (.iload 5, 2) := by decide +kernel
theorem dL_stops_7 : decode cL_stops 7 = .ok (.if_icmp .ge 101, 3) := by decide +kernel
theorem dL_stops_10 : decode cL_stops 10 = .ok (.bipush 8, 2) := by decide +kernel
theorem dL_stops_12 : decode cL_stops 12 = .ok (.aload_n 1, 1) := by decide +kernel
theorem dL_stops_13 : decode cL_stops 13 = .ok (.bipush 24, 2) := by decide +kernel
theorem dL_stops_15 : decode cL_stops 15 = .ok (.iload 8, 2) := by decide +kernel
theorem dL_stops_17 : decode cL_stops 17 = .ok (.iadd, 1) := by decide +kernel
theorem dL_stops_18 : decode cL_stops 18 = .ok (.iaload, 1) := by decide +kernel
theorem dL_stops_19 : decode cL_stops 19 = .ok (.imul, 1) := by decide +kernel
theorem dL_stops_20 : decode cL_stops 20 = .ok (.istore 9, 2) := by decide +kernel
theorem dL_stops_22 : decode cL_stops 22 = .ok (.aload_n 0, 1) := by decide +kernel
theorem dL_stops_23 : decode cL_stops 23 = .ok (.iload 9, 2) := by decide +kernel
theorem dL_stops_25 : decode cL_stops 25 = .ok (.iconst 2, 1) := by decide +kernel
theorem dL_stops_26 : decode cL_stops 26 = .ok (.iadd, 1) := by decide +kernel
theorem dL_stops_27 : decode cL_stops 27 = .ok (.iaload, 1) := by decide +kernel
theorem dL_stops_28 : decode cL_stops 28 = .ok (.ifCond .ne 35, 3) := by decide +kernel
theorem dL_stops_31 : decode cL_stops 31 = .ok (.aload_n 0, 1) := by decide +kernel
theorem dL_stops_32 : decode cL_stops 32 = .ok (.iload 9, 2) := by decide +kernel
theorem dL_stops_34 : decode cL_stops 34 = .ok (.iconst 3, 1) := by decide +kernel
theorem dL_stops_35 : decode cL_stops 35 = .ok (.iadd, 1) := by decide +kernel
theorem dL_stops_36 : decode cL_stops 36 = .ok (.iaload, 1) := by decide +kernel
theorem dL_stops_37 : decode cL_stops 37 = .ok (.iload 6, 2) := by decide +kernel
theorem dL_stops_39 : decode cL_stops 39 = .ok (.if_icmp .ne 24, 3) := by decide +kernel
theorem dL_stops_42 : decode cL_stops 42 = .ok (.aload_n 1, 1) := by decide +kernel
theorem dL_stops_43 : decode cL_stops 43 = .ok (.iload 8, 2) := by decide +kernel
theorem dL_stops_45 : decode cL_stops 45 = .ok (.iaload, 1) := by decide +kernel
theorem dL_stops_46 : decode cL_stops 46 = .ok (.iconst 1, 1) := by decide +kernel
theorem dL_stops_47 : decode cL_stops 47 = .ok (.if_icmp .ne 12, 3) := by decide +kernel
theorem dL_stops_50 : decode cL_stops 50 = .ok (.aload_n 2, 1) := by decide +kernel
theorem dL_stops_51 : decode cL_stops 51 = .ok (.iload 8, 2) := by decide +kernel
theorem dL_stops_53 : decode cL_stops 53 = .ok (.iaload, 1) := by decide +kernel
theorem dL_stops_54 : decode cL_stops 54 = .ok (.iload 7, 2) := by decide +kernel
theorem dL_stops_56 : decode cL_stops 56 = .ok (.if_icmp .le 7, 3) := by decide +kernel
theorem dL_stops_59 : decode cL_stops 59 = .ok (.iconst 1, 1) := by decide +kernel
theorem dL_stops_60 : decode cL_stops 60 = .ok (.goto 4, 3) := by decide +kernel
theorem dL_stops_63 : decode cL_stops 63 = .ok (.iconst 0, 1) := by decide +kernel
theorem dL_stops_64 : decode cL_stops 64 = .ok (.istore 10, 2) := by decide +kernel
theorem dL_stops_66 : decode cL_stops 66 = .ok (.iload 10, 2) := by decide +kernel
theorem dL_stops_68 : decode cL_stops 68 = .ok (.ifCond .eq 34, 3) := by decide +kernel
theorem dL_stops_71 : decode cL_stops 71 = .ok (.aload_n 3, 1) := by decide +kernel
theorem dL_stops_72 : decode cL_stops 72 = .ok (.iload 8, 2) := by decide +kernel
theorem dL_stops_74 : decode cL_stops 74 = .ok (.iaload, 1) := by decide +kernel
theorem dL_stops_75 : decode cL_stops 75 = .ok (.ifCond .lt 24, 3) := by decide +kernel
theorem dL_stops_78 : decode cL_stops 78 = .ok (.iload 7, 2) := by decide +kernel
theorem dL_stops_80 : decode cL_stops 80 = .ok (.aload_n 3, 1) := by decide +kernel
theorem dL_stops_81 : decode cL_stops 81 = .ok (.iload 8, 2) := by decide +kernel
theorem dL_stops_83 : decode cL_stops 83 = .ok (.iaload, 1) := by decide +kernel
theorem dL_stops_84 : decode cL_stops 84 = .ok (.isub, 1) := by decide +kernel
theorem dL_stops_85 : decode cL_stops 85 = .ok (.bipush 21, 2) := by decide +kernel
theorem dL_stops_87 : decode cL_stops 87 = .ok (.if_icmp .lt 12, 3) := by decide +kernel
theorem dL_stops_90 : decode cL_stops 90 = .ok (.aload 4, 2) := by decide +kernel
theorem dL_stops_92 : decode cL_stops 92 = .ok (.iload 8, 2) := by decide +kernel
theorem dL_stops_94 : decode cL_stops 94 = .ok (.iaload, 1) := by decide +kernel
theorem dL_stops_95 : decode cL_stops 95 = .ok (.iconst 1, 1) := by decide +kernel
theorem dL_stops_96 : decode cL_stops 96 = .ok (.if_icmp .ne 6, 3) := by decide +kernel
theorem dL_stops_99 : decode cL_stops 99 = .ok (.iload 8, 2) := by decide +kernel
theorem dL_stops_101 : decode cL_stops 101 = .ok (.ireturn, 1) := by decide +kernel
theorem dL_stops_102 : decode cL_stops 102 = .ok (.iinc 8 1, 3) := by decide +kernel
theorem dL_stops_105 : decode cL_stops 105 = .ok (.goto (-102), 3) := by decide +kernel
theorem dL_stops_108 : decode cL_stops 108 = .ok (.iconst (-1), 1) := by decide +kernel
theorem dL_stops_109 : decode cL_stops 109 = .ok (.ireturn, 1) := by decide +kernel
theorem dL_needs_0 : decode cL_needs 0 = .ok (.iconst 0, 1) := by decide +kernel
theorem dL_needs_1 : decode cL_needs 1 = .ok (.istore_n 3, 1) := by decide +kernel
theorem dL_needs_2 : decode cL_needs 2 = .ok (.iconst 0, 1) := by decide +kernel
theorem dL_needs_3 : decode cL_needs 3 = .ok (.istore 4, 2) := by decide +kernel
theorem dL_needs_5 : decode cL_needs 5 = .ok (.iload 4, 2) := by decide +kernel
theorem dL_needs_7 : decode cL_needs 7 = .ok (.iconst 4, 1) := by decide +kernel
theorem dL_needs_8 : decode cL_needs 8 = .ok (.if_icmp .ge 46, 3) := by decide +kernel
theorem dL_needs_11 : decode cL_needs 11 = .ok (.iload_n 3, 1) := by decide +kernel
theorem dL_needs_12 : decode cL_needs 12 = .ok (.aload_n 0, 1) := by decide +kernel
theorem dL_needs_13 : decode cL_needs 13 = .ok (.bipush 8, 2) := by decide +kernel
theorem dL_needs_15 : decode cL_needs 15 = .ok (.iload 4, 2) := by decide +kernel
theorem dL_needs_17 : decode cL_needs 17 = .ok (.imul, 1) := by decide +kernel
theorem dL_needs_18 : decode cL_needs 18 = .ok (.iconst 3, 1) := by decide +kernel
theorem dL_needs_19 : decode cL_needs 19 = .ok (.iadd, 1) := by decide +kernel
theorem dL_needs_20 : decode cL_needs 20 = .ok (.iaload, 1) := by decide +kernel
theorem dL_needs_21 : decode cL_needs 21 = .ok (.iload_n 1, 1) := by decide +kernel
theorem dL_needs_22 : decode cL_needs 22 = .ok (.if_icmp .ne 23, 3) := by decide +kernel
theorem dL_needs_25 : decode cL_needs 25 = .ok (.iload_n 2, 1) := by decide +kernel
theorem dL_needs_26 : decode cL_needs 26 = .ok (.ifCond .eq 15, 3) := by decide +kernel
theorem dL_needs_29 : decode cL_needs 29 = .ok (.aload_n 0, 1) := by decide +kernel
theorem dL_needs_30 : decode cL_needs 30 = .ok (.bipush 8, 2) := by decide +kernel
theorem dL_needs_32 : decode cL_needs 32 = .ok (.iload 4, 2) := by decide +kernel
theorem dL_needs_34 : decode cL_needs 34 = .ok (.imul, 1) := by decide +kernel
theorem dL_needs_35 : decode cL_needs 35 = .ok (.iconst 2, 1) := by decide +kernel
theorem dL_needs_36 : decode cL_needs 36 = .ok (.iadd, 1) := by decide +kernel
theorem dL_needs_37 : decode cL_needs 37 = .ok (.iaload, 1) := by decide +kernel
theorem dL_needs_38 : decode cL_needs 38 = .ok (.ifCond .ne 7, 3) := by decide +kernel
theorem dL_needs_41 : decode cL_needs 41 = .ok (.iconst 1, 1) := by decide +kernel
theorem dL_needs_42 : decode cL_needs 42 = .ok (.goto 4, 3) := by decide +kernel
theorem dL_needs_45 : decode cL_needs 45 = .ok (.iconst 0, 1) := by decide +kernel
theorem dL_needs_46 : decode cL_needs 46 = .ok (.iadd, 1) := by decide +kernel
theorem dL_needs_47 : decode cL_needs 47 = .ok (.istore_n 3, 1) := by decide +kernel
theorem dL_needs_48 : decode cL_needs 48 = .ok (.iinc 4 1, 3) := by decide +kernel
theorem dL_needs_51 : decode cL_needs 51 = .ok (.goto (-46), 3) := by decide +kernel
theorem dL_needs_54 : decode cL_needs 54 = .ok (.iload_n 3, 1) := by decide +kernel
theorem dL_needs_55 : decode cL_needs 55 = .ok (.ireturn, 1) := by decide +kernel
theorem dL_opens_0 : decode cL_opens 0 = .ok (.iconst 0, 1) := by decide +kernel
theorem dL_opens_1 : decode cL_opens 1 = .ok (.istore 5, 2) := by decide +kernel
theorem dL_opens_3 : decode cL_opens 3 = .ok (.iconst 0, 1) := by decide +kernel
theorem dL_opens_4 : decode cL_opens 4 = .ok (.istore 6, 2) := by decide +kernel
theorem dL_opens_6 : decode cL_opens 6 = .ok (.iload 6, 2) := by decide +kernel
theorem dL_opens_8 : decode cL_opens 8 = .ok (.iload_n 3, 1) := by decide +kernel
theorem dL_opens_9 : decode cL_opens 9 = .ok (.if_icmp .ge 59, 3) := by decide +kernel
theorem dL_opens_12 : decode cL_opens 12 = .ok (.bipush 8, 2) := by decide +kernel
theorem dL_opens_14 : decode cL_opens 14 = .ok (.aload_n 1, 1) := by decide +kernel
theorem dL_opens_15 : decode cL_opens 15 = .ok (.bipush 24, 2) := by decide +kernel
theorem dL_opens_17 : decode cL_opens 17 = .ok (.iload 6, 2) := by decide +kernel
theorem dL_opens_19 : decode cL_opens 19 = .ok (.iadd, 1) := by decide +kernel
theorem dL_opens_20 : decode cL_opens 20 = .ok (.iaload, 1) := by decide +kernel
theorem dL_opens_21 : decode cL_opens 21 = .ok (.imul, 1) := by decide +kernel
theorem dL_opens_22 : decode cL_opens 22 = .ok (.istore 7, 2) := by decide +kernel
theorem dL_opens_24 : decode cL_opens 24 = .ok (.iload 5, 2) := by decide +kernel
theorem dL_opens_26 : decode cL_opens 26 = .ok (.aload_n 2, 1) := by decide +kernel
theorem dL_opens_27 : decode cL_opens 27 = .ok (.iload 6, 2) := by decide +kernel
theorem dL_opens_29 : decode cL_opens 29 = .ok (.iaload, 1) := by decide +kernel
theorem dL_opens_30 : decode cL_opens 30 = .ok (.iconst 1, 1) := by decide +kernel
theorem dL_opens_31 : decode cL_opens 31 = .ok (.if_icmp .ne 27, 3) := by decide +kernel
theorem dL_opens_34 : decode cL_opens 34 = .ok (.aload_n 0, 1) := by decide +kernel
theorem dL_opens_35 : decode cL_opens 35 = .ok (.iload 7, 2) := by decide +kernel
theorem dL_opens_37 : decode cL_opens 37 = .ok (.iconst 2, 1) := by decide +kernel
theorem dL_opens_38 : decode cL_opens 38 = .ok (.iadd, 1) := by decide +kernel
theorem dL_opens_39 : decode cL_opens 39 = .ok (.iaload, 1) := by decide +kernel
theorem dL_opens_40 : decode cL_opens 40 = .ok (.ifCond .ne 18, 3) := by decide +kernel
theorem dL_opens_43 : decode cL_opens 43 = .ok (.aload_n 0, 1) := by decide +kernel
theorem dL_opens_44 : decode cL_opens 44 = .ok (.iload 7, 2) := by decide +kernel
theorem dL_opens_46 : decode cL_opens 46 = .ok (.iconst 3, 1) := by decide +kernel
theorem dL_opens_47 : decode cL_opens 47 = .ok (.iadd, 1) := by decide +kernel
theorem dL_opens_48 : decode cL_opens 48 = .ok (.iaload, 1) := by decide +kernel
theorem dL_opens_49 : decode cL_opens 49 = .ok (.iload 4, 2) := by decide +kernel
theorem dL_opens_51 : decode cL_opens 51 = .ok (.if_icmp .ne 7, 3) := by decide +kernel
theorem dL_opens_54 : decode cL_opens 54 = .ok (.iconst 1, 1) := by decide +kernel
theorem dL_opens_55 : decode cL_opens 55 = .ok (.goto 4, 3) := by decide +kernel
theorem dL_opens_58 : decode cL_opens 58 = .ok (.iconst 0, 1) := by decide +kernel
theorem dL_opens_59 : decode cL_opens 59 = .ok (.iadd, 1) := by decide +kernel
theorem dL_opens_60 : decode cL_opens 60 = .ok (.istore 5, 2) := by decide +kernel
theorem dL_opens_62 : decode cL_opens 62 = .ok (.iinc 6 1, 3) := by decide +kernel
theorem dL_opens_65 : decode cL_opens 65 = .ok (.goto (-59), 3) := by decide +kernel
theorem dL_opens_68 : decode cL_opens 68 = .ok (.iload 5, 2) := by decide +kernel
theorem dL_opens_70 : decode cL_opens 70 = .ok (.ireturn, 1) := by decide +kernel
theorem dL_forget_0 : decode cL_forget 0 = .ok (.aload_n 0, 1) := by decide +kernel
theorem dL_forget_1 : decode cL_forget 1 = .ok (.bipush 8, 2) := by decide +kernel
theorem dL_forget_3 : decode cL_forget 3 = .ok (.iload 5, 2) := by decide +kernel
theorem dL_forget_5 : decode cL_forget 5 = .ok (.imul, 1) := by decide +kernel
theorem dL_forget_6 : decode cL_forget 6 = .ok (.iconst 3, 1) := by decide +kernel
theorem dL_forget_7 : decode cL_forget 7 = .ok (.iadd, 1) := by decide +kernel
theorem dL_forget_8 : decode cL_forget 8 = .ok (.iconst (-1), 1) := by decide +kernel
theorem dL_forget_9 : decode cL_forget 9 = .ok (.iastore, 1) := by decide +kernel
theorem dL_forget_10 : decode cL_forget 10 = .ok (.aload_n 0, 1) := by decide +kernel
theorem dL_forget_11 : decode cL_forget 11 = .ok (.bipush 8, 2) := by decide +kernel
theorem dL_forget_13 : decode cL_forget 13 = .ok (.iload 5, 2) := by decide +kernel
theorem dL_forget_15 : decode cL_forget 15 = .ok (.imul, 1) := by decide +kernel
theorem dL_forget_16 : decode cL_forget 16 = .ok (.iconst 4, 1) := by decide +kernel
theorem dL_forget_17 : decode cL_forget 17 = .ok (.iadd, 1) := by decide +kernel
theorem dL_forget_18 : decode cL_forget 18 = .ok (.iconst 0, 1) := by decide +kernel
theorem dL_forget_19 : decode cL_forget 19 = .ok (.iastore, 1) := by decide +kernel
theorem dL_forget_20 : decode cL_forget 20 = .ok (.iconst 0, 1) := by decide +kernel
theorem dL_forget_21 : decode cL_forget 21 = .ok (.istore 6, 2) := by decide +kernel
theorem dL_forget_23 : decode cL_forget 23 = .ok (.iload 6, 2) := by decide +kernel
theorem dL_forget_25 : decode cL_forget 25 = .ok (.iload 4, 2) := by decide +kernel
theorem dL_forget_27 : decode cL_forget 27 = .ok (.if_icmp .ge 31, 3) := by decide +kernel
theorem dL_forget_30 : decode cL_forget 30 = .ok (.aload_n 1, 1) := by decide +kernel
theorem dL_forget_31 : decode cL_forget 31 = .ok (.bipush 24, 2) := by decide +kernel
theorem dL_forget_33 : decode cL_forget 33 = .ok (.iload 6, 2) := by decide +kernel
theorem dL_forget_35 : decode cL_forget 35 = .ok (.iadd, 1) := by decide +kernel
theorem dL_forget_36 : decode cL_forget 36 = .ok (.iaload, 1) := by decide +kernel
theorem dL_forget_37 : decode cL_forget 37 = .ok (.iload 5, 2) := by decide +kernel
theorem dL_forget_39 : decode cL_forget 39 = .ok (.if_icmp .ne 13, 3) := by decide +kernel
theorem dL_forget_42 : decode cL_forget 42 = .ok (.aload_n 2, 1) := by decide +kernel
theorem dL_forget_43 : decode cL_forget 43 = .ok (.iload 6, 2) := by decide +kernel
theorem dL_forget_45 : decode cL_forget 45 = .ok (.iconst (-1), 1) := by decide +kernel
theorem dL_forget_46 : decode cL_forget 46 = .ok (.iastore, 1) := by decide +kernel
theorem dL_forget_47 : decode cL_forget 47 = .ok (.aload_n 3, 1) := by decide +kernel
theorem dL_forget_48 : decode cL_forget 48 = .ok (.iload 6, 2) := by decide +kernel
theorem dL_forget_50 : decode cL_forget 50 = .ok (.iconst 0, 1) := by decide +kernel
theorem dL_forget_51 : decode cL_forget 51 = .ok (.iastore, 1) := by decide +kernel
theorem dL_forget_52 : decode cL_forget 52 = .ok (.iinc 6 1, 3) := by decide +kernel
theorem dL_forget_55 : decode cL_forget 55 = .ok (.goto (-32), 3) := by decide +kernel
theorem dL_forget_58 : decode cL_forget 58 = .ok (.return_, 1) := by decide +kernel
theorem dL_next_0 : decode cL_next 0 = .ok (.iconst (-1), 1) := by decide +kernel
theorem dL_next_1 : decode cL_next 1 = .ok (.istore 5, 2) := by decide +kernel
theorem dL_next_3 : decode cL_next 3 = .ok (.bipush 100, 2) := by decide +kernel
theorem dL_next_5 : decode cL_next 5 = .ok (.istore 6, 2) := by decide +kernel
theorem dL_next_7 : decode cL_next 7 = .ok (.iload 6, 2) := by decide +kernel
theorem dL_next_9 : decode cL_next 9 = .ok (.ifCond .le 111, 3) := by decide +kernel
theorem dL_next_12 : decode cL_next 12 = .ok (.iload 5, 2) := by decide +kernel
theorem dL_next_14 : decode cL_next 14 = .ok (.ifCond .ge 106, 3) := by decide +kernel
theorem dL_next_17 : decode cL_next 17 = .ok (.iconst 0, 1) := by decide +kernel
theorem dL_next_18 : decode cL_next 18 = .ok (.istore 7, 2) := by decide +kernel
theorem dL_next_20 : decode cL_next 20 = .ok (.iload 7, 2) := by decide +kernel
theorem dL_next_22 : decode cL_next 22 = .ok (.iload_n 2, 1) := by decide +kernel
theorem dL_next_23 : decode cL_next 23 = .ok (.if_icmp .ge 91, 3) := by decide +kernel
theorem dL_next_26 : decode cL_next 26 = .ok (.iload 5, 2) := by decide +kernel
theorem dL_next_28 : decode cL_next 28 = .ok (.ifCond .ge 86, 3) := by decide +kernel
theorem dL_next_31 : decode cL_next 31 = .ok (.iload 4, 2) := by decide +kernel
theorem dL_next_33 : decode cL_next 33 = .ok (.ifCond .lt 28, 3) := by decide +kernel
theorem dL_next_36 : decode cL_next 36 = .ok (.iload 6, 2) := by decide +kernel
theorem dL_next_38 : decode cL_next 38 = .ok (.aload_n 1, 1) := by decide +kernel
theorem dL_next_39 : decode cL_next 39 = .ok (.iload 4, 2) := by decide +kernel
theorem dL_next_41 : decode cL_next 41 = .ok (.iaload, 1) := by decide +kernel
theorem dL_next_42 : decode cL_next 42 = .ok (.if_icmp .lt 19, 3) := by decide +kernel
theorem dL_next_45 : decode cL_next 45 = .ok (.iload 6, 2) := by decide +kernel
theorem dL_next_47 : decode cL_next 47 = .ok (.aload_n 1, 1) := by decide +kernel
theorem dL_next_48 : decode cL_next 48 = .ok (.iload 4, 2) := by decide +kernel
theorem dL_next_50 : decode cL_next 50 = .ok (.iaload, 1) := by decide +kernel
theorem dL_next_51 : decode cL_next 51 = .ok (.if_icmp .ne 14, 3) := by decide +kernel
theorem dL_next_54 : decode cL_next 54 = .ok (.iload 7, 2) := by decide +kernel
theorem dL_next_56 : decode cL_next 56 = .ok (.iload 4, 2) := by decide +kernel
theorem dL_next_58 : decode cL_next 58 = .ok (.if_icmp .le 7, 3) := by decide +kernel
theorem dL_next_61 : decode cL_next 61 = .ok (.iconst 1, 1) := by decide +kernel
theorem dL_next_62 : decode cL_next 62 = .ok (.goto 4, 3) := by decide +kernel
theorem dL_next_65 : decode cL_next 65 = .ok (.iconst 0, 1) := by decide +kernel
theorem dL_next_66 : decode cL_next 66 = .ok (.istore 8, 2) := by decide +kernel
theorem dL_next_68 : decode cL_next 68 = .ok (.aload_n 0, 1) := by decide +kernel
theorem dL_next_69 : decode cL_next 69 = .ok (.iload 7, 2) := by decide +kernel
theorem dL_next_71 : decode cL_next 71 = .ok (.iaload, 1) := by decide +kernel
theorem dL_next_72 : decode cL_next 72 = .ok (.ifCond .ne 33, 3) := by decide +kernel
theorem dL_next_75 : decode cL_next 75 = .ok (.aload_n 0, 1) := by decide +kernel
theorem dL_next_76 : decode cL_next 76 = .ok (.bipush 24, 2) := by decide +kernel
theorem dL_next_78 : decode cL_next 78 = .ok (.iload 7, 2) := by decide +kernel
theorem dL_next_80 : decode cL_next 80 = .ok (.iadd, 1) := by decide +kernel
theorem dL_next_81 : decode cL_next 81 = .ok (.iaload, 1) := by decide +kernel
theorem dL_next_82 : decode cL_next 82 = .ok (.iload_n 3, 1) := by decide +kernel
theorem dL_next_83 : decode cL_next 83 = .ok (.if_icmp .ne 22, 3) := by decide +kernel
theorem dL_next_86 : decode cL_next 86 = .ok (.aload_n 1, 1) := by decide +kernel
theorem dL_next_87 : decode cL_next 87 = .ok (.iload 7, 2) := by decide +kernel
theorem dL_next_89 : decode cL_next 89 = .ok (.iaload, 1) := by decide +kernel
theorem dL_next_90 : decode cL_next 90 = .ok (.iload 6, 2) := by decide +kernel
theorem dL_next_92 : decode cL_next 92 = .ok (.if_icmp .ne 13, 3) := by decide +kernel
theorem dL_next_95 : decode cL_next 95 = .ok (.iload 8, 2) := by decide +kernel
theorem dL_next_97 : decode cL_next 97 = .ok (.ifCond .eq 8, 3) := by decide +kernel
theorem dL_next_100 : decode cL_next 100 = .ok (.iload 7, 2) := by decide +kernel
theorem dL_next_102 : decode cL_next 102 = .ok (.goto 4, 3) := by decide +kernel
theorem dL_next_105 : decode cL_next 105 = .ok (.iconst (-1), 1) := by decide +kernel
theorem dL_next_106 : decode cL_next 106 = .ok (.istore 5, 2) := by decide +kernel
theorem dL_next_108 : decode cL_next 108 = .ok (.iinc 7 1, 3) := by decide +kernel
theorem dL_next_111 : decode cL_next 111 = .ok (.goto (-91), 3) := by decide +kernel
theorem dL_next_114 : decode cL_next 114 = .ok (.iinc 6 (-1), 3) := by decide +kernel
theorem dL_next_117 : decode cL_next 117 = .ok (.goto (-110), 3) := by decide +kernel
theorem dL_next_120 : decode cL_next 120 = .ok (.iload 5, 2) := by decide +kernel
theorem dL_next_122 : decode cL_next 122 = .ok (.ireturn, 1) := by decide +kernel
theorem dL_take_0 : decode cL_take 0 = .ok (.bipush 8, 2) := by decide +kernel
theorem dL_take_2 : decode cL_take 2 = .ok (.iload 8, 2) := by decide +kernel
theorem dL_take_4 : decode cL_take 4 = .ok (.imul, 1) := by decide +kernel
theorem dL_take_5 : decode cL_take 5 = .ok (.istore 11, 2) := by decide +kernel
theorem dL_take_7 : decode cL_take 7 = .ok (.aload_n 0, 1) := by decide +kernel
theorem dL_take_8 : decode cL_take 8 = .ok (.iload 11, 2) := by decide +kernel
theorem dL_take_10 : decode cL_take 10 = .ok (.iaload, 1) := by decide +kernel
theorem dL_take_11 : decode cL_take 11 = .ok (.iload 9, 2) := by decide +kernel
theorem dL_take_13 : decode cL_take 13 = .ok (.imul, 1) := by decide +kernel
theorem dL_take_14 : decode cL_take 14 = .ok (.istore 12, 2) := by decide +kernel
theorem dL_take_16 : decode cL_take 16 = .ok (.iload 12, 2) := by decide +kernel
theorem dL_take_18 : decode cL_take 18 = .ok (.aload_n 0, 1) := by decide +kernel
theorem dL_take_19 : decode cL_take 19 = .ok (.iload 11, 2) := by decide +kernel
theorem dL_take_21 : decode cL_take 21 = .ok (.iconst 4, 1) := by decide +kernel
theorem dL_take_22 : decode cL_take 22 = .ok (.iadd, 1) := by decide +kernel
theorem dL_take_23 : decode cL_take 23 = .ok (.iaload, 1) := by decide +kernel
theorem dL_take_24 : decode cL_take 24 = .ok (.imul, 1) := by decide +kernel
theorem dL_take_25 : decode cL_take 25 = .ok (.bipush 100, 2) := by decide +kernel
theorem dL_take_27 : decode cL_take 27 = .ok (.idiv, 1) := by decide +kernel
theorem dL_take_28 : decode cL_take 28 = .ok (.istore 13, 2) := by decide +kernel
theorem dL_take_30 : decode cL_take 30 = .ok (.iload 12, 2) := by decide +kernel
theorem dL_take_32 : decode cL_take 32 = .ok (.iload 13, 2) := by decide +kernel
theorem dL_take_34 : decode cL_take 34 = .ok (.isub, 1) := by decide +kernel
theorem dL_take_35 : decode cL_take 35 = .ok (.istore 14, 2) := by decide +kernel
theorem dL_take_37 : decode cL_take 37 = .ok (.iload 13, 2) := by decide +kernel
theorem dL_take_39 : decode cL_take 39 = .ok (.iload 14, 2) := by decide +kernel
theorem dL_take_41 : decode cL_take 41 = .ok (.aload 5, 2) := by decide +kernel
theorem dL_take_43 : decode cL_take 43 = .ok (.iconst 3, 1) := by decide +kernel
theorem dL_take_44 : decode cL_take 44 = .ok (.aload_n 0, 1) := by decide +kernel
theorem dL_take_45 : decode cL_take 45 = .ok (.iload 11, 2) := by decide +kernel
theorem dL_take_47 : decode cL_take 47 = .ok (.iconst 3, 1) := by decide +kernel
theorem dL_take_48 : decode cL_take 48 = .ok (.iadd, 1) := by decide +kernel
theorem dL_take_49 : decode cL_take 49 = .ok (.iaload, 1) := by decide +kernel
theorem dL_take_50 : decode cL_take 50 = .ok (.imul, 1) := by decide +kernel
theorem dL_take_51 : decode cL_take 51 = .ok (.iaload, 1) := by decide +kernel
theorem dL_take_52 : decode cL_take 52 = .ok (.imul, 1) := by decide +kernel
theorem dL_take_53 : decode cL_take 53 = .ok (.bipush 100, 2) := by decide +kernel
theorem dL_take_55 : decode cL_take 55 = .ok (.idiv, 1) := by decide +kernel
theorem dL_take_56 : decode cL_take 56 = .ok (.iadd, 1) := by decide +kernel
theorem dL_take_57 : decode cL_take 57 = .ok (.iload 14, 2) := by decide +kernel
theorem dL_take_59 : decode cL_take 59 = .ok (.aload 5, 2) := by decide +kernel
