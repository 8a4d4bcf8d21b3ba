theorem dX5_tell_86 : decode cX5_tell 86 = .ok (.iload_n 2, 1) := by decide +kernel
theorem dX5_tell_87 : decode cX5_tell 87 = .ok (.iastore, 1) := by decide +kernel
theorem dX5_tell_88 : decode cX5_tell 88 = .ok (.aload_n 0, 1) := by decide +kernel
theorem dX5_tell_89 : decode cX5_tell 89 = .ok (.getfield 52, 3) := by decide +kernel
theorem dX5_tell_92 : decode cX5_tell 92 = .ok (.aload_n 0, 1) := by decide +kernel
theorem dX5_tell_93 : decode cX5_tell 93 = .ok (.getfield 108, 3) := by decide +kernel
theorem dX5_tell_96 : decode cX5_tell 96 = .ok (.iload_n 3, 1) := by decide +kernel
theorem dX5_tell_97 : decode cX5_tell 97 = .ok (.iastore, 1) := by decide +kernel
theorem dX5_tell_98 : decode cX5_tell 98 = .ok (.aload_n 0, 1) := by decide +kernel
theorem dX5_tell_99 : decode cX5_tell 99 = .ok (.getfield 55, 3) := by decide +kernel
theorem dX5_tell_102 : decode cX5_tell 102 = .ok (.aload_n 0, 1) := by decide +kernel
theorem dX5_tell_103 : decode cX5_tell 103 = .ok (.getfield 108, 3) := by decide +kernel
theorem dX5_tell_106 : decode cX5_tell 106 = .ok (.aload_n 0, 1) := by decide +kernel
theorem dX5_tell_107 : decode cX5_tell 107 = .ok (.getfield 121, 3) := by decide +kernel
theorem dX5_tell_110 : decode cX5_tell 110 = .ok (.iastore, 1) := by decide +kernel
theorem dX5_tell_111 : decode cX5_tell 111 = .ok (.aload_n 0, 1) := by decide +kernel
theorem dX5_tell_112 : decode cX5_tell 112 = .ok (.getfield 58, 3) := by decide +kernel
theorem dX5_tell_115 : decode cX5_tell 115 = .ok (.aload_n 0, 1) := by decide +kernel
theorem dX5_tell_116 : decode cX5_tell 116 = .ok (.getfield 108, 3) := by decide +kernel
theorem dX5_tell_119 : decode cX5_tell 119 = .ok (.iload 4, 2) := by decide +kernel
theorem dX5_tell_121 : decode cX5_tell 121 = .ok (.iastore, 1) := by decide +kernel
theorem dX5_tell_122 : decode cX5_tell 122 = .ok (.aload_n 0, 1) := by decide +kernel
theorem dX5_tell_123 : decode cX5_tell 123 = .ok (.getfield 61, 3) := by decide +kernel
theorem dX5_tell_126 : decode cX5_tell 126 = .ok (.aload_n 0, 1) := by decide +kernel
theorem dX5_tell_127 : decode cX5_tell 127 = .ok (.getfield 108, 3) := by decide +kernel
theorem dX5_tell_130 : decode cX5_tell 130 = .ok (.iconst (-1), 1) := by decide +kernel
theorem dX5_tell_131 : decode cX5_tell 131 = .ok (.iastore, 1) := by decide +kernel
theorem dX5_tell_132 : decode cX5_tell 132 = .ok (.aload_n 0, 1) := by decide +kernel
theorem dX5_tell_133 : decode cX5_tell 133 = .ok (.getfield 76, 3) := by decide +kernel
theorem dX5_tell_136 : decode cX5_tell 136 = .ok (.aload_n 0, 1) := by decide +kernel
theorem dX5_tell_137 : decode cX5_tell 137 = .ok (.getfield 108, 3) := by decide +kernel
theorem dX5_tell_140 : decode cX5_tell 140 = .ok (.iconst (-1), 1) := by decide +kernel
theorem dX5_tell_141 : decode cX5_tell 141 = .ok (.iastore, 1) := by decide +kernel
theorem dX5_tell_142 : decode cX5_tell 142 = .ok (.aload_n 0, 1) := by decide +kernel
theorem dX5_tell_143 : decode cX5_tell 143 = .ok (.dup, 1) := by decide +kernel
theorem dX5_tell_144 : decode cX5_tell 144 = .ok (.getfield 108, 3) := by decide +kernel
theorem dX5_tell_147 : decode cX5_tell 147 = .ok (.iconst 1, 1) := by decide +kernel
theorem dX5_tell_148 : decode cX5_tell 148 = .ok (.iadd, 1) := by decide +kernel
theorem dX5_tell_149 : decode cX5_tell 149 = .ok (.putfield 108, 3) := by decide +kernel
theorem dX5_tell_152 : decode cX5_tell 152 = .ok (.aload_n 0, 1) := by decide +kernel
theorem dX5_tell_153 : decode cX5_tell 153 = .ok (.getfield 108, 3) := by decide +kernel
theorem dX5_tell_156 : decode cX5_tell 156 = .ok (.iconst 1, 1) := by decide +kernel
theorem dX5_tell_157 : decode cX5_tell 157 = .ok (.isub, 1) := by decide +kernel
theorem dX5_tell_158 : decode cX5_tell 158 = .ok (.ireturn, 1) := by decide +kernel
theorem dX5_own_0 : decode cX5_own 0 = .ok (.aload_n 0, 1) := by decide +kernel
theorem dX5_own_1 : decode cX5_own 1 = .ok (.iload_n 3, 1) := by decide +kernel
theorem dX5_own_2 : decode cX5_own 2 = .ok (.iconst 1, 1) := by decide +kernel
theorem dX5_own_3 : decode cX5_own 3 = .ok (.bipush 100, 2) := by decide +kernel
theorem dX5_own_5 : decode cX5_own 5 = .ok (.invokevirtual 104, 3) := by decide +kernel
theorem dX5_own_8 : decode cX5_own 8 = .ok (.istore 4, 2) := by decide +kernel
theorem dX5_own_10 : decode cX5_own 10 = .ok (.iload 4, 2) := by decide +kernel
theorem dX5_own_12 : decode cX5_own 12 = .ok (.ifCond .eq 7, 3) := by decide +kernel
theorem dX5_own_15 : decode cX5_own 15 = .ok (.iload_n 3, 1) := by decide +kernel
theorem dX5_own_16 : decode cX5_own 16 = .ok (.goto 4, 3) := by decide +kernel
theorem dX5_own_19 : decode cX5_own 19 = .ok (.iconst 0, 1) := by decide +kernel
theorem dX5_own_20 : decode cX5_own 20 = .ok (.istore 5, 2) := by decide +kernel
theorem dX5_own_22 : decode cX5_own 22 = .ok (.iconst 0, 1) := by decide +kernel
theorem dX5_own_23 : decode cX5_own 23 = .ok (.istore 6, 2) := by decide +kernel
theorem dX5_own_25 : decode cX5_own 25 = .ok (.iload 6, 2) := by decide +kernel
theorem dX5_own_27 : decode cX5_own 27 = .ok (.aload_n 0, 1) := by decide +kernel
theorem dX5_own_28 : decode cX5_own 28 = .ok (.getfield 108, 3) := by decide +kernel
theorem dX5_own_31 : decode cX5_own 31 = .ok (.if_icmp .ge 46, 3) := by decide +kernel
theorem dX5_own_34 : decode cX5_own 34 = .ok (.iload 5, 2) := by decide +kernel
theorem dX5_own_36 : decode cX5_own 36 = .ok (.aload_n 0, 1) := by decide +kernel
theorem dX5_own_37 : decode cX5_own 37 = .ok (.getfield 46, 3) := by decide +kernel
theorem dX5_own_40 : decode cX5_own 40 = .ok (.iload 6, 2) := by decide +kernel
theorem dX5_own_42 : decode cX5_own 42 = .ok (.iaload, 1) := by decide +kernel
theorem dX5_own_43 : decode cX5_own 43 = .ok (.ifCond .ne 24, 3) := by decide +kernel
theorem dX5_own_46 : decode cX5_own 46 = .ok (.aload_n 0, 1) := by decide +kernel
theorem dX5_own_47 : decode cX5_own 47 = .ok (.getfield 49, 3) := by decide +kernel
theorem dX5_own_50 : decode cX5_own 50 = .ok (.iload 6, 2) := by decide +kernel
theorem dX5_own_52 : decode cX5_own 52 = .ok (.iaload, 1) := by decide +kernel
theorem dX5_own_53 : decode cX5_own 53 = .ok (.iload_n 1, 1) := by decide +kernel
theorem dX5_own_54 : decode cX5_own 54 = .ok (.if_icmp .ne 13, 3) := by decide +kernel
theorem dX5_own_57 : decode cX5_own 57 = .ok (.aload_n 0, 1) := by decide +kernel
theorem dX5_own_58 : decode cX5_own 58 = .ok (.getfield 58, 3) := by decide +kernel
theorem dX5_own_61 : decode cX5_own 61 = .ok (.iload 6, 2) := by decide +kernel
theorem dX5_own_63 : decode cX5_own 63 = .ok (.iaload, 1) := by decide +kernel
theorem dX5_own_64 : decode cX5_own 64 = .ok (.goto 4, 3) := by decide +kernel
theorem dX5_own_67 : decode cX5_own 67 = .ok (.iconst 0, 1) := by decide +kernel
theorem dX5_own_68 : decode cX5_own 68 = .ok (.iadd, 1) := by decide +kernel
theorem dX5_own_69 : decode cX5_own 69 = .ok (.istore 5, 2) := by decide +kernel
theorem dX5_own_71 : decode cX5_own 71 = .ok (.iinc 6 1, 3) := by decide +kernel
theorem dX5_own_74 : decode cX5_own 74 = .ok (.goto (-49), 3) := by decide +kernel
theorem dX5_own_77 : decode cX5_own 77 = .ok (.aload_n 0, 1) := by decide +kernel
theorem dX5_own_78 : decode cX5_own 78 = .ok (.iconst 0, 1) := by decide +kernel
theorem dX5_own_79 : decode cX5_own 79 = .ok (.iload_n 1, 1) := by decide +kernel
theorem dX5_own_80 : decode cX5_own 80 = .ok (.iload_n 2, 1) := by decide +kernel
theorem dX5_own_81 : decode cX5_own 81 = .ok (.iload_n 3, 1) := by decide +kernel
theorem dX5_own_82 : decode cX5_own 82 = .ok (.iload 4, 2) := by decide +kernel
theorem dX5_own_84 : decode cX5_own 84 = .ok (.ifCond .eq 14, 3) := by decide +kernel
theorem dX5_own_87 : decode cX5_own 87 = .ok (.iload 5, 2) := by decide +kernel
theorem dX5_own_89 : decode cX5_own 89 = .ok (.bipush 100, 2) := by decide +kernel
theorem dX5_own_91 : decode cX5_own 91 = .ok (.if_icmp .gt 7, 3) := by decide +kernel
theorem dX5_own_94 : decode cX5_own 94 = .ok (.iconst 1, 1) := by decide +kernel
theorem dX5_own_95 : decode cX5_own 95 = .ok (.goto 4, 3) := by decide +kernel
theorem dX5_own_98 : decode cX5_own 98 = .ok (.iconst 0, 1) := by decide +kernel
theorem dX5_own_99 : decode cX5_own 99 = .ok (.invokevirtual 131, 3) := by decide +kernel
theorem dX5_own_102 : decode cX5_own 102 = .ok (.ireturn, 1) := by decide +kernel
theorem dX5_lease_0 : decode cX5_lease 0 = .ok (.aload_n 0, 1) := by decide +kernel
theorem dX5_lease_1 : decode cX5_lease 1 = .ok (.iconst 1, 1) := by decide +kernel
theorem dX5_lease_2 : decode cX5_lease 2 = .ok (.iload_n 1, 1) := by decide +kernel
theorem dX5_lease_3 : decode cX5_lease 3 = .ok (.iload_n 2, 1) := by decide +kernel
theorem dX5_lease_4 : decode cX5_lease 4 = .ok (.iload_n 3, 1) := by decide +kernel
theorem dX5_lease_5 : decode cX5_lease 5 = .ok (.iload_n 3, 1) := by decide +kernel
theorem dX5_lease_6 : decode cX5_lease 6 = .ok (.aload_n 0, 1) := by decide +kernel
theorem dX5_lease_7 : decode cX5_lease 7 = .ok (.getfield 121, 3) := by decide +kernel
theorem dX5_lease_10 : decode cX5_lease 10 = .ok (.if_icmp .le 26, 3) := by decide +kernel
theorem dX5_lease_13 : decode cX5_lease 13 = .ok (.iload_n 3, 1) := by decide +kernel
theorem dX5_lease_14 : decode cX5_lease 14 = .ok (.sipush 30000, 3) := by decide +kernel
theorem dX5_lease_17 : decode cX5_lease 17 = .ok (.if_icmp .gt 19, 3) := by decide +kernel
theorem dX5_lease_20 : decode cX5_lease 20 = .ok (.aload_n 0, 1) := by decide +kernel
theorem dX5_lease_21 : decode cX5_lease 21 = .ok (.iload 4, 2) := by decide +kernel
theorem dX5_lease_23 : decode cX5_lease 23 = .ok (.iconst 0, 1) := by decide +kernel
theorem dX5_lease_24 : decode cX5_lease 24 = .ok (.bipush 100, 2) := by decide +kernel
theorem dX5_lease_26 : decode cX5_lease 26 = .ok (.invokevirtual 104, 3) := by decide +kernel
theorem dX5_lease_29 : decode cX5_lease 29 = .ok (.ifCond .eq 7, 3) := by decide +kernel
theorem dX5_lease_32 : decode cX5_lease 32 = .ok (.iconst 1, 1) := by decide +kernel
theorem dX5_lease_33 : decode cX5_lease 33 = .ok (.goto 4, 3) := by decide +kernel
theorem dX5_lease_36 : decode cX5_lease 36 = .ok (.iconst 0, 1) := by decide +kernel
theorem dX5_lease_37 : decode cX5_lease 37 = .ok (.invokevirtual 131, 3) := by decide +kernel
theorem dX5_lease_40 : decode cX5_lease 40 = .ok (.istore 5, 2) := by decide +kernel
theorem dX5_lease_42 : decode cX5_lease 42 = .ok (.aload_n 0, 1) := by decide +kernel
theorem dX5_lease_43 : decode cX5_lease 43 = .ok (.getfield 100, 3) := by decide +kernel
theorem dX5_lease_46 : decode cX5_lease 46 = .ok (.ifCond .ne 12, 3) := by decide +kernel
theorem dX5_lease_49 : decode cX5_lease 49 = .ok (.aload_n 0, 1) := by decide +kernel
theorem dX5_lease_50 : decode cX5_lease 50 = .ok (.getfield 97, 3) := by decide +kernel
theorem dX5_lease_53 : decode cX5_lease 53 = .ok (.iload 5, 2) := by decide +kernel
theorem dX5_lease_55 : decode cX5_lease 55 = .ok (.iload 4, 2) := by decide +kernel
theorem dX5_lease_57 : decode cX5_lease 57 = .ok (.iastore, 1) := by decide +kernel
theorem dX5_lease_58 : decode cX5_lease 58 = .ok (.iload 5, 2) := by decide +kernel
theorem dX5_lease_60 : decode cX5_lease 60 = .ok (.ireturn, 1) := by decide +kernel
theorem dX5_charge_0 : decode cX5_charge 0 = .ok (.aload_n 0, 1) := by decide +kernel
theorem dX5_charge_1 : decode cX5_charge 1 = .ok (.iconst 2, 1) := by decide +kernel
theorem dX5_charge_2 : decode cX5_charge 2 = .ok (.iload_n 1, 1) := by decide +kernel
theorem dX5_charge_3 : decode cX5_charge 3 = .ok (.iload_n 2, 1) := by decide +kernel
theorem dX5_charge_4 : decode cX5_charge 4 = .ok (.iload_n 3, 1) := by decide +kernel
theorem dX5_charge_5 : decode cX5_charge 5 = .ok (.aload_n 0, 1) := by decide +kernel
theorem dX5_charge_6 : decode cX5_charge 6 = .ok (.iload_n 3, 1) := by decide +kernel
theorem dX5_charge_7 : decode cX5_charge 7 = .ok (.iconst 1, 1) := by decide +kernel
theorem dX5_charge_8 : decode cX5_charge 8 = .ok (.ldc 135, 2) := by decide +kernel
theorem dX5_charge_10 : decode cX5_charge 10 = .ok (.invokevirtual 104, 3) := by decide +kernel
theorem dX5_charge_13 : decode cX5_charge 13 = .ok (.invokevirtual 131, 3) := by decide +kernel
theorem dX5_charge_16 : decode cX5_charge 16 = .ok (.ireturn, 1) := by decide +kernel
theorem dX5_interestOf_0 : decode cX5_interestOf 0 = .ok (.aload_n 0, 1) := by decide +kernel
theorem dX5_interestOf_1 : decode cX5_interestOf 1 = .ok (.aload_n 0, 1) := by decide +kernel
theorem dX5_interestOf_2 : decode cX5_interestOf 2 = .ok (.iload_n 1, 1) := by decide +kernel
theorem dX5_interestOf_3 : decode cX5_interestOf 3 = .ok (.invokevirtual 136, 3) := by decide +kernel
theorem dX5_interestOf_6 : decode cX5_interestOf 6 = .ok (.ifCond .ne 7, 3) := by decide +kernel
theorem dX5_interestOf_9 : decode cX5_interestOf 9 = .ok (.iconst 1, 1) := by decide +kernel
theorem dX5_interestOf_10 : decode cX5_interestOf 10 = .ok (.goto 19, 3) := by decide +kernel
theorem dX5_interestOf_13 : decode cX5_interestOf 13 = .ok (.aload_n 0, 1) := by decide +kernel
theorem dX5_interestOf_14 : decode cX5_interestOf 14 = .ok (.iload_n 2, 1) := by decide +kernel
theorem dX5_interestOf_15 : decode cX5_interestOf 15 = .ok (.iconst 0, 1) := by decide +kernel
theorem dX5_interestOf_16 : decode cX5_interestOf 16 = .ok (.bipush 8, 2) := by decide +kernel
theorem dX5_interestOf_18 : decode cX5_interestOf 18 = .ok (.invokevirtual 104, 3) := by decide +kernel
theorem dX5_interestOf_21 : decode cX5_interestOf 21 = .ok (.ifCond .ne 7, 3) := by decide +kernel
theorem dX5_interestOf_24 : decode cX5_interestOf 24 = .ok (.iconst 2, 1) := by decide +kernel
theorem dX5_interestOf_25 : decode cX5_interestOf 25 = .ok (.goto 4, 3) := by decide +kernel
theorem dX5_interestOf_28 : decode cX5_interestOf 28 = .ok (.iconst 0, 1) := by decide +kernel
theorem dX5_interestOf_29 : decode cX5_interestOf 29 = .ok (.putfield 100, 3) := by decide +kernel
theorem dX5_interestOf_32 : decode cX5_interestOf 32 = .ok (.aload_n 0, 1) := by decide +kernel
theorem dX5_interestOf_33 : decode cX5_interestOf 33 = .ok (.getfield 100, 3) := by decide +kernel
theorem dX5_interestOf_36 : decode cX5_interestOf 36 = .ok (.ifCond .le 5, 3) := by decide +kernel
theorem dX5_interestOf_39 : decode cX5_interestOf 39 = .ok (.lconst 0, 1) := by decide +kernel
theorem dX5_interestOf_40 : decode cX5_interestOf 40 = .ok (.lreturn, 1) := by decide +kernel
theorem dX5_interestOf_41 : decode cX5_interestOf 41 = .ok (.iload_n 2, 1) := by decide +kernel
theorem dX5_interestOf_42 : decode cX5_interestOf 42 = .ok (.tableswitch 117 0 7 #[46, 54, 62, 70, 78, 86, 94, 110], 46) := by decide +kernel
theorem dX5_interestOf_88 : decode cX5_interestOf 88 = .ok (.aload_n 0, 1) := by decide +kernel
theorem dX5_interestOf_89 : decode cX5_interestOf 89 = .ok (.getfield 46, 3) := by decide +kernel
theorem dX5_interestOf_92 : decode cX5_interestOf 92 = .ok (.iload_n 1, 1) := by decide +kernel
theorem dX5_interestOf_93 : decode cX5_interestOf 93 = .ok (.iaload, 1) := by decide +kernel
theorem dX5_interestOf_94 : decode cX5_interestOf 94 = .ok (.i2l, 1) := by decide +kernel
theorem dX5_interestOf_95 : decode cX5_interestOf 95 = .ok (.lreturn, 1) := by decide +kernel
theorem dX5_interestOf_96 : decode cX5_interestOf 96 = .ok (.aload_n 0, 1) := by decide +kernel
theorem dX5_interestOf_97 : decode cX5_interestOf 97 = .ok (.getfield 49, 3) := by decide +kernel
theorem dX5_interestOf_100 : decode cX5_interestOf 100 = .ok (.iload_n 1, 1) := by decide +kernel
theorem dX5_interestOf_101 : decode cX5_interestOf 101 = .ok (.iaload, 1) := by decide +kernel
theorem dX5_interestOf_102 : decode cX5_interestOf 102 = .ok (.i2l, 1) := by decide +kernel
theorem dX5_interestOf_103 : decode cX5_interestOf 103 = .ok (.lreturn, 1) := by decide +kernel
theorem dX5_interestOf_104 : decode cX5_interestOf 104 = .ok (.aload_n 0, 1) := by decide +kernel
theorem dX5_interestOf_105 : decode cX5_interestOf 105 = .ok (.getfield 52, 3) := by decide +kernel
theorem dX5_interestOf_108 : decode cX5_interestOf 108 = .ok (.iload_n 1, 1) := by decide +kernel
theorem dX5_interestOf_109 : decode cX5_interestOf 109 = .ok (.iaload, 1) := by decide +kernel
theorem dX5_interestOf_110 : decode cX5_interestOf 110 = .ok (.i2l, 1) := by decide +kernel
theorem dX5_interestOf_111 : decode cX5_interestOf 111 = .ok (.lreturn, 1) := by decide +kernel
theorem dX5_interestOf_112 : decode cX5_interestOf 112 = .ok (.aload_n 0, 1) := by decide +kernel
theorem dX5_interestOf_113 : decode cX5_interestOf 113 = .ok (.getfield 55, 3) := by decide +kernel
theorem dX5_interestOf_116 : decode cX5_interestOf 116 = .ok (.iload_n 1, 1) := by decide +kernel
theorem dX5_interestOf_117 : decode cX5_interestOf 117 = .ok (.iaload, 1) := by decide +kernel
theorem dX5_interestOf_118 : decode cX5_interestOf 118 = .ok (.i2l, 1) := by decide +kernel
theorem dX5_interestOf_119 : decode cX5_interestOf 119 = .ok (.lreturn, 1) := by decide +kernel
theorem dX5_interestOf_120 : decode cX5_interestOf 120 = .ok (.aload_n 0, 1) := by decide +kernel
theorem dX5_interestOf_121 : decode cX5_interestOf 121 = .ok (.getfield 58, 3) := by decide +kernel
theorem dX5_interestOf_124 : decode cX5_interestOf 124 = .ok (.iload_n 1, 1) := by decide +kernel
theorem dX5_interestOf_125 : decode cX5_interestOf 125 = .ok (.iaload, 1) := by decide +kernel
theorem dX5_interestOf_126 : decode cX5_interestOf 126 = .ok (.i2l, 1) := by decide +kernel
theorem dX5_interestOf_127 : decode cX5_interestOf 127 = .ok (.lreturn, 1) := by decide +kernel
theorem dX5_interestOf_128 : decode cX5_interestOf 128 = .ok (.aload_n 0, 1) := by decide +kernel
theorem dX5_interestOf_129 : decode cX5_interestOf 129 = .ok (.getfield 61, 3) := by decide +kernel
theorem dX5_interestOf_132 : decode cX5_interestOf 132 = .ok (.iload_n 1, 1) := by decide +kernel
theorem dX5_interestOf_133 : decode cX5_interestOf 133 = .ok (.iaload, 1) := by decide +kernel
theorem dX5_interestOf_134 : decode cX5_interestOf 134 = .ok (.i2l, 1) := by decide +kernel
theorem dX5_interestOf_135 : decode cX5_interestOf 135 = .ok (.lreturn, 1) := by decide +kernel
theorem dX5_interestOf_136 : decode cX5_interestOf 136 = .ok (.aload_n 0, 1) := by decide +kernel
theorem dX5_interestOf_137 : decode cX5_interestOf 137 = .ok (.getfield 64, 3) := by decide +kernel
theorem dX5_interestOf_140 : decode cX5_interestOf 140 = .ok (.iload_n 1, 1) := by decide +kernel
theorem dX5_interestOf_141 : decode cX5_interestOf 141 = .ok (.iaload, 1) := by decide +kernel
theorem dX5_interestOf_142 : decode cX5_interestOf 142 = .ok (.iconst 1, 1) := by decide +kernel
theorem dX5_interestOf_143 : decode cX5_interestOf 143 = .ok (.if_icmp .ne 7, 3) := by decide +kernel
theorem dX5_interestOf_146 : decode cX5_interestOf 146 = .ok (.lconst 1, 1) := by decide +kernel
theorem dX5_interestOf_147 : decode cX5_interestOf 147 = .ok (.goto 4, 3) := by decide +kernel
theorem dX5_interestOf_150 : decode cX5_interestOf 150 = .ok (.lconst 0, 1) := by decide +kernel
theorem dX5_interestOf_151 : decode cX5_interestOf 151 = .ok (.lreturn, 1) := by decide +kernel
theorem dX5_interestOf_152 : decode cX5_interestOf 152 = .ok (.aload_n 0, 1) := by decide +kernel
theorem dX5_interestOf_153 : decode cX5_interestOf 153 = .ok (.getfield 67, 3) := by decide +kernel
theorem dX5_interestOf_156 : decode cX5_interestOf 156 = .ok (.iload_n 1, 1) := by decide +kernel
theorem dX5_interestOf_157 : decode cX5_interestOf 157 = .ok (.laload, 1) := by decide +kernel
theorem dX5_interestOf_158 : decode cX5_interestOf 158 = .ok (.lreturn, 1) := by decide +kernel
theorem dX5_interestOf_159 : decode cX5_interestOf 159 = .ok (.aload_n 0, 1) := by decide +kernel
theorem dX5_interestOf_160 : decode cX5_interestOf 160 = .ok (.getfield 70, 3) := by decide +kernel
theorem dX5_interestOf_163 : decode cX5_interestOf 163 = .ok (.iload_n 1, 1) := by decide +kernel
theorem dX5_interestOf_164 : decode cX5_interestOf 164 = .ok (.laload, 1) := by decide +kernel
theorem dX5_interestOf_165 : decode cX5_interestOf 165 = .ok (.lreturn, 1) := by decide +kernel
theorem dX5_scheme_0 : decode cX5_scheme 0 = .ok (.aload_n 0, 1) := by decide +kernel
theorem dX5_scheme_1 : decode cX5_scheme 1 = .ok (.aload_n 0, 1) := by decide +kernel
theorem dX5_scheme_2 : decode cX5_scheme 2 = .ok (.iload_n 1, 1) := by decide +kernel
theorem dX5_scheme_3 : decode cX5_scheme 3 = .ok (.iconst 0, 1) := by decide +kernel
theorem dX5_scheme_4 : decode cX5_scheme 4 = .ok (.bipush 50, 2) := by decide +kernel
theorem dX5_scheme_6 : decode cX5_scheme 6 = .ok (.invokevirtual 104, 3) := by decide +kernel
theorem dX5_scheme_9 : decode cX5_scheme 9 = .ok (.ifCond .eq 14, 3) := by decide +kernel
theorem dX5_scheme_12 : decode cX5_scheme 12 = .ok (.aload_n 0, 1) := by decide +kernel
theorem dX5_scheme_13 : decode cX5_scheme 13 = .ok (.iload_n 2, 1) := by decide +kernel
theorem dX5_scheme_14 : decode cX5_scheme 14 = .ok (.iconst 0, 1) := by decide +kernel
theorem dX5_scheme_15 : decode cX5_scheme 15 = .ok (.bipush 50, 2) := by decide +kernel
theorem dX5_scheme_17 : decode cX5_scheme 17 = .ok (.invokevirtual 104, 3) := by decide +kernel
theorem dX5_scheme_20 : decode cX5_scheme 20 = .ok (.ifCond .ne 7, 3) := by decide +kernel
theorem dX5_scheme_23 : decode cX5_scheme 23 = .ok (.iconst 1, 1) := by decide +kernel
theorem dX5_scheme_24 : decode cX5_scheme 24 = .ok (.goto 16, 3) := by decide +kernel
theorem dX5_scheme_27 : decode cX5_scheme 27 = .ok (.aload_n 0, 1) := by decide +kernel
theorem dX5_scheme_28 : decode cX5_scheme 28 = .ok (.getfield 111, 3) := by decide +kernel
theorem dX5_scheme_31 : decode cX5_scheme 31 = .ok (.iconst 4, 1) := by decide +kernel
theorem dX5_scheme_32 : decode cX5_scheme 32 = .ok (.if_icmp .ne 7, 3) := by decide +kernel
theorem dX5_scheme_35 : decode cX5_scheme 35 = .ok (.iconst 2, 1) := by decide +kernel
theorem dX5_scheme_36 : decode cX5_scheme 36 = .ok (.goto 4, 3) := by decide +kernel
theorem dX5_scheme_39 : decode cX5_scheme 39 = .ok (.iconst 0, 1) := by decide +kernel
theorem dX5_scheme_40 : decode cX5_scheme 40 = .ok (.putfield 100, 3) := by decide +kernel
theorem dX5_scheme_43 : decode cX5_scheme 43 = .ok (.aload_n 0, 1) := by decide +kernel
theorem dX5_scheme_44 : decode cX5_scheme 44 = .ok (.getfield 100, 3) := by decide +kernel
theorem dX5_scheme_47 : decode cX5_scheme 47 = .ok (.ifCond .le 5, 3) := by decide +kernel
theorem dX5_scheme_50 : decode cX5_scheme 50 = .ok (.iconst 0, 1) := by decide +kernel
theorem dX5_scheme_51 : decode cX5_scheme 51 = .ok (.ireturn, 1) := by decide +kernel
theorem dX5_scheme_52 : decode cX5_scheme 52 = .ok (.aload_n 0, 1) := by decide +kernel
theorem dX5_scheme_53 : decode cX5_scheme 53 = .ok (.getfield 82, 3) := by decide +kernel
theorem dX5_scheme_56 : decode cX5_scheme 56 = .ok (.aload_n 0, 1) := by decide +kernel
theorem dX5_scheme_57 : decode cX5_scheme 57 = .ok (.getfield 111, 3) := by decide +kernel
theorem dX5_scheme_60 : decode cX5_scheme 60 = .ok (.iload_n 1, 1) := by decide +kernel
theorem dX5_scheme_61 : decode cX5_scheme 61 = .ok (.iastore, 1) := by decide +kernel
theorem dX5_scheme_62 : decode cX5_scheme 62 = .ok (.aload_n 0, 1) := by decide +kernel
theorem dX5_scheme_63 : decode cX5_scheme 63 = .ok (.getfield 85, 3) := by decide +kernel
theorem dX5_scheme_66 : decode cX5_scheme 66 = .ok (.aload_n 0, 1) := by decide +kernel
theorem dX5_scheme_67 : decode cX5_scheme 67 = .ok (.getfield 111, 3) := by decide +kernel
theorem dX5_scheme_70 : decode cX5_scheme 70 = .ok (.iload_n 2, 1) := by decide +kernel
theorem dX5_scheme_71 : decode cX5_scheme 71 = .ok (.iastore, 1) := by decide +kernel
theorem dX5_scheme_72 : decode cX5_scheme 72 = .ok (.aload_n 0, 1) := by decide +kernel
theorem dX5_scheme_73 : decode cX5_scheme 73 = .ok (.getfield 91, 3) := by decide +kernel
theorem dX5_scheme_76 : decode cX5_scheme 76 = .ok (.aload_n 0, 1) := by decide +kernel
theorem dX5_scheme_77 : decode cX5_scheme 77 = .ok (.getfield 111, 3) := by decide +kernel
theorem dX5_scheme_80 : decode cX5_scheme 80 = .ok (.iconst (-1), 1) := by decide +kernel
theorem dX5_scheme_81 : decode cX5_scheme 81 = .ok (.iastore, 1) := by decide +kernel
theorem dX5_scheme_82 : decode cX5_scheme 82 = .ok (.aload_n 0, 1) := by decide +kernel
theorem dX5_scheme_83 : decode cX5_scheme 83 = .ok (.getfield 94, 3) := by decide +kernel
theorem dX5_scheme_86 : decode cX5_scheme 86 = .ok (.aload_n 0, 1) := by decide +kernel
theorem dX5_scheme_87 : decode cX5_scheme 87 = .ok (.getfield 111, 3) := by decide +kernel
theorem dX5_scheme_90 : decode cX5_scheme 90 = .ok (.iconst (-1), 1) := by decide +kernel
theorem dX5_scheme_91 : decode cX5_scheme 91 = .ok (.iastore, 1) := by decide +kernel
theorem dX5_scheme_92 : decode cX5_scheme 92 = .ok (.aload_n 0, 1) := by decide +kernel
theorem dX5_scheme_93 : decode cX5_scheme 93 = .ok (.dup, 1) := by decide +kernel
theorem dX5_scheme_94 : decode cX5_scheme 94 = .ok (.getfield 111, 3) := by decide +kernel
theorem dX5_scheme_97 : decode cX5_scheme 97 = .ok (.iconst 1, 1) := by decide +kernel
theorem dX5_scheme_98 : decode cX5_scheme 98 = .ok (.iadd, 1) := by decide +kernel
theorem dX5_scheme_99 : decode cX5_scheme 99 = .ok (.putfield 111, 3) := by decide +kernel
theorem dX5_scheme_102 : decode cX5_scheme 102 = .ok (.aload_n 0, 1) := by decide +kernel
theorem dX5_scheme_103 : decode cX5_scheme 103 = .ok (.getfield 111, 3) := by decide +kernel
theorem dX5_scheme_106 : decode cX5_scheme 106 = .ok (.iconst 1, 1) := by decide +kernel
theorem dX5_scheme_107 : decode cX5_scheme 107 = .ok (.isub, 1) := by decide +kernel
theorem dX5_scheme_108 : decode cX5_scheme 108 = .ok (.ireturn, 1) := by decide +kernel
theorem dX5_neededBy_0 : decode cX5_neededBy 0 = .ok (.iconst 0, 1) := by decide +kernel
theorem dX5_neededBy_1 : decode cX5_neededBy 1 = .ok (.istore_n 3, 1) := by decide +kernel
theorem dX5_neededBy_2 : decode cX5_neededBy 2 = .ok (.iconst 0, 1) := by decide +kernel
theorem dX5_neededBy_3 : decode cX5_neededBy 3 = .ok (.istore 4, 2) := by decide +kernel
theorem dX5_neededBy_5 : decode cX5_neededBy 5 = .ok (.iload 4, 2) := by decide +kernel
theorem dX5_neededBy_7 : decode cX5_neededBy 7 = .ok (.bipush 36, 2) := by decide +kernel
theorem dX5_neededBy_9 : decode cX5_neededBy 9 = .ok (.if_icmp .ge 42, 3) := by decide +kernel
theorem dX5_neededBy_12 : decode cX5_neededBy 12 = .ok (.iload_n 3, 1) := by decide +kernel
theorem dX5_neededBy_13 : decode cX5_neededBy 13 = .ok (.aload_n 0, 1) := by decide +kernel
theorem dX5_neededBy_14 : decode cX5_neededBy 14 = .ok (.getfield 23, 3) := by decide +kernel
theorem dX5_neededBy_17 : decode cX5_neededBy 17 = .ok (.iload 4, 2) := by decide +kernel
theorem dX5_neededBy_19 : decode cX5_neededBy 19 = .ok (.iaload, 1) := by decide +kernel
theorem dX5_neededBy_20 : decode cX5_neededBy 20 = .ok (.iload_n 1, 1) := by decide +kernel
theorem dX5_neededBy_21 : decode cX5_neededBy 21 = .ok (.if_icmp .ne 21, 3) := by decide +kernel
theorem dX5_neededBy_24 : decode cX5_neededBy 24 = .ok (.iload_n 2, 1) := by decide +kernel
theorem dX5_neededBy_25 : decode cX5_neededBy 25 = .ok (.ifCond .eq 13, 3) := by decide +kernel
theorem dX5_neededBy_28 : decode cX5_neededBy 28 = .ok (.aload_n 0, 1) := by decide +kernel
theorem dX5_neededBy_29 : decode cX5_neededBy 29 = .ok (.getfield 20, 3) := by decide +kernel
theorem dX5_neededBy_32 : decode cX5_neededBy 32 = .ok (.iload 4, 2) := by decide +kernel
theorem dX5_neededBy_34 : decode cX5_neededBy 34 = .ok (.iaload, 1) := by decide +kernel
theorem dX5_neededBy_35 : decode cX5_neededBy 35 = .ok (.ifCond .ne 7, 3) := by decide +kernel
theorem dX5_neededBy_38 : decode cX5_neededBy 38 = .ok (.iconst 1, 1) := by decide +kernel
theorem dX5_neededBy_39 : decode cX5_neededBy 39 = .ok (.goto 4, 3) := by decide +kernel
theorem dX5_neededBy_42 : decode cX5_neededBy 42 = .ok (.iconst 0, 1) := by decide +kernel
theorem dX5_neededBy_43 : decode cX5_neededBy 43 = .ok (.iadd, 1) := by decide +kernel
theorem dX5_neededBy_44 : decode cX5_neededBy 44 = .ok (.istore_n 3, 1) := by decide +kernel
theorem dX5_neededBy_45 : decode cX5_neededBy 45 = .ok (.iinc 4 1, 3) := by decide +kernel
theorem dX5_neededBy_48 : decode cX5_neededBy 48 = .ok (.goto (-43), 3) := by decide +kernel
theorem dX5_neededBy_51 : decode cX5_neededBy 51 = .ok (.iload_n 3, 1) := by decide +kernel
theorem dX5_neededBy_52 : decode cX5_neededBy 52 = .ok (.ireturn, 1) := by decide +kernel
theorem dX5_draw_0 : decode cX5_draw 0 = .ok (.aload_n 0, 1) := by decide +kernel
theorem dX5_draw_1 : decode cX5_draw 1 = .ok (.aload_n 0, 1) := by decide +kernel
theorem dX5_draw_2 : decode cX5_draw 2 = .ok (.iload_n 1, 1) := by decide +kernel
theorem dX5_draw_3 : decode cX5_draw 3 = .ok (.invokevirtual 139, 3) := by decide +kernel
theorem dX5_draw_6 : decode cX5_draw 6 = .ok (.ifCond .eq 11, 3) := by decide +kernel
theorem dX5_draw_9 : decode cX5_draw 9 = .ok (.aload_n 0, 1) := by decide +kernel
theorem dX5_draw_10 : decode cX5_draw 10 = .ok (.iload_n 2, 1) := by decide +kernel
theorem dX5_draw_11 : decode cX5_draw 11 = .ok (.invokevirtual 114, 3) := by decide +kernel
theorem dX5_draw_14 : decode cX5_draw 14 = .ok (.ifCond .ne 7, 3) := by decide +kernel
theorem dX5_draw_17 : decode cX5_draw 17 = .ok (.iconst 1, 1) := by decide +kernel
theorem dX5_draw_18 : decode cX5_draw 18 = .ok (.goto 19, 3) := by decide +kernel
theorem dX5_draw_21 : decode cX5_draw 21 = .ok (.aload_n 0, 1) := by decide +kernel
theorem dX5_draw_22 : decode cX5_draw 22 = .ok (.iload_n 3, 1) := by decide +kernel
theorem dX5_draw_23 : decode cX5_draw 23 = .ok (.iconst 1, 1) := by decide +kernel
theorem dX5_draw_24 : decode cX5_draw 24 = .ok (.bipush 100, 2) := by decide +kernel
theorem dX5_draw_26 : decode cX5_draw 26 = .ok (.invokevirtual 104, 3) := by decide +kernel
theorem dX5_draw_29 : decode cX5_draw 29 = .ok (.ifCond .ne 7, 3) := by decide +kernel
theorem dX5_draw_32 : decode cX5_draw 32 = .ok (.iconst 2, 1) := by decide +kernel
theorem dX5_draw_33 : decode cX5_draw 33 = .ok (.goto 4, 3) := by decide +kernel
theorem dX5_draw_36 : decode cX5_draw 36 = .ok (.iconst 0, 1) := by decide +kernel
theorem dX5_draw_37 : decode cX5_draw 37 = .ok (.putfield 100, 3) := by decide +kernel
theorem dX5_draw_40 : decode cX5_draw 40 = .ok (.aload_n 0, 1) := by decide +kernel
theorem dX5_draw_41 : decode cX5_draw 41 = .ok (.getfield 100, 3) := by decide +kernel
theorem dX5_draw_44 : decode cX5_draw 44 = .ok (.ifCond .ne 40, 3) := by decide +kernel
theorem dX5_draw_47 : decode cX5_draw 47 = .ok (.aload_n 0, 1) := by decide +kernel
theorem dX5_draw_48 : decode cX5_draw 48 = .ok (.aload_n 0, 1) := by decide +kernel
theorem dX5_draw_49 : decode cX5_draw 49 = .ok (.getfield 88, 3) := by decide +kernel
theorem dX5_draw_52 : decode cX5_draw 52 = .ok (.iload_n 1, 1) := by decide +kernel
theorem dX5_draw_53 : decode cX5_draw 53 = .ok (.iaload, 1) := by decide +kernel
theorem dX5_draw_54 : decode cX5_draw 54 = .ok (.ifCond .ne 22, 3) := by decide +kernel
theorem dX5_draw_57 : decode cX5_draw 57 = .ok (.aload_n 0, 1) := by decide +kernel
theorem dX5_draw_58 : decode cX5_draw 58 = .ok (.getfield 20, 3) := by decide +kernel
theorem dX5_draw_61 : decode cX5_draw 61 = .ok (.iload_n 2, 1) := by decide +kernel
theorem dX5_draw_62 : decode cX5_draw 62 = .ok (.iaload, 1) := by decide +kernel
theorem dX5_draw_63 : decode cX5_draw 63 = .ok (.ifCond .ne 13, 3) := by decide +kernel
theorem dX5_draw_66 : decode cX5_draw 66 = .ok (.aload_n 0, 1) := by decide +kernel
theorem dX5_draw_67 : decode cX5_draw 67 = .ok (.getfield 23, 3) := by decide +kernel
theorem dX5_draw_70 : decode cX5_draw 70 = .ok (.iload_n 2, 1) := by decide +kernel
theorem dX5_draw_71 : decode cX5_draw 71 = .ok (.iaload, 1) := by decide +kernel
theorem dX5_draw_72 : decode cX5_draw 72 = .ok (.iconst (-1), 1) := by decide +kernel
theorem dX5_draw_73 : decode cX5_draw 73 = .ok (.if_icmp .eq 7, 3) := by decide +kernel
theorem dX5_draw_76 : decode cX5_draw 76 = .ok (.iconst 3, 1) := by decide +kernel
theorem dX5_draw_77 : decode cX5_draw 77 = .ok (.goto 4, 3) := by decide +kernel
theorem dX5_draw_80 : decode cX5_draw 80 = .ok (.iconst 0, 1) := by decide +kernel
theorem dX5_draw_81 : decode cX5_draw 81 = .ok (.putfield 100, 3) := by decide +kernel
theorem dX5_draw_84 : decode cX5_draw 84 = .ok (.aload_n 0, 1) := by decide +kernel
theorem dX5_draw_85 : decode cX5_draw 85 = .ok (.getfield 100, 3) := by decide +kernel
theorem dX5_draw_88 : decode cX5_draw 88 = .ok (.ifCond .le 5, 3) := by decide +kernel
theorem dX5_draw_91 : decode cX5_draw 91 = .ok (.iconst 0, 1) := by decide +kernel
theorem dX5_draw_92 : decode cX5_draw 92 = .ok (.ireturn, 1) := by decide +kernel
theorem dX5_draw_93 : decode cX5_draw 93 = .ok (.aload_n 0, 1) := by decide +kernel
theorem dX5_draw_94 : decode cX5_draw 94 = .ok (.getfield 23, 3) := by decide +kernel
theorem dX5_draw_97 : decode cX5_draw 97 = .ok (.iload_n 2, 1) := by decide +kernel
theorem dX5_draw_98 : decode cX5_draw 98 = .ok (.iload_n 1, 1) := by decide +kernel
theorem dX5_draw_99 : decode cX5_draw 99 = .ok (.iastore, 1) := by decide +kernel
theorem dX5_draw_100 : decode cX5_draw 100 = .ok (.aload_n 0, 1) := by decide +kernel
theorem dX5_draw_101 : decode cX5_draw 101 = .ok (.getfield 26, 3) := by decide +kernel
theorem dX5_draw_104 : decode cX5_draw 104 = .ok (.iload_n 2, 1) := by decide +kernel
theorem dX5_draw_105 : decode cX5_draw 105 = .ok (.iload_n 3, 1) := by decide +kernel
theorem dX5_draw_106 : decode cX5_draw 106 = .ok (.iastore, 1) := by decide +kernel
theorem dX5_draw_107 : decode cX5_draw 107 = .ok (.aload_n 0, 1) := by decide +kernel
theorem dX5_draw_108 : decode cX5_draw 108 = .ok (.iload_n 1, 1) := by decide +kernel
theorem dX5_draw_109 : decode cX5_draw 109 = .ok (.iconst 0, 1) := by decide +kernel
theorem dX5_draw_110 : decode cX5_draw 110 = .ok (.invokevirtual 142, 3) := by decide +kernel
theorem dX5_draw_113 : decode cX5_draw 113 = .ok (.ireturn, 1) := by decide +kernel
theorem dX5_isDrafted_0 : decode cX5_isDrafted 0 = .ok (.aload_n 0, 1) := by decide +kernel
theorem dX5_isDrafted_1 : decode cX5_isDrafted 1 = .ok (.getfield 49, 3) := by decide +kernel
theorem dX5_isDrafted_4 : decode cX5_isDrafted 4 = .ok (.iload_n 1, 1) := by decide +kernel
theorem dX5_isDrafted_5 : decode cX5_isDrafted 5 = .ok (.iaload, 1) := by decide +kernel
theorem dX5_isDrafted_6 : decode cX5_isDrafted 6 = .ok (.istore_n 2, 1) := by decide +kernel
theorem dX5_isDrafted_7 : decode cX5_isDrafted 7 = .ok (.aload_n 0, 1) := by decide +kernel
theorem dX5_isDrafted_8 : decode cX5_isDrafted 8 = .ok (.getfield 20, 3) := by decide +kernel
theorem dX5_isDrafted_11 : decode cX5_isDrafted 11 = .ok (.iload_n 2, 1) := by decide +kernel
theorem dX5_isDrafted_12 : decode cX5_isDrafted 12 = .ok (.iaload, 1) := by decide +kernel
theorem dX5_isDrafted_13 : decode cX5_isDrafted 13 = .ok (.ifCond .ne 31, 3) := by decide +kernel
theorem dX5_isDrafted_16 : decode cX5_isDrafted 16 = .ok (.aload_n 0, 1) := by decide +kernel
theorem dX5_isDrafted_17 : decode cX5_isDrafted 17 = .ok (.getfield 23, 3) := by decide +kernel
theorem dX5_isDrafted_20 : decode cX5_isDrafted 20 = .ok (.iload_n 2, 1) := by decide +kernel
theorem dX5_isDrafted_21 : decode cX5_isDrafted 21 = .ok (.iaload, 1) := by decide +kernel
theorem dX5_isDrafted_22 : decode cX5_isDrafted 22 = .ok (.iconst (-1), 1) := by decide +kernel
theorem dX5_isDrafted_23 : decode cX5_isDrafted 23 = .ok (.if_icmp .eq 21, 3) := by decide +kernel
theorem dX5_isDrafted_26 : decode cX5_isDrafted 26 = .ok (.aload_n 0, 1) := by decide +kernel
theorem dX5_isDrafted_27 : decode cX5_isDrafted 27 = .ok (.getfield 88, 3) := by decide +kernel
theorem dX5_isDrafted_30 : decode cX5_isDrafted 30 = .ok (.aload_n 0, 1) := by decide +kernel
theorem dX5_isDrafted_31 : decode cX5_isDrafted 31 = .ok (.getfield 23, 3) := by decide +kernel
theorem dX5_isDrafted_34 : decode cX5_isDrafted 34 = .ok (.iload_n 2, 1) := by decide +kernel
theorem dX5_isDrafted_35 : decode cX5_isDrafted 35 = .ok (.iaload, 1) := by decide +kernel
theorem dX5_isDrafted_36 : decode cX5_isDrafted 36 = .ok (.iaload, 1) := by decide +kernel
theorem dX5_isDrafted_37 : decode cX5_isDrafted 37 = .ok (.ifCond .ne 7, 3) := by decide +kernel
theorem dX5_isDrafted_40 : decode cX5_isDrafted 40 = .ok (.iconst 1, 1) := by decide +kernel
theorem dX5_isDrafted_41 : decode cX5_isDrafted 41 = .ok (.goto 4, 3) := by decide +kernel
theorem dX5_isDrafted_44 : decode cX5_isDrafted 44 = .ok (.iconst 0, 1) := by decide +kernel
theorem dX5_isDrafted_45 : decode cX5_isDrafted 45 = .ok (.ireturn, 1) := by decide +kernel
theorem dX5_notice_0 : decode cX5_notice 0 = .ok (.aload_n 0, 1) := by decide +kernel
theorem dX5_notice_1 : decode cX5_notice 1 = .ok (.aload_n 0, 1) := by decide +kernel
theorem dX5_notice_2 : decode cX5_notice 2 = .ok (.iload_n 1, 1) := by decide +kernel
theorem dX5_notice_3 : decode cX5_notice 3 = .ok (.invokevirtual 136, 3) := by decide +kernel
theorem dX5_notice_6 : decode cX5_notice 6 = .ok (.ifCond .ne 7, 3) := by decide +kernel
theorem dX5_notice_9 : decode cX5_notice 9 = .ok (.iconst 1, 1) := by decide +kernel
theorem dX5_notice_10 : decode cX5_notice 10 = .ok (.goto 26, 3) := by decide +kernel
theorem dX5_notice_13 : decode cX5_notice 13 = .ok (.aload_n 0, 1) := by decide +kernel
theorem dX5_notice_14 : decode cX5_notice 14 = .ok (.iload_n 1, 1) := by decide +kernel
theorem dX5_notice_15 : decode cX5_notice 15 = .ok (.invokevirtual 146, 3) := by decide +kernel
theorem dX5_notice_18 : decode cX5_notice 18 = .ok (.ifCond .eq 13, 3) := by decide +kernel
theorem dX5_notice_21 : decode cX5_notice 21 = .ok (.aload_n 0, 1) := by decide +kernel
theorem dX5_notice_22 : decode cX5_notice 22 = .ok (.getfield 61, 3) := by decide +kernel
theorem dX5_notice_25 : decode cX5_notice 25 = .ok (.iload_n 1, 1) := by decide +kernel
theorem dX5_notice_26 : decode cX5_notice 26 = .ok (.iaload, 1) := by decide +kernel
theorem dX5_notice_27 : decode cX5_notice 27 = .ok (.iconst (-1), 1) := by decide +kernel
theorem dX5_notice_28 : decode cX5_notice 28 = .ok (.if_icmp .eq 7, 3) := by decide +kernel
theorem dX5_notice_31 : decode cX5_notice 31 = .ok (.iconst 2, 1) := by decide +kernel
theorem dX5_notice_32 : decode cX5_notice 32 = .ok (.goto 4, 3) := by decide +kernel
theorem dX5_notice_35 : decode cX5_notice 35 = .ok (.iconst 0, 1) := by decide +kernel
theorem dX5_notice_36 : decode cX5_notice 36 = .ok (.putfield 100, 3) := by decide +kernel
theorem dX5_notice_39 : decode cX5_notice 39 = .ok (.aload_n 0, 1) := by decide +kernel
theorem dX5_notice_40 : decode cX5_notice 40 = .ok (.getfield 100, 3) := by decide +kernel
theorem dX5_notice_43 : decode cX5_notice 43 = .ok (.ifCond .le 5, 3) := by decide +kernel
theorem dX5_notice_46 : decode cX5_notice 46 = .ok (.iconst 0, 1) := by decide +kernel
theorem dX5_notice_47 : decode cX5_notice 47 = .ok (.ireturn, 1) := by decide +kernel
theorem dX5_notice_48 : decode cX5_notice 48 = .ok (.aload_n 0, 1) := by decide +kernel
theorem dX5_notice_49 : decode cX5_notice 49 = .ok (.getfield 61, 3) := by decide +kernel
theorem dX5_notice_52 : decode cX5_notice 52 = .ok (.iload_n 1, 1) := by decide +kernel
theorem dX5_notice_53 : decode cX5_notice 53 = .ok (.aload_n 0, 1) := by decide +kernel
theorem dX5_notice_54 : decode cX5_notice 54 = .ok (.getfield 121, 3) := by decide +kernel
theorem dX5_notice_57 : decode cX5_notice 57 = .ok (.iastore, 1) := by decide +kernel
theorem dX5_notice_58 : decode cX5_notice 58 = .ok (.aload_n 0, 1) := by decide +kernel
theorem dX5_notice_59 : decode cX5_notice 59 = .ok (.getfield 23, 3) := by decide +kernel
theorem dX5_notice_62 : decode cX5_notice 62 = .ok (.aload_n 0, 1) := by decide +kernel
theorem dX5_notice_63 : decode cX5_notice 63 = .ok (.getfield 49, 3) := by decide +kernel
theorem dX5_notice_66 : decode cX5_notice 66 = .ok (.iload_n 1, 1) := by decide +kernel
theorem dX5_notice_67 : decode cX5_notice 67 = .ok (.iaload, 1) := by decide +kernel
theorem dX5_notice_68 : decode cX5_notice 68 = .ok (.iaload, 1) := by decide +kernel
theorem dX5_notice_69 : decode cX5_notice 69 = .ok (.ireturn, 1) := by decide +kernel
theorem dX5_openOf_0 : decode cX5_openOf 0 = .ok (.iconst 0, 1) := by decide +kernel
theorem dX5_openOf_1 : decode cX5_openOf 1 = .ok (.istore_n 2, 1) := by decide +kernel
theorem dX5_openOf_2 : decode cX5_openOf 2 = .ok (.iconst 0, 1) := by decide +kernel
theorem dX5_openOf_3 : decode cX5_openOf 3 = .ok (.istore_n 3, 1) := by decide +kernel
theorem dX5_openOf_4 : decode cX5_openOf 4 = .ok (.iload_n 3, 1) := by decide +kernel
theorem dX5_openOf_5 : decode cX5_openOf 5 = .ok (.aload_n 0, 1) := by decide +kernel
theorem dX5_openOf_6 : decode cX5_openOf 6 = .ok (.getfield 108, 3) := by decide +kernel
theorem dX5_openOf_9 : decode cX5_openOf 9 = .ok (.if_icmp .ge 56, 3) := by decide +kernel
theorem dX5_openOf_12 : decode cX5_openOf 12 = .ok (.iload_n 2, 1) := by decide +kernel
theorem dX5_openOf_13 : decode cX5_openOf 13 = .ok (.aload_n 0, 1) := by decide +kernel
theorem dX5_openOf_14 : decode cX5_openOf 14 = .ok (.getfield 64, 3) := by decide +kernel
theorem dX5_openOf_17 : decode cX5_openOf 17 = .ok (.iload_n 3, 1) := by decide +kernel
theorem dX5_openOf_18 : decode cX5_openOf 18 = .ok (.iaload, 1) := by decide +kernel
theorem dX5_openOf_19 : decode cX5_openOf 19 = .ok (.iconst 1, 1) := by decide +kernel
theorem dX5_openOf_20 : decode cX5_openOf 20 = .ok (.if_icmp .ne 36, 3) := by decide +kernel
theorem dX5_openOf_23 : decode cX5_openOf 23 = .ok (.aload_n 0, 1) := by decide +kernel
theorem dX5_openOf_24 : decode cX5_openOf 24 = .ok (.getfield 20, 3) := by decide +kernel
theorem dX5_openOf_27 : decode cX5_openOf 27 = .ok (.aload_n 0, 1) := by decide +kernel
theorem dX5_openOf_28 : decode cX5_openOf 28 = .ok (.getfield 49, 3) := by decide +kernel
theorem dX5_openOf_31 : decode cX5_openOf 31 = .ok (.iload_n 3, 1) := by decide +kernel
theorem dX5_openOf_32 : decode cX5_openOf 32 = .ok (.iaload, 1) := by decide +kernel
theorem dX5_openOf_33 : decode cX5_openOf 33 = .ok (.iaload, 1) := by decide +kernel
theorem dX5_openOf_34 : decode cX5_openOf 34 = .ok (.ifCond .ne 22, 3) := by decide +kernel
theorem dX5_openOf_37 : decode cX5_openOf 37 = .ok (.aload_n 0, 1) := by decide +kernel
theorem dX5_openOf_38 : decode cX5_openOf 38 = .ok (.getfield 23, 3) := by decide +kernel
theorem dX5_openOf_41 : decode cX5_openOf 41 = .ok (.aload_n 0, 1) := by decide +kernel
theorem dX5_openOf_42 : decode cX5_openOf 42 = .ok (.getfield 49, 3) := by decide +kernel
theorem dX5_openOf_45 : decode cX5_openOf 45 = .ok (.iload_n 3, 1) := by decide +kernel
theorem dX5_openOf_46 : decode cX5_openOf 46 = .ok (.iaload, 1) := by decide +kernel
theorem dX5_openOf_47 : decode cX5_openOf 47 = .ok (.iaload, 1) := by decide +kernel
theorem dX5_openOf_48 : decode cX5_openOf 48 = .ok (.iload_n 1, 1) := by decide +kernel
theorem dX5_openOf_49 : decode cX5_openOf 49 = .ok (.if_icmp .ne 7, 3) := by decide +kernel
theorem dX5_openOf_52 : decode cX5_openOf 52 = .ok (.iconst 1, 1) := by decide +kernel
theorem dX5_openOf_53 : decode cX5_openOf 53 = .ok (.goto 4, 3) := by decide +kernel
theorem dX5_openOf_56 : decode cX5_openOf 56 = .ok (.iconst 0, 1) := by decide +kernel
theorem dX5_openOf_57 : decode cX5_openOf 57 = .ok (.iadd, 1) := by decide +kernel
theorem dX5_openOf_58 : decode cX5_openOf 58 = .ok (.istore_n 2, 1) := by decide +kernel
theorem dX5_openOf_59 : decode cX5_openOf 59 = .ok (.iinc 3 1, 3) := by decide +kernel
theorem dX5_openOf_62 : decode cX5_openOf 62 = .ok (.goto (-58), 3) := by decide +kernel
theorem dX5_openOf_65 : decode cX5_openOf 65 = .ok (.iload_n 2, 1) := by decide +kernel
theorem dX5_openOf_66 : decode cX5_openOf 66 = .ok (.ireturn, 1) := by decide +kernel
theorem dX5_object_0 : decode cX5_object 0 = .ok (.aload_n 0, 1) := by decide +kernel
theorem dX5_object_1 : decode cX5_object 1 = .ok (.aload_n 0, 1) := by decide +kernel
theorem dX5_object_2 : decode cX5_object 2 = .ok (.iload_n 1, 1) := by decide +kernel
theorem dX5_object_3 : decode cX5_object 3 = .ok (.invokevirtual 136, 3) := by decide +kernel
theorem dX5_object_6 : decode cX5_object 6 = .ok (.ifCond .ne 7, 3) := by decide +kernel
theorem dX5_object_9 : decode cX5_object 9 = .ok (.iconst 1, 1) := by decide +kernel
theorem dX5_object_10 : decode cX5_object 10 = .ok (.goto 4, 3) := by decide +kernel
theorem dX5_object_13 : decode cX5_object 13 = .ok (.iconst 0, 1) := by decide +kernel
theorem dX5_object_14 : decode cX5_object 14 = .ok (.putfield 100, 3) := by decide +kernel
theorem dX5_object_17 : decode cX5_object 17 = .ok (.aload_n 0, 1) := by decide +kernel
theorem dX5_object_18 : decode cX5_object 18 = .ok (.getfield 100, 3) := by decide +kernel
theorem dX5_object_21 : decode cX5_object 21 = .ok (.ifCond .ne 65, 3) := by decide +kernel
theorem dX5_object_24 : decode cX5_object 24 = .ok (.aload_n 0, 1) := by decide +kernel
theorem dX5_object_25 : decode cX5_object 25 = .ok (.getfield 61, 3) := by decide +kernel
theorem dX5_object_28 : decode cX5_object 28 = .ok (.iload_n 1, 1) := by decide +kernel
theorem dX5_object_29 : decode cX5_object 29 = .ok (.iaload, 1) := by decide +kernel
theorem dX5_object_30 : decode cX5_object 30 = .ok (.iconst (-1), 1) := by decide +kernel
theorem dX5_object_31 : decode cX5_object 31 = .ok (.if_icmp .eq 32, 3) := by decide +kernel
theorem dX5_object_34 : decode cX5_object 34 = .ok (.aload_n 0, 1) := by decide +kernel
theorem dX5_object_35 : decode cX5_object 35 = .ok (.getfield 121, 3) := by decide +kernel
theorem dX5_object_38 : decode cX5_object 38 = .ok (.aload_n 0, 1) := by decide +kernel
theorem dX5_object_39 : decode cX5_object 39 = .ok (.getfield 61, 3) := by decide +kernel
theorem dX5_object_42 : decode cX5_object 42 = .ok (.iload_n 1, 1) := by decide +kernel
theorem dX5_object_43 : decode cX5_object 43 = .ok (.iaload, 1) := by decide +kernel
theorem dX5_object_44 : decode cX5_object 44 = .ok (.isub, 1) := by decide +kernel
theorem dX5_object_45 : decode cX5_object 45 = .ok (.bipush 21, 2) := by decide +kernel
theorem dX5_object_47 : decode cX5_object 47 = .ok (.if_icmp .gt 16, 3) := by decide +kernel
theorem dX5_object_50 : decode cX5_object 50 = .ok (.aload_n 0, 1) := by decide +kernel
theorem dX5_object_51 : decode cX5_object 51 = .ok (.getfield 64, 3) := by decide +kernel
theorem dX5_object_54 : decode cX5_object 54 = .ok (.iload_n 1, 1) := by decide +kernel
theorem dX5_object_55 : decode cX5_object 55 = .ok (.iaload, 1) := by decide +kernel
theorem dX5_object_56 : decode cX5_object 56 = .ok (.ifCond .ne 7, 3) := by decide +kernel
theorem dX5_object_59 : decode cX5_object 59 = .ok (.iconst 1, 1) := by decide +kernel
theorem dX5_object_60 : decode cX5_object 60 = .ok (.goto 4, 3) := by decide +kernel
theorem dX5_object_63 : decode cX5_object 63 = .ok (.iconst 0, 1) := by decide +kernel
theorem dX5_object_64 : decode cX5_object 64 = .ok (.istore_n 2, 1) := by decide +kernel
theorem dX5_object_65 : decode cX5_object 65 = .ok (.aload_n 0, 1) := by decide +kernel
theorem dX5_object_66 : decode cX5_object 66 = .ok (.iload_n 2, 1) := by decide +kernel
theorem dX5_object_67 : decode cX5_object 67 = .ok (.ifCond .eq 11, 3) := by decide +kernel
theorem dX5_object_70 : decode cX5_object 70 = .ok (.aload_n 0, 1) := by decide +kernel
theorem dX5_object_71 : decode cX5_object 71 = .ok (.iload_n 1, 1) := by decide +kernel
theorem dX5_object_72 : decode cX5_object 72 = .ok (.invokevirtual 146, 3) := by decide +kernel
theorem dX5_object_75 : decode cX5_object 75 = .ok (.ifCond .ne 7, 3) := by decide +kernel
theorem dX5_object_78 : decode cX5_object 78 = .ok (.iconst 2, 1) := by decide +kernel
theorem dX5_object_79 : decode cX5_object 79 = .ok (.goto 4, 3) := by decide +kernel
theorem dX5_object_82 : decode cX5_object 82 = .ok (.iconst 0, 1) := by decide +kernel
theorem dX5_object_83 : decode cX5_object 83 = .ok (.putfield 100, 3) := by decide +kernel
theorem dX5_object_86 : decode cX5_object 86 = .ok (.aload_n 0, 1) := by decide +kernel
theorem dX5_object_87 : decode cX5_object 87 = .ok (.getfield 100, 3) := by decide +kernel
theorem dX5_object_90 : decode cX5_object 90 = .ok (.ifCond .le 5, 3) := by decide +kernel
theorem dX5_object_93 : decode cX5_object 93 = .ok (.iconst 0, 1) := by decide +kernel
theorem dX5_object_94 : decode cX5_object 94 = .ok (.ireturn, 1) := by decide +kernel
theorem dX5_object_95 : decode cX5_object 95 = .ok (.aload_n 0, 1) := by decide +kernel
theorem dX5_object_96 : decode cX5_object 96 = .ok (.getfield 64, 3) := by decide +kernel
theorem dX5_object_99 : decode cX5_object 99 = .ok (.iload_n 1, 1) := by decide +kernel
theorem dX5_object_100 : decode cX5_object 100 = .ok (.iconst 1, 1) := by decide +kernel
theorem dX5_object_101 : decode cX5_object 101 = .ok (.iastore, 1) := by decide +kernel
theorem dX5_object_102 : decode cX5_object 102 = .ok (.aload_n 0, 1) := by decide +kernel
theorem dX5_object_103 : decode cX5_object 103 = .ok (.aload_n 0, 1) := by decide +kernel
theorem dX5_object_104 : decode cX5_object 104 = .ok (.getfield 23, 3) := by decide +kernel
theorem dX5_object_107 : decode cX5_object 107 = .ok (.aload_n 0, 1) := by decide +kernel
theorem dX5_object_108 : decode cX5_object 108 = .ok (.getfield 49, 3) := by decide +kernel
theorem dX5_object_111 : decode cX5_object 111 = .ok (.iload_n 1, 1) := by decide +kernel
theorem dX5_object_112 : decode cX5_object 112 = .ok (.iaload, 1) := by decide +kernel
theorem dX5_object_113 : decode cX5_object 113 = .ok (.iaload, 1) := by decide +kernel
theorem dX5_object_114 : decode cX5_object 114 = .ok (.invokevirtual 149, 3) := by decide +kernel
theorem dX5_object_117 : decode cX5_object 117 = .ok (.ireturn, 1) := by decide +kernel
theorem dX5_letGo_0 : decode cX5_letGo 0 = .ok (.aload_n 0, 1) := by decide +kernel
theorem dX5_letGo_1 : decode cX5_letGo 1 = .ok (.getfield 23, 3) := by decide +kernel
theorem dX5_letGo_4 : decode cX5_letGo 4 = .ok (.iload_n 1, 1) := by decide +kernel
theorem dX5_letGo_5 : decode cX5_letGo 5 = .ok (.iconst (-1), 1) := by decide +kernel
theorem dX5_letGo_6 : decode cX5_letGo 6 = .ok (.iastore, 1) := by decide +kernel
theorem dX5_letGo_7 : decode cX5_letGo 7 = .ok (.aload_n 0, 1) := by decide +kernel
theorem dX5_letGo_8 : decode cX5_letGo 8 = .ok (.getfield 26, 3) := by decide +kernel
theorem dX5_letGo_11 : decode cX5_letGo 11 = .ok (.iload_n 1, 1) := by decide +kernel
theorem dX5_letGo_12 : decode cX5_letGo 12 = .ok (.iconst 0, 1) := by decide +kernel
theorem dX5_letGo_13 : decode cX5_letGo 13 = .ok (.iastore, 1) := by decide +kernel
theorem dX5_letGo_14 : decode cX5_letGo 14 = .ok (.iconst 0, 1) := by decide +kernel
theorem dX5_letGo_15 : decode cX5_letGo 15 = .ok (.istore_n 2, 1) := by decide +kernel
theorem dX5_letGo_16 : decode cX5_letGo 16 = .ok (.iload_n 2, 1) := by decide +kernel
theorem dX5_letGo_17 : decode cX5_letGo 17 = .ok (.aload_n 0, 1) := by decide +kernel
theorem dX5_letGo_18 : decode cX5_letGo 18 = .ok (.getfield 108, 3) := by decide +kernel
theorem dX5_letGo_21 : decode cX5_letGo 21 = .ok (.if_icmp .ge 33, 3) := by decide +kernel
theorem dX5_letGo_24 : decode cX5_letGo 24 = .ok (.aload_n 0, 1) := by decide +kernel
theorem dX5_letGo_25 : decode cX5_letGo 25 = .ok (.getfield 49, 3) := by decide +kernel
theorem dX5_letGo_28 : decode cX5_letGo 28 = .ok (.iload_n 2, 1) := by decide +kernel
theorem dX5_letGo_29 : decode cX5_letGo 29 = .ok (.iaload, 1) := by decide +kernel
theorem dX5_letGo_30 : decode cX5_letGo 30 = .ok (.iload_n 1, 1) := by decide +kernel
theorem dX5_letGo_31 : decode cX5_letGo 31 = .ok (.if_icmp .ne 17, 3) := by decide +kernel
theorem dX5_letGo_34 : decode cX5_letGo 34 = .ok (.aload_n 0, 1) := by decide +kernel
theorem dX5_letGo_35 : decode cX5_letGo 35 = .ok (.getfield 61, 3) := by decide +kernel
theorem dX5_letGo_38 : decode cX5_letGo 38 = .ok (.iload_n 2, 1) := by decide +kernel
theorem dX5_letGo_39 : decode cX5_letGo 39 = .ok (.iconst (-1), 1) := by decide +kernel
theorem dX5_letGo_40 : decode cX5_letGo 40 = .ok (.iastore, 1) := by decide +kernel
theorem dX5_letGo_41 : decode cX5_letGo 41 = .ok (.aload_n 0, 1) := by decide +kernel
theorem dX5_letGo_42 : decode cX5_letGo 42 = .ok (.getfield 64, 3) := by decide +kernel
theorem dX5_letGo_45 : decode cX5_letGo 45 = .ok (.iload_n 2, 1) := by decide +kernel
theorem dX5_letGo_46 : decode cX5_letGo 46 = .ok (.iconst 0, 1) := by decide +kernel
theorem dX5_letGo_47 : decode cX5_letGo 47 = .ok (.iastore, 1) := by decide +kernel
theorem dX5_letGo_48 : decode cX5_letGo 48 = .ok (.iinc 2 1, 3) := by decide +kernel
theorem dX5_letGo_51 : decode cX5_letGo 51 = .ok (.goto (-35), 3) := by decide +kernel
theorem dX5_letGo_54 : decode cX5_letGo 54 = .ok (.return_, 1) := by decide +kernel
theorem dX5_hear_0 : decode cX5_hear 0 = .ok (.aload_n 0, 1) := by decide +kernel
theorem dX5_hear_1 : decode cX5_hear 1 = .ok (.aload_n 0, 1) := by decide +kernel
theorem dX5_hear_2 : decode cX5_hear 2 = .ok (.iload_n 1, 1) := by decide +kernel
theorem dX5_hear_3 : decode cX5_hear 3 = .ok (.invokevirtual 136, 3) := by decide +kernel
theorem dX5_hear_6 : decode cX5_hear 6 = .ok (.ifCond .ne 7, 3) := by decide +kernel
theorem dX5_hear_9 : decode cX5_hear 9 = .ok (.iconst 1, 1) := by decide +kernel
theorem dX5_hear_10 : decode cX5_hear 10 = .ok (.goto 26, 3) := by decide +kernel
theorem dX5_hear_13 : decode cX5_hear 13 = .ok (.aload_n 0, 1) := by decide +kernel
theorem dX5_hear_14 : decode cX5_hear 14 = .ok (.getfield 64, 3) := by decide +kernel
theorem dX5_hear_17 : decode cX5_hear 17 = .ok (.iload_n 1, 1) := by decide +kernel
theorem dX5_hear_18 : decode cX5_hear 18 = .ok (.iaload, 1) := by decide +kernel
theorem dX5_hear_19 : decode cX5_hear 19 = .ok (.iconst 1, 1) := by decide +kernel
theorem dX5_hear_20 : decode cX5_hear 20 = .ok (.if_icmp .ne 11, 3) := by decide +kernel
theorem dX5_hear_23 : decode cX5_hear 23 = .ok (.aload_n 0, 1) := by decide +kernel
theorem dX5_hear_24 : decode cX5_hear 24 = .ok (.iload_n 1, 1) := by decide +kernel
theorem dX5_hear_25 : decode cX5_hear 25 = .ok (.invokevirtual 146, 3) := by decide +kernel
theorem dX5_hear_28 : decode cX5_hear 28 = .ok (.ifCond .ne 7, 3) := by decide +kernel
theorem dX5_hear_31 : decode cX5_hear 31 = .ok (.iconst 2, 1) := by decide +kernel
theorem dX5_hear_32 : decode cX5_hear 32 = .ok (.goto 4, 3) := by decide +kernel
theorem dX5_hear_35 : decode cX5_hear 35 = .ok (.iconst 0, 1) := by decide +kernel
theorem dX5_hear_36 : decode cX5_hear 36 = .ok (.putfield 100, 3) := by decide +kernel
theorem dX5_hear_39 : decode cX5_hear 39 = .ok (.aload_n 0, 1) := by decide +kernel
theorem dX5_hear_40 : decode cX5_hear 40 = .ok (.getfield 100, 3) := by decide +kernel
theorem dX5_hear_43 : decode cX5_hear 43 = .ok (.ifCond .le 5, 3) := by decide +kernel
theorem dX5_hear_46 : decode cX5_hear 46 = .ok (.iconst 0, 1) := by decide +kernel
theorem dX5_hear_47 : decode cX5_hear 47 = .ok (.ireturn, 1) := by decide +kernel
theorem dX5_hear_48 : decode cX5_hear 48 = .ok (.aload_n 0, 1) := by decide +kernel
theorem dX5_hear_49 : decode cX5_hear 49 = .ok (.getfield 23, 3) := by decide +kernel
theorem dX5_hear_52 : decode cX5_hear 52 = .ok (.aload_n 0, 1) := by decide +kernel
theorem dX5_hear_53 : decode cX5_hear 53 = .ok (.getfield 49, 3) := by decide +kernel
theorem dX5_hear_56 : decode cX5_hear 56 = .ok (.iload_n 1, 1) := by decide +kernel
theorem dX5_hear_57 : decode cX5_hear 57 = .ok (.iaload, 1) := by decide +kernel
theorem dX5_hear_58 : decode cX5_hear 58 = .ok (.iaload, 1) := by decide +kernel
theorem dX5_hear_59 : decode cX5_hear 59 = .ok (.istore_n 3, 1) := by decide +kernel
theorem dX5_hear_60 : decode cX5_hear 60 = .ok (.iload_n 2, 1) := by decide +kernel
theorem dX5_hear_61 : decode cX5_hear 61 = .ok (.ifCond .eq 16, 3) := by decide +kernel
theorem dX5_hear_64 : decode cX5_hear 64 = .ok (.aload_n 0, 1) := by decide +kernel
theorem dX5_hear_65 : decode cX5_hear 65 = .ok (.aload_n 0, 1) := by decide +kernel
theorem dX5_hear_66 : decode cX5_hear 66 = .ok (.getfield 49, 3) := by decide +kernel
theorem dX5_hear_69 : decode cX5_hear 69 = .ok (.iload_n 1, 1) := by decide +kernel
theorem dX5_hear_70 : decode cX5_hear 70 = .ok (.iaload, 1) := by decide +kernel
theorem dX5_hear_71 : decode cX5_hear 71 = .ok (.invokevirtual 153, 3) := by decide +kernel
theorem dX5_hear_74 : decode cX5_hear 74 = .ok (.goto 10, 3) := by decide +kernel
theorem dX5_hear_77 : decode cX5_hear 77 = .ok (.aload_n 0, 1) := by decide +kernel
theorem dX5_hear_78 : decode cX5_hear 78 = .ok (.getfield 64, 3) := by decide +kernel
theorem dX5_hear_81 : decode cX5_hear 81 = .ok (.iload_n 1, 1) := by decide +kernel
theorem dX5_hear_82 : decode cX5_hear 82 = .ok (.iconst 2, 1) := by decide +kernel
theorem dX5_hear_83 : decode cX5_hear 83 = .ok (.iastore, 1) := by decide +kernel
theorem dX5_hear_84 : decode cX5_hear 84 = .ok (.aload_n 0, 1) := by decide +kernel
theorem dX5_hear_85 : decode cX5_hear 85 = .ok (.iload_n 3, 1) := by decide +kernel
theorem dX5_hear_86 : decode cX5_hear 86 = .ok (.invokevirtual 149, 3) := by decide +kernel
theorem dX5_hear_89 : decode cX5_hear 89 = .ok (.ireturn, 1) := by decide +kernel
theorem dX5_stopper_0 : decode cX5_stopper 0 = .ok (.iconst 0, 1) := by decide +kernel
theorem dX5_stopper_1 : decode cX5_stopper 1 = .ok (.istore_n 2, 1) := by decide +kernel
theorem dX5_stopper_2 : decode cX5_stopper 2 = .ok (.iload_n 2, 1) := by decide +kernel
theorem dX5_stopper_3 : decode cX5_stopper 3 = .ok (.aload_n 0, 1) := by decide +kernel
theorem dX5_stopper_4 : decode cX5_stopper 4 = .ok (.getfield 108, 3) := by decide +kernel
theorem dX5_stopper_7 : decode cX5_stopper 7 = .ok (.if_icmp .ge 109, 3) := by decide +kernel
theorem dX5_stopper_10 : decode cX5_stopper 10 = .ok (.aload_n 0, 1) := by decide +kernel
theorem dX5_stopper_11 : decode cX5_stopper 11 = .ok (.getfield 20, 3) := by decide +kernel
theorem dX5_stopper_14 : decode cX5_stopper 14 = .ok (.aload_n 0, 1) := by decide +kernel
theorem dX5_stopper_15 : decode cX5_stopper 15 = .ok (.getfield 49, 3) := by decide +kernel
theorem dX5_stopper_18 : decode cX5_stopper 18 = .ok (.iload_n 2, 1) := by decide +kernel
theorem dX5_stopper_19 : decode cX5_stopper 19 = .ok (.iaload, 1) := by decide +kernel
theorem dX5_stopper_20 : decode cX5_stopper 20 = .ok (.iaload, 1) := by decide +kernel
theorem dX5_stopper_21 : decode cX5_stopper 21 = .ok (.ifCond .ne 45, 3) := by decide +kernel
theorem dX5_stopper_24 : decode cX5_stopper 24 = .ok (.aload_n 0, 1) := by decide +kernel
theorem dX5_stopper_25 : decode cX5_stopper 25 = .ok (.getfield 23, 3) := by decide +kernel
theorem dX5_stopper_28 : decode cX5_stopper 28 = .ok (.aload_n 0, 1) := by decide +kernel
theorem dX5_stopper_29 : decode cX5_stopper 29 = .ok (.getfield 49, 3) := by decide +kernel
theorem dX5_stopper_32 : decode cX5_stopper 32 = .ok (.iload_n 2, 1) := by decide +kernel
theorem dX5_stopper_33 : decode cX5_stopper 33 = .ok (.iaload, 1) := by decide +kernel
theorem dX5_stopper_34 : decode cX5_stopper 34 = .ok (.iaload, 1) := by decide +kernel
theorem dX5_stopper_35 : decode cX5_stopper 35 = .ok (.iload_n 1, 1) := by decide +kernel
theorem dX5_stopper_36 : decode cX5_stopper 36 = .ok (.if_icmp .ne 30, 3) := by decide +kernel
theorem dX5_stopper_39 : decode cX5_stopper 39 = .ok (.aload_n 0, 1) := by decide +kernel
theorem dX5_stopper_40 : decode cX5_stopper 40 = .ok (.getfield 46, 3) := by decide +kernel
theorem dX5_stopper_43 : decode cX5_stopper 43 = .ok (.iload_n 2, 1) := by decide +kernel
theorem dX5_stopper_44 : decode cX5_stopper 44 = .ok (.iaload, 1) := by decide +kernel
theorem dX5_stopper_45 : decode cX5_stopper 45 = .ok (.iconst 1, 1) := by decide +kernel
theorem dX5_stopper_46 : decode cX5_stopper 46 = .ok (.if_icmp .ne 16, 3) := by decide +kernel
theorem dX5_stopper_49 : decode cX5_stopper 49 = .ok (.aload_n 0, 1) := by decide +kernel
theorem dX5_stopper_50 : decode cX5_stopper 50 = .ok (.getfield 58, 3) := by decide +kernel
theorem dX5_stopper_53 : decode cX5_stopper 53 = .ok (.iload_n 2, 1) := by decide +kernel
theorem dX5_stopper_54 : decode cX5_stopper 54 = .ok (.iaload, 1) := by decide +kernel
theorem dX5_stopper_55 : decode cX5_stopper 55 = .ok (.aload_n 0, 1) := by decide +kernel
theorem dX5_stopper_56 : decode cX5_stopper 56 = .ok (.getfield 121, 3) := by decide +kernel
theorem dX5_stopper_59 : decode cX5_stopper 59 = .ok (.if_icmp .le 7, 3) := by decide +kernel
theorem dX5_stopper_62 : decode cX5_stopper 62 = .ok (.iconst 1, 1) := by decide +kernel
theorem dX5_stopper_63 : decode cX5_stopper 63 = .ok (.goto 4, 3) := by decide +kernel
theorem dX5_stopper_66 : decode cX5_stopper 66 = .ok (.iconst 0, 1) := by decide +kernel
theorem dX5_stopper_67 : decode cX5_stopper 67 = .ok (.istore_n 3, 1) := by decide +kernel
theorem dX5_stopper_68 : decode cX5_stopper 68 = .ok (.iload_n 3, 1) := by decide +kernel
theorem dX5_stopper_69 : decode cX5_stopper 69 = .ok (.ifCond .eq 41, 3) := by decide +kernel
theorem dX5_stopper_72 : decode cX5_stopper 72 = .ok (.aload_n 0, 1) := by decide +kernel
theorem dX5_stopper_73 : decode cX5_stopper 73 = .ok (.getfield 61, 3) := by decide +kernel
theorem dX5_stopper_76 : decode cX5_stopper 76 = .ok (.iload_n 2, 1) := by decide +kernel
theorem dX5_stopper_77 : decode cX5_stopper 77 = .ok (.iaload, 1) := by decide +kernel
theorem dX5_stopper_78 : decode cX5_stopper 78 = .ok (.iconst (-1), 1) := by decide +kernel
theorem dX5_stopper_79 : decode cX5_stopper 79 = .ok (.if_icmp .eq 29, 3) := by decide +kernel
theorem dX5_stopper_82 : decode cX5_stopper 82 = .ok (.aload_n 0, 1) := by decide +kernel
theorem dX5_stopper_83 : decode cX5_stopper 83 = .ok (.getfield 121, 3) := by decide +kernel
theorem dX5_stopper_86 : decode cX5_stopper 86 = .ok (.aload_n 0, 1) := by decide +kernel
theorem dX5_stopper_87 : decode cX5_stopper 87 = .ok (.getfield 61, 3) := by decide +kernel
theorem dX5_stopper_90 : decode cX5_stopper 90 = .ok (.iload_n 2, 1) := by decide +kernel
theorem dX5_stopper_91 : decode cX5_stopper 91 = .ok (.iaload, 1) := by decide +kernel
theorem dX5_stopper_92 : decode cX5_stopper 92 = .ok (.isub, 1) := by decide +kernel
theorem dX5_stopper_93 : decode cX5_stopper 93 = .ok (.bipush 21, 2) := by decide +kernel
theorem dX5_stopper_95 : decode cX5_stopper 95 = .ok (.if_icmp .lt 13, 3) := by decide +kernel
theorem dX5_stopper_98 : decode cX5_stopper 98 = .ok (.aload_n 0, 1) := by decide +kernel
theorem dX5_stopper_99 : decode cX5_stopper 99 = .ok (.getfield 64, 3) := by decide +kernel
theorem dX5_stopper_102 : decode cX5_stopper 102 = .ok (.iload_n 2, 1) := by decide +kernel
theorem dX5_stopper_103 : decode cX5_stopper 103 = .ok (.iaload, 1) := by decide +kernel
theorem dX5_stopper_104 : decode cX5_stopper 104 = .ok (.iconst 1, 1) := by decide +kernel
theorem dX5_stopper_105 : decode cX5_stopper 105 = .ok (.if_icmp .ne 5, 3) := by decide +kernel
theorem dX5_stopper_108 : decode cX5_stopper 108 = .ok (.iload_n 2, 1) := by decide +kernel
theorem dX5_stopper_109 : decode cX5_stopper 109 = .ok (.ireturn, 1) := by decide +kernel
theorem dX5_stopper_110 : decode cX5_stopper 110 = .ok (.iinc 2 1, 3) := by decide +kernel
theorem dX5_stopper_113 : decode cX5_stopper 113 = .ok (.goto (-111), 3) := by decide +kernel
theorem dX5_stopper_116 : decode cX5_stopper 116 = .ok (.iconst (-1), 1) := by decide +kernel
theorem dX5_stopper_117 : decode cX5_stopper 117 = .ok (.ireturn, 1) := by decide +kernel
theorem dX5_confirm_0 : decode cX5_confirm 0 = .ok (.aload_n 0, 1) := by decide +kernel
theorem dX5_confirm_1 : decode cX5_confirm 1 = .ok (.aload_n 0, 1) := by decide +kernel
theorem dX5_confirm_2 : decode cX5_confirm 2 = .ok (.iload_n 1, 1) := by decide +kernel
theorem dX5_confirm_3 : decode cX5_confirm 3 = .ok (.invokevirtual 139, 3) := by decide +kernel
theorem dX5_confirm_6 : decode cX5_confirm 6 = .ok (.ifCond .ne 7, 3) := by decide +kernel
theorem dX5_confirm_9 : decode cX5_confirm 9 = .ok (.iconst 1, 1) := by decide +kernel
theorem dX5_confirm_10 : decode cX5_confirm 10 = .ok (.goto 4, 3) := by decide +kernel
theorem dX5_confirm_13 : decode cX5_confirm 13 = .ok (.iconst 0, 1) := by decide +kernel
theorem dX5_confirm_14 : decode cX5_confirm 14 = .ok (.putfield 100, 3) := by decide +kernel
theorem dX5_confirm_17 : decode cX5_confirm 17 = .ok (.aload_n 0, 1) := by decide +kernel
theorem dX5_confirm_18 : decode cX5_confirm 18 = .ok (.getfield 100, 3) := by decide +kernel
theorem dX5_confirm_21 : decode cX5_confirm 21 = .ok (.ifCond .ne 39, 3) := by decide +kernel
theorem dX5_confirm_24 : decode cX5_confirm 24 = .ok (.aload_n 0, 1) := by decide +kernel
theorem dX5_confirm_25 : decode cX5_confirm 25 = .ok (.aload_n 0, 1) := by decide +kernel
theorem dX5_confirm_26 : decode cX5_confirm 26 = .ok (.getfield 88, 3) := by decide +kernel
theorem dX5_confirm_29 : decode cX5_confirm 29 = .ok (.iload_n 1, 1) := by decide +kernel
theorem dX5_confirm_30 : decode cX5_confirm 30 = .ok (.iaload, 1) := by decide +kernel
theorem dX5_confirm_31 : decode cX5_confirm 31 = .ok (.ifCond .ne 21, 3) := by decide +kernel
theorem dX5_confirm_34 : decode cX5_confirm 34 = .ok (.aload_n 0, 1) := by decide +kernel
theorem dX5_confirm_35 : decode cX5_confirm 35 = .ok (.iload_n 1, 1) := by decide +kernel
theorem dX5_confirm_36 : decode cX5_confirm 36 = .ok (.iconst 1, 1) := by decide +kernel
theorem dX5_confirm_37 : decode cX5_confirm 37 = .ok (.invokevirtual 142, 3) := by decide +kernel
theorem dX5_confirm_40 : decode cX5_confirm 40 = .ok (.ifCond .eq 12, 3) := by decide +kernel
theorem dX5_confirm_43 : decode cX5_confirm 43 = .ok (.aload_n 0, 1) := by decide +kernel
theorem dX5_confirm_44 : decode cX5_confirm 44 = .ok (.iload_n 1, 1) := by decide +kernel
theorem dX5_confirm_45 : decode cX5_confirm 45 = .ok (.invokevirtual 157, 3) := by decide +kernel
theorem dX5_confirm_48 : decode cX5_confirm 48 = .ok (.iconst (-1), 1) := by decide +kernel
theorem dX5_confirm_49 : decode cX5_confirm 49 = .ok (.if_icmp .eq 7, 3) := by decide +kernel
theorem dX5_confirm_52 : decode cX5_confirm 52 = .ok (.iconst 2, 1) := by decide +kernel
theorem dX5_confirm_53 : decode cX5_confirm 53 = .ok (.goto 4, 3) := by decide +kernel
theorem dX5_confirm_56 : decode cX5_confirm 56 = .ok (.iconst 0, 1) := by decide +kernel
theorem dX5_confirm_57 : decode cX5_confirm 57 = .ok (.putfield 100, 3) := by decide +kernel
theorem dX5_confirm_60 : decode cX5_confirm 60 = .ok (.aload_n 0, 1) := by decide +kernel
theorem dX5_confirm_61 : decode cX5_confirm 61 = .ok (.getfield 100, 3) := by decide +kernel
theorem dX5_confirm_64 : decode cX5_confirm 64 = .ok (.ifCond .le 5, 3) := by decide +kernel
theorem dX5_confirm_67 : decode cX5_confirm 67 = .ok (.iconst 0, 1) := by decide +kernel
theorem dX5_confirm_68 : decode cX5_confirm 68 = .ok (.ireturn, 1) := by decide +kernel
theorem dX5_confirm_69 : decode cX5_confirm 69 = .ok (.aload_n 0, 1) := by decide +kernel
theorem dX5_confirm_70 : decode cX5_confirm 70 = .ok (.getfield 88, 3) := by decide +kernel
theorem dX5_confirm_73 : decode cX5_confirm 73 = .ok (.iload_n 1, 1) := by decide +kernel
theorem dX5_confirm_74 : decode cX5_confirm 74 = .ok (.iconst 1, 1) := by decide +kernel
theorem dX5_confirm_75 : decode cX5_confirm 75 = .ok (.iastore, 1) := by decide +kernel
theorem dX5_confirm_76 : decode cX5_confirm 76 = .ok (.aload_n 0, 1) := by decide +kernel
theorem dX5_confirm_77 : decode cX5_confirm 77 = .ok (.getfield 91, 3) := by decide +kernel
theorem dX5_confirm_80 : decode cX5_confirm 80 = .ok (.iload_n 1, 1) := by decide +kernel
theorem dX5_confirm_81 : decode cX5_confirm 81 = .ok (.aload_n 0, 1) := by decide +kernel
theorem dX5_confirm_82 : decode cX5_confirm 82 = .ok (.getfield 121, 3) := by decide +kernel
theorem dX5_confirm_85 : decode cX5_confirm 85 = .ok (.iastore, 1) := by decide +kernel
theorem dX5_confirm_86 : decode cX5_confirm 86 = .ok (.aload_n 0, 1) := by decide +kernel
theorem dX5_confirm_87 : decode cX5_confirm 87 = .ok (.iload_n 1, 1) := by decide +kernel
theorem dX5_confirm_88 : decode cX5_confirm 88 = .ok (.iconst 1, 1) := by decide +kernel
theorem dX5_confirm_89 : decode cX5_confirm 89 = .ok (.invokevirtual 142, 3) := by decide +kernel
theorem dX5_confirm_92 : decode cX5_confirm 92 = .ok (.ireturn, 1) := by decide +kernel
theorem dX5_whoStops_0 : decode cX5_whoStops 0 = .ok (.aload_n 0, 1) := by decide +kernel
theorem dX5_whoStops_1 : decode cX5_whoStops 1 = .ok (.aload_n 0, 1) := by decide +kernel
theorem dX5_whoStops_2 : decode cX5_whoStops 2 = .ok (.iload_n 1, 1) := by decide +kernel
theorem dX5_whoStops_3 : decode cX5_whoStops 3 = .ok (.invokevirtual 139, 3) := by decide +kernel
theorem dX5_whoStops_6 : decode cX5_whoStops 6 = .ok (.ifCond .ne 7, 3) := by decide +kernel
theorem dX5_whoStops_9 : decode cX5_whoStops 9 = .ok (.iconst 1, 1) := by decide +kernel
theorem dX5_whoStops_10 : decode cX5_whoStops 10 = .ok (.goto 4, 3) := by decide +kernel
theorem dX5_whoStops_13 : decode cX5_whoStops 13 = .ok (.iconst 0, 1) := by decide +kernel
theorem dX5_whoStops_14 : decode cX5_whoStops 14 = .ok (.putfield 100, 3) := by decide +kernel
theorem dX5_whoStops_17 : decode cX5_whoStops 17 = .ok (.aload_n 0, 1) := by decide +kernel
theorem dX5_whoStops_18 : decode cX5_whoStops 18 = .ok (.getfield 100, 3) := by decide +kernel
theorem dX5_whoStops_21 : decode cX5_whoStops 21 = .ok (.ifCond .le 7, 3) := by decide +kernel
theorem dX5_whoStops_24 : decode cX5_whoStops 24 = .ok (.iconst 0, 1) := by decide +kernel
theorem dX5_whoStops_25 : decode cX5_whoStops 25 = .ok (.goto 21, 3) := by decide +kernel
theorem dX5_whoStops_28 : decode cX5_whoStops 28 = .ok (.aload_n 0, 1) := by decide +kernel
theorem dX5_whoStops_29 : decode cX5_whoStops 29 = .ok (.getfield 88, 3) := by decide +kernel
theorem dX5_whoStops_32 : decode cX5_whoStops 32 = .ok (.iload_n 1, 1) := by decide +kernel
theorem dX5_whoStops_33 : decode cX5_whoStops 33 = .ok (.iaload, 1) := by decide +kernel
theorem dX5_whoStops_34 : decode cX5_whoStops 34 = .ok (.ifCond .ne 11, 3) := by decide +kernel
theorem dX5_whoStops_37 : decode cX5_whoStops 37 = .ok (.aload_n 0, 1) := by decide +kernel
theorem dX5_whoStops_38 : decode cX5_whoStops 38 = .ok (.iload_n 1, 1) := by decide +kernel
theorem dX5_whoStops_39 : decode cX5_whoStops 39 = .ok (.invokevirtual 157, 3) := by decide +kernel
theorem dX5_whoStops_42 : decode cX5_whoStops 42 = .ok (.goto 4, 3) := by decide +kernel
theorem dX5_whoStops_45 : decode cX5_whoStops 45 = .ok (.iconst (-1), 1) := by decide +kernel
theorem dX5_whoStops_46 : decode cX5_whoStops 46 = .ok (.ireturn, 1) := by decide +kernel
theorem dX5_ownerBehind_0 : decode cX5_ownerBehind 0 = .ok (.iconst (-1), 1) := by decide +kernel
theorem dX5_ownerBehind_1 : decode cX5_ownerBehind 1 = .ok (.istore_n 3, 1) := by decide +kernel
theorem dX5_ownerBehind_2 : decode cX5_ownerBehind 2 = .ok (.iconst 0, 1) := by decide +kernel
theorem dX5_ownerBehind_3 : decode cX5_ownerBehind 3 = .ok (.istore 4, 2) := by decide +kernel
theorem dX5_ownerBehind_5 : decode cX5_ownerBehind 5 = .ok (.iload 4, 2) := by decide +kernel
theorem dX5_ownerBehind_7 : decode cX5_ownerBehind 7 = .ok (.aload_n 0, 1) := by decide +kernel
theorem dX5_ownerBehind_8 : decode cX5_ownerBehind 8 = .ok (.getfield 108, 3) := by decide +kernel
theorem dX5_ownerBehind_11 : decode cX5_ownerBehind 11 = .ok (.if_icmp .ge 125, 3) := by decide +kernel
theorem dX5_ownerBehind_14 : decode cX5_ownerBehind 14 = .ok (.aload_n 0, 1) := by decide +kernel
theorem dX5_ownerBehind_15 : decode cX5_ownerBehind 15 = .ok (.getfield 46, 3) := by decide +kernel
theorem dX5_ownerBehind_18 : decode cX5_ownerBehind 18 = .ok (.iload 4, 2) := by decide +kernel
theorem dX5_ownerBehind_20 : decode cX5_ownerBehind 20 = .ok (.iaload, 1) := by decide +kernel
theorem dX5_ownerBehind_21 : decode cX5_ownerBehind 21 = .ok (.ifCond .ne 18, 3) := by decide +kernel
theorem dX5_ownerBehind_24 : decode cX5_ownerBehind 24 = .ok (.aload_n 0, 1) := by decide +kernel
theorem dX5_ownerBehind_25 : decode cX5_ownerBehind 25 = .ok (.getfield 49, 3) := by decide +kernel
theorem dX5_ownerBehind_28 : decode cX5_ownerBehind 28 = .ok (.iload 4, 2) := by decide +kernel
theorem dX5_ownerBehind_30 : decode cX5_ownerBehind 30 = .ok (.iaload, 1) := by decide +kernel
theorem dX5_ownerBehind_31 : decode cX5_ownerBehind 31 = .ok (.iload_n 1, 1) := by decide +kernel
theorem dX5_ownerBehind_32 : decode cX5_ownerBehind 32 = .ok (.if_icmp .ne 7, 3) := by decide +kernel
theorem dX5_ownerBehind_35 : decode cX5_ownerBehind 35 = .ok (.iconst 1, 1) := by decide +kernel
theorem dX5_ownerBehind_36 : decode cX5_ownerBehind 36 = .ok (.goto 4, 3) := by decide +kernel
theorem dX5_ownerBehind_39 : decode cX5_ownerBehind 39 = .ok (.iconst 0, 1) := by decide +kernel
theorem dX5_ownerBehind_40 : decode cX5_ownerBehind 40 = .ok (.istore 5, 2) := by decide +kernel
theorem dX5_ownerBehind_42 : decode cX5_ownerBehind 42 = .ok (.iload_n 2, 1) := by decide +kernel
theorem dX5_ownerBehind_43 : decode cX5_ownerBehind 43 = .ok (.iconst (-1), 1) := by decide +kernel
theorem dX5_ownerBehind_44 : decode cX5_ownerBehind 44 = .ok (.if_icmp .eq 41, 3) := by decide +kernel
theorem dX5_ownerBehind_47 : decode cX5_ownerBehind 47 = .ok (.aload_n 0, 1) := by decide +kernel
theorem dX5_ownerBehind_48 : decode cX5_ownerBehind 48 = .ok (.getfield 58, 3) := by decide +kernel
theorem dX5_ownerBehind_51 : decode cX5_ownerBehind 51 = .ok (.iload 4, 2) := by decide +kernel
theorem dX5_ownerBehind_53 : decode cX5_ownerBehind 53 = .ok (.iaload, 1) := by decide +kernel
theorem dX5_ownerBehind_54 : decode cX5_ownerBehind 54 = .ok (.aload_n 0, 1) := by decide +kernel
theorem dX5_ownerBehind_55 : decode cX5_ownerBehind 55 = .ok (.getfield 58, 3) := by decide +kernel
theorem dX5_ownerBehind_58 : decode cX5_ownerBehind 58 = .ok (.iload_n 2, 1) := by decide +kernel
theorem dX5_ownerBehind_59 : decode cX5_ownerBehind 59 = .ok (.iaload, 1) := by decide +kernel
theorem dX5_ownerBehind_60 : decode cX5_ownerBehind 60 = .ok (.if_icmp .lt 25, 3) := by decide +kernel
theorem dX5_ownerBehind_63 : decode cX5_ownerBehind 63 = .ok (.aload_n 0, 1) := by decide +kernel
theorem dX5_ownerBehind_64 : decode cX5_ownerBehind 64 = .ok (.getfield 58, 3) := by decide +kernel
theorem dX5_ownerBehind_67 : decode cX5_ownerBehind 67 = .ok (.iload 4, 2) := by decide +kernel
theorem dX5_ownerBehind_69 : decode cX5_ownerBehind 69 = .ok (.iaload, 1) := by decide +kernel
theorem dX5_ownerBehind_70 : decode cX5_ownerBehind 70 = .ok (.aload_n 0, 1) := by decide +kernel
theorem dX5_ownerBehind_71 : decode cX5_ownerBehind 71 = .ok (.getfield 58, 3) := by decide +kernel
theorem dX5_ownerBehind_74 : decode cX5_ownerBehind 74 = .ok (.iload_n 2, 1) := by decide +kernel
theorem dX5_ownerBehind_75 : decode cX5_ownerBehind 75 = .ok (.iaload, 1) := by decide +kernel
theorem dX5_ownerBehind_76 : decode cX5_ownerBehind 76 = .ok (.if_icmp .ne 13, 3) := by decide +kernel
theorem dX5_ownerBehind_79 : decode cX5_ownerBehind 79 = .ok (.iload 4, 2) := by decide +kernel
theorem dX5_ownerBehind_81 : decode cX5_ownerBehind 81 = .ok (.iload_n 2, 1) := by decide +kernel
theorem dX5_ownerBehind_82 : decode cX5_ownerBehind 82 = .ok (.if_icmp .le 7, 3) := by decide +kernel
theorem dX5_ownerBehind_85 : decode cX5_ownerBehind 85 = .ok (.iconst 1, 1) := by decide +kernel
theorem dX5_ownerBehind_86 : decode cX5_ownerBehind 86 = .ok (.goto 4, 3) := by decide +kernel
theorem dX5_ownerBehind_89 : decode cX5_ownerBehind 89 = .ok (.iconst 0, 1) := by decide +kernel
theorem dX5_ownerBehind_90 : decode cX5_ownerBehind 90 = .ok (.istore 6, 2) := by decide +kernel
theorem dX5_ownerBehind_92 : decode cX5_ownerBehind 92 = .ok (.iload 5, 2) := by decide +kernel
theorem dX5_ownerBehind_94 : decode cX5_ownerBehind 94 = .ok (.ifCond .eq 34, 3) := by decide +kernel
theorem dX5_ownerBehind_97 : decode cX5_ownerBehind 97 = .ok (.iload 6, 2) := by decide +kernel
theorem dX5_ownerBehind_99 : decode cX5_ownerBehind 99 = .ok (.ifCond .eq 29, 3) := by decide +kernel
theorem dX5_ownerBehind_102 : decode cX5_ownerBehind 102 = .ok (.iload_n 3, 1) := by decide +kernel
theorem dX5_ownerBehind_103 : decode cX5_ownerBehind 103 = .ok (.iconst (-1), 1) := by decide +kernel
theorem dX5_ownerBehind_104 : decode cX5_ownerBehind 104 = .ok (.if_icmp .eq 19, 3) := by decide +kernel
theorem dX5_ownerBehind_107 : decode cX5_ownerBehind 107 = .ok (.aload_n 0, 1) := by decide +kernel
theorem dX5_ownerBehind_108 : decode cX5_ownerBehind 108 = .ok (.getfield 58, 3) := by decide +kernel
theorem dX5_ownerBehind_111 : decode cX5_ownerBehind 111 = .ok (.iload 4, 2) := by decide +kernel
theorem dX5_ownerBehind_113 : decode cX5_ownerBehind 113 = .ok (.iaload, 1) := by decide +kernel
theorem dX5_ownerBehind_114 : decode cX5_ownerBehind 114 = .ok (.aload_n 0, 1) := by decide +kernel
theorem dX5_ownerBehind_115 : decode cX5_ownerBehind 115 = .ok (.getfield 58, 3) := by decide +kernel
theorem dX5_ownerBehind_118 : decode cX5_ownerBehind 118 = .ok (.iload_n 3, 1) := by decide +kernel
theorem dX5_ownerBehind_119 : decode cX5_ownerBehind 119 = .ok (.iaload, 1) := by decide +kernel
theorem dX5_ownerBehind_120 : decode cX5_ownerBehind 120 = .ok (.if_icmp .le 8, 3) := by decide +kernel
theorem dX5_ownerBehind_123 : decode cX5_ownerBehind 123 = .ok (.iload 4, 2) := by decide +kernel
theorem dX5_ownerBehind_125 : decode cX5_ownerBehind 125 = .ok (.goto 4, 3) := by decide +kernel
theorem dX5_ownerBehind_128 : decode cX5_ownerBehind 128 = .ok (.iload_n 3, 1) := by decide +kernel
theorem dX5_ownerBehind_129 : decode cX5_ownerBehind 129 = .ok (.istore_n 3, 1) := by decide +kernel
theorem dX5_ownerBehind_130 : decode cX5_ownerBehind 130 = .ok (.iinc 4 1, 3) := by decide +kernel
theorem dX5_ownerBehind_133 : decode cX5_ownerBehind 133 = .ok (.goto (-128), 3) := by decide +kernel
theorem dX5_ownerBehind_136 : decode cX5_ownerBehind 136 = .ok (.iload_n 3, 1) := by decide +kernel
theorem dX5_ownerBehind_137 : decode cX5_ownerBehind 137 = .ok (.ireturn, 1) := by decide +kernel
theorem dX5_drop_0 : decode cX5_drop 0 = .ok (.aload_n 0, 1) := by decide +kernel
theorem dX5_drop_1 : decode cX5_drop 1 = .ok (.aload_n 0, 1) := by decide +kernel
theorem dX5_drop_2 : decode cX5_drop 2 = .ok (.iload_n 1, 1) := by decide +kernel
theorem dX5_drop_3 : decode cX5_drop 3 = .ok (.invokevirtual 139, 3) := by decide +kernel
theorem dX5_drop_6 : decode cX5_drop 6 = .ok (.ifCond .ne 7, 3) := by decide +kernel
theorem dX5_drop_9 : decode cX5_drop 9 = .ok (.iconst 1, 1) := by decide +kernel
theorem dX5_drop_10 : decode cX5_drop 10 = .ok (.goto 18, 3) := by decide +kernel
theorem dX5_drop_13 : decode cX5_drop 13 = .ok (.aload_n 0, 1) := by decide +kernel
theorem dX5_drop_14 : decode cX5_drop 14 = .ok (.getfield 88, 3) := by decide +kernel
theorem dX5_drop_17 : decode cX5_drop 17 = .ok (.iload_n 1, 1) := by decide +kernel
theorem dX5_drop_18 : decode cX5_drop 18 = .ok (.iaload, 1) := by decide +kernel
theorem dX5_drop_19 : decode cX5_drop 19 = .ok (.iconst 2, 1) := by decide +kernel
theorem dX5_drop_20 : decode cX5_drop 20 = .ok (.if_icmp .ne 7, 3) := by decide +kernel
theorem dX5_drop_23 : decode cX5_drop 23 = .ok (.iconst 2, 1) := by decide +kernel
theorem dX5_drop_24 : decode cX5_drop 24 = .ok (.goto 4, 3) := by decide +kernel
theorem dX5_drop_27 : decode cX5_drop 27 = .ok (.iconst 0, 1) := by decide +kernel
theorem dX5_drop_28 : decode cX5_drop 28 = .ok (.putfield 100, 3) := by decide +kernel
theorem dX5_drop_31 : decode cX5_drop 31 = .ok (.aload_n 0, 1) := by decide +kernel
theorem dX5_drop_32 : decode cX5_drop 32 = .ok (.getfield 100, 3) := by decide +kernel
theorem dX5_drop_35 : decode cX5_drop 35 = .ok (.ifCond .le 5, 3) := by decide +kernel
theorem dX5_drop_38 : decode cX5_drop 38 = .ok (.iconst 0, 1) := by decide +kernel
theorem dX5_drop_39 : decode cX5_drop 39 = .ok (.ireturn, 1) := by decide +kernel
theorem dX5_drop_40 : decode cX5_drop 40 = .ok (.aload_n 0, 1) := by decide +kernel
theorem dX5_drop_41 : decode cX5_drop 41 = .ok (.getfield 88, 3) := by decide +kernel
theorem dX5_drop_44 : decode cX5_drop 44 = .ok (.iload_n 1, 1) := by decide +kernel
theorem dX5_drop_45 : decode cX5_drop 45 = .ok (.iconst 2, 1) := by decide +kernel
theorem dX5_drop_46 : decode cX5_drop 46 = .ok (.iastore, 1) := by decide +kernel
theorem dX5_drop_47 : decode cX5_drop 47 = .ok (.aload_n 0, 1) := by decide +kernel
theorem dX5_drop_48 : decode cX5_drop 48 = .ok (.getfield 94, 3) := by decide +kernel
theorem dX5_drop_51 : decode cX5_drop 51 = .ok (.iload_n 1, 1) := by decide +kernel
theorem dX5_drop_52 : decode cX5_drop 52 = .ok (.aload_n 0, 1) := by decide +kernel
theorem dX5_drop_53 : decode cX5_drop 53 = .ok (.getfield 121, 3) := by decide +kernel
theorem dX5_drop_56 : decode cX5_drop 56 = .ok (.iastore, 1) := by decide +kernel
theorem dX5_drop_57 : decode cX5_drop 57 = .ok (.iconst 0, 1) := by decide +kernel
theorem dX5_drop_58 : decode cX5_drop 58 = .ok (.istore_n 2, 1) := by decide +kernel
theorem dX5_drop_59 : decode cX5_drop 59 = .ok (.iconst 0, 1) := by decide +kernel
theorem dX5_drop_60 : decode cX5_drop 60 = .ok (.istore_n 3, 1) := by decide +kernel
theorem dX5_drop_61 : decode cX5_drop 61 = .ok (.iload_n 3, 1) := by decide +kernel
theorem dX5_drop_62 : decode cX5_drop 62 = .ok (.bipush 36, 2) := by decide +kernel
theorem dX5_drop_64 : decode cX5_drop 64 = .ok (.if_icmp .ge 135, 3) := by decide +kernel
theorem dX5_drop_67 : decode cX5_drop 67 = .ok (.aload_n 0, 1) := by decide +kernel
theorem dX5_drop_68 : decode cX5_drop 68 = .ok (.getfield 23, 3) := by decide +kernel
theorem dX5_drop_71 : decode cX5_drop 71 = .ok (.iload_n 3, 1) := by decide +kernel
theorem dX5_drop_72 : decode cX5_drop 72 = .ok (.iaload, 1) := by decide +kernel
theorem dX5_drop_73 : decode cX5_drop 73 = .ok (.iload_n 1, 1) := by decide +kernel
theorem dX5_drop_74 : decode cX5_drop 74 = .ok (.if_icmp .ne 20, 3) := by decide +kernel
theorem dX5_drop_77 : decode cX5_drop 77 = .ok (.aload_n 0, 1) := by decide +kernel
theorem dX5_drop_78 : decode cX5_drop 78 = .ok (.getfield 20, 3) := by decide +kernel
theorem dX5_drop_81 : decode cX5_drop 81 = .ok (.iload_n 3, 1) := by decide +kernel
theorem dX5_drop_82 : decode cX5_drop 82 = .ok (.iaload, 1) := by decide +kernel
theorem dX5_drop_83 : decode cX5_drop 83 = .ok (.ifCond .ne 11, 3) := by decide +kernel
theorem dX5_drop_86 : decode cX5_drop 86 = .ok (.aload_n 0, 1) := by decide +kernel
theorem dX5_drop_87 : decode cX5_drop 87 = .ok (.iload_n 3, 1) := by decide +kernel
theorem dX5_drop_88 : decode cX5_drop 88 = .ok (.invokevirtual 153, 3) := by decide +kernel
theorem dX5_drop_91 : decode cX5_drop 91 = .ok (.goto 102, 3) := by decide +kernel
theorem dX5_drop_94 : decode cX5_drop 94 = .ok (.aload_n 0, 1) := by decide +kernel
theorem dX5_drop_95 : decode cX5_drop 95 = .ok (.getfield 23, 3) := by decide +kernel
theorem dX5_drop_98 : decode cX5_drop 98 = .ok (.iload_n 3, 1) := by decide +kernel
theorem dX5_drop_99 : decode cX5_drop 99 = .ok (.iaload, 1) := by decide +kernel
theorem dX5_drop_100 : decode cX5_drop 100 = .ok (.iload_n 1, 1) := by decide +kernel
theorem dX5_drop_101 : decode cX5_drop 101 = .ok (.if_icmp .ne 92, 3) := by decide +kernel
theorem dX5_drop_104 : decode cX5_drop 104 = .ok (.aload_n 0, 1) := by decide +kernel
theorem dX5_drop_105 : decode cX5_drop 105 = .ok (.getfield 23, 3) := by decide +kernel
theorem dX5_drop_108 : decode cX5_drop 108 = .ok (.iload_n 3, 1) := by decide +kernel
theorem dX5_drop_109 : decode cX5_drop 109 = .ok (.iconst (-1), 1) := by decide +kernel
theorem dX5_drop_110 : decode cX5_drop 110 = .ok (.iastore, 1) := by decide +kernel
theorem dX5_drop_111 : decode cX5_drop 111 = .ok (.aload_n 0, 1) := by decide +kernel
theorem dX5_drop_112 : decode cX5_drop 112 = .ok (.getfield 36, 3) := by decide +kernel
theorem dX5_drop_115 : decode cX5_drop 115 = .ok (.iload_n 3, 1) := by decide +kernel
theorem dX5_drop_116 : decode cX5_drop 116 = .ok (.aload_n 0, 1) := by decide +kernel
theorem dX5_drop_117 : decode cX5_drop 117 = .ok (.getfield 32, 3) := by decide +kernel
theorem dX5_drop_120 : decode cX5_drop 120 = .ok (.iload_n 3, 1) := by decide +kernel
theorem dX5_drop_121 : decode cX5_drop 121 = .ok (.baload, 1) := by decide +kernel
theorem dX5_drop_122 : decode cX5_drop 122 = .ok (.ifCond .eq 7, 3) := by decide +kernel
theorem dX5_drop_125 : decode cX5_drop 125 = .ok (.iconst (-1), 1) := by decide +kernel
theorem dX5_drop_126 : decode cX5_drop 126 = .ok (.goto 9, 3) := by decide +kernel
theorem dX5_drop_129 : decode cX5_drop 129 = .ok (.aload_n 0, 1) := by decide +kernel
theorem dX5_drop_130 : decode cX5_drop 130 = .ok (.iload_n 3, 1) := by decide +kernel
theorem dX5_drop_131 : decode cX5_drop 131 = .ok (.iconst (-1), 1) := by decide +kernel
theorem dX5_drop_132 : decode cX5_drop 132 = .ok (.invokevirtual 160, 3) := by decide +kernel
theorem dX5_drop_135 : decode cX5_drop 135 = .ok (.iastore, 1) := by decide +kernel
theorem dX5_drop_136 : decode cX5_drop 136 = .ok (.aload_n 0, 1) := by decide +kernel
theorem dX5_drop_137 : decode cX5_drop 137 = .ok (.getfield 39, 3) := by decide +kernel
theorem dX5_drop_140 : decode cX5_drop 140 = .ok (.iload_n 3, 1) := by decide +kernel
theorem dX5_drop_141 : decode cX5_drop 141 = .ok (.aload_n 0, 1) := by decide +kernel
theorem dX5_drop_142 : decode cX5_drop 142 = .ok (.getfield 36, 3) := by decide +kernel
theorem dX5_drop_145 : decode cX5_drop 145 = .ok (.iload_n 3, 1) := by decide +kernel
theorem dX5_drop_146 : decode cX5_drop 146 = .ok (.iaload, 1) := by decide +kernel
theorem dX5_drop_147 : decode cX5_drop 147 = .ok (.iconst (-1), 1) := by decide +kernel
theorem dX5_drop_148 : decode cX5_drop 148 = .ok (.if_icmp .ne 7, 3) := by decide +kernel
theorem dX5_drop_151 : decode cX5_drop 151 = .ok (.iconst 0, 1) := by decide +kernel
theorem dX5_drop_152 : decode cX5_drop 152 = .ok (.goto 22, 3) := by decide +kernel
theorem dX5_drop_155 : decode cX5_drop 155 = .ok (.aload_n 0, 1) := by decide +kernel
theorem dX5_drop_156 : decode cX5_drop 156 = .ok (.getfield 26, 3) := by decide +kernel
theorem dX5_drop_159 : decode cX5_drop 159 = .ok (.iload_n 3, 1) := by decide +kernel
theorem dX5_drop_160 : decode cX5_drop 160 = .ok (.iaload, 1) := by decide +kernel
theorem dX5_drop_161 : decode cX5_drop 161 = .ok (.aload_n 0, 1) := by decide +kernel
theorem dX5_drop_162 : decode cX5_drop 162 = .ok (.iload_n 3, 1) := by decide +kernel
theorem dX5_drop_163 : decode cX5_drop 163 = .ok (.aload_n 0, 1) := by decide +kernel
theorem dX5_drop_164 : decode cX5_drop 164 = .ok (.getfield 121, 3) := by decide +kernel
theorem dX5_drop_167 : decode cX5_drop 167 = .ok (.invokevirtual 124, 3) := by decide +kernel
theorem dX5_drop_170 : decode cX5_drop 170 = .ok (.imul, 1) := by decide +kernel
theorem dX5_drop_171 : decode cX5_drop 171 = .ok (.bipush 100, 2) := by decide +kernel
theorem dX5_drop_173 : decode cX5_drop 173 = .ok (.idiv, 1) := by decide +kernel
theorem dX5_drop_174 : decode cX5_drop 174 = .ok (.iastore, 1) := by decide +kernel
theorem dX5_drop_175 : decode cX5_drop 175 = .ok (.iload_n 2, 1) := by decide +kernel
theorem dX5_drop_176 : decode cX5_drop 176 = .ok (.aload_n 0, 1) := by decide +kernel
theorem dX5_drop_177 : decode cX5_drop 177 = .ok (.getfield 36, 3) := by decide +kernel
theorem dX5_drop_180 : decode cX5_drop 180 = .ok (.iload_n 3, 1) := by decide +kernel
theorem dX5_drop_181 : decode cX5_drop 181 = .ok (.iaload, 1) := by decide +kernel
theorem dX5_drop_182 : decode cX5_drop 182 = .ok (.iconst (-1), 1) := by decide +kernel
theorem dX5_drop_183 : decode cX5_drop 183 = .ok (.if_icmp .ne 7, 3) := by decide +kernel
theorem dX5_drop_186 : decode cX5_drop 186 = .ok (.iconst 0, 1) := by decide +kernel
theorem dX5_drop_187 : decode cX5_drop 187 = .ok (.goto 4, 3) := by decide +kernel
theorem dX5_drop_190 : decode cX5_drop 190 = .ok (.iconst 1, 1) := by decide +kernel
theorem dX5_drop_191 : decode cX5_drop 191 = .ok (.iadd, 1) := by decide +kernel
theorem dX5_drop_192 : decode cX5_drop 192 = .ok (.istore_n 2, 1) := by decide +kernel
theorem dX5_drop_193 : decode cX5_drop 193 = .ok (.iinc 3 1, 3) := by decide +kernel
theorem dX5_drop_196 : decode cX5_drop 196 = .ok (.goto (-135), 3) := by decide +kernel
theorem dX5_drop_199 : decode cX5_drop 199 = .ok (.iload_n 2, 1) := by decide +kernel
theorem dX5_drop_200 : decode cX5_drop 200 = .ok (.ireturn, 1) := by decide +kernel
theorem dX5_schemeOf_0 : decode cX5_schemeOf 0 = .ok (.aload_n 0, 1) := by decide +kernel
theorem dX5_schemeOf_1 : decode cX5_schemeOf 1 = .ok (.aload_n 0, 1) := by decide +kernel
theorem dX5_schemeOf_2 : decode cX5_schemeOf 2 = .ok (.iload_n 1, 1) := by decide +kernel
theorem dX5_schemeOf_3 : decode cX5_schemeOf 3 = .ok (.invokevirtual 139, 3) := by decide +kernel
theorem dX5_schemeOf_6 : decode cX5_schemeOf 6 = .ok (.ifCond .ne 7, 3) := by decide +kernel
theorem dX5_schemeOf_9 : decode cX5_schemeOf 9 = .ok (.iconst 1, 1) := by decide +kernel
theorem dX5_schemeOf_10 : decode cX5_schemeOf 10 = .ok (.goto 18, 3) := by decide +kernel
theorem dX5_schemeOf_13 : decode cX5_schemeOf 13 = .ok (.aload_n 0, 1) := by decide +kernel
theorem dX5_schemeOf_14 : decode cX5_schemeOf 14 = .ok (.iload_n 2, 1) := by decide +kernel
theorem dX5_schemeOf_15 : decode cX5_schemeOf 15 = .ok (.iconst 0, 1) := by decide +kernel
theorem dX5_schemeOf_16 : decode cX5_schemeOf 16 = .ok (.iconst 3, 1) := by decide +kernel
theorem dX5_schemeOf_17 : decode cX5_schemeOf 17 = .ok (.invokevirtual 104, 3) := by decide +kernel
theorem dX5_schemeOf_20 : decode cX5_schemeOf 20 = .ok (.ifCond .ne 7, 3) := by decide +kernel
theorem dX5_schemeOf_23 : decode cX5_schemeOf 23 = .ok (.iconst 2, 1) := by decide +kernel
theorem dX5_schemeOf_24 : decode cX5_schemeOf 24 = .ok (.goto 4, 3) := by decide +kernel
theorem dX5_schemeOf_27 : decode cX5_schemeOf 27 = .ok (.iconst 0, 1) := by decide +kernel
theorem dX5_schemeOf_28 : decode cX5_schemeOf 28 = .ok (.putfield 100, 3) := by decide +kernel
theorem dX5_schemeOf_31 : decode cX5_schemeOf 31 = .ok (.aload_n 0, 1) := by decide +kernel
theorem dX5_schemeOf_32 : decode cX5_schemeOf 32 = .ok (.getfield 100, 3) := by decide +kernel
theorem dX5_schemeOf_35 : decode cX5_schemeOf 35 = .ok (.ifCond .le 5, 3) := by decide +kernel
theorem dX5_schemeOf_38 : decode cX5_schemeOf 38 = .ok (.iconst 0, 1) := by decide +kernel
theorem dX5_schemeOf_39 : decode cX5_schemeOf 39 = .ok (.ireturn, 1) := by decide +kernel
theorem dX5_schemeOf_40 : decode cX5_schemeOf 40 = .ok (.iload_n 2, 1) := by decide +kernel
theorem dX5_schemeOf_41 : decode cX5_schemeOf 41 = .ok (.ifCond .ne 12, 3) := by decide +kernel
theorem dX5_schemeOf_44 : decode cX5_schemeOf 44 = .ok (.aload_n 0, 1) := by decide +kernel
theorem dX5_schemeOf_45 : decode cX5_schemeOf 45 = .ok (.getfield 88, 3) := by decide +kernel
theorem dX5_schemeOf_48 : decode cX5_schemeOf 48 = .ok (.iload_n 1, 1) := by decide +kernel
theorem dX5_schemeOf_49 : decode cX5_schemeOf 49 = .ok (.iaload, 1) := by decide +kernel
theorem dX5_schemeOf_50 : decode cX5_schemeOf 50 = .ok (.goto 37, 3) := by decide +kernel
theorem dX5_schemeOf_53 : decode cX5_schemeOf 53 = .ok (.iload_n 2, 1) := by decide +kernel
theorem dX5_schemeOf_54 : decode cX5_schemeOf 54 = .ok (.iconst 1, 1) := by decide +kernel
theorem dX5_schemeOf_55 : decode cX5_schemeOf 55 = .ok (.if_icmp .ne 12, 3) := by decide +kernel
theorem dX5_schemeOf_58 : decode cX5_schemeOf 58 = .ok (.aload_n 0, 1) := by decide +kernel
theorem dX5_schemeOf_59 : decode cX5_schemeOf 59 = .ok (.iload_n 1, 1) := by decide +kernel
theorem dX5_schemeOf_60 : decode cX5_schemeOf 60 = .ok (.iconst 0, 1) := by decide +kernel
theorem dX5_schemeOf_61 : decode cX5_schemeOf 61 = .ok (.invokevirtual 142, 3) := by decide +kernel
theorem dX5_schemeOf_64 : decode cX5_schemeOf 64 = .ok (.goto 23, 3) := by decide +kernel
theorem dX5_schemeOf_67 : decode cX5_schemeOf 67 = .ok (.iload_n 2, 1) := by decide +kernel
theorem dX5_schemeOf_68 : decode cX5_schemeOf 68 = .ok (.iconst 2, 1) := by decide +kernel
theorem dX5_schemeOf_69 : decode cX5_schemeOf 69 = .ok (.if_icmp .ne 12, 3) := by decide +kernel
theorem dX5_schemeOf_72 : decode cX5_schemeOf 72 = .ok (.aload_n 0, 1) := by decide +kernel
theorem dX5_schemeOf_73 : decode cX5_schemeOf 73 = .ok (.getfield 91, 3) := by decide +kernel
theorem dX5_schemeOf_76 : decode cX5_schemeOf 76 = .ok (.iload_n 1, 1) := by decide +kernel
theorem dX5_schemeOf_77 : decode cX5_schemeOf 77 = .ok (.iaload, 1) := by decide +kernel
theorem dX5_schemeOf_78 : decode cX5_schemeOf 78 = .ok (.goto 9, 3) := by decide +kernel
theorem dX5_schemeOf_81 : decode cX5_schemeOf 81 = .ok (.aload_n 0, 1) := by decide +kernel
theorem dX5_schemeOf_82 : decode cX5_schemeOf 82 = .ok (.getfield 94, 3) := by decide +kernel
theorem dX5_schemeOf_85 : decode cX5_schemeOf 85 = .ok (.iload_n 1, 1) := by decide +kernel
theorem dX5_schemeOf_86 : decode cX5_schemeOf 86 = .ok (.iaload, 1) := by decide +kernel
theorem dX5_schemeOf_87 : decode cX5_schemeOf 87 = .ok (.ireturn, 1) := by decide +kernel
theorem dX5_landOf_0 : decode cX5_landOf 0 = .ok (.aload_n 0, 1) := by decide +kernel
theorem dX5_landOf_1 : decode cX5_landOf 1 = .ok (.iload_n 1, 1) := by decide +kernel
theorem dX5_landOf_2 : decode cX5_landOf 2 = .ok (.aload_n 0, 1) := by decide +kernel
theorem dX5_landOf_3 : decode cX5_landOf 3 = .ok (.getfield 29, 3) := by decide +kernel
theorem dX5_landOf_6 : decode cX5_landOf 6 = .ok (.iload_n 1, 1) := by decide +kernel
theorem dX5_landOf_7 : decode cX5_landOf 7 = .ok (.iaload, 1) := by decide +kernel
theorem dX5_landOf_8 : decode cX5_landOf 8 = .ok (.invokevirtual 124, 3) := by decide +kernel
theorem dX5_landOf_11 : decode cX5_landOf 11 = .ok (.istore_n 3, 1) := by decide +kernel
theorem dX5_landOf_12 : decode cX5_landOf 12 = .ok (.iload_n 3, 1) := by decide +kernel
theorem dX5_landOf_13 : decode cX5_landOf 13 = .ok (.aload_n 0, 1) := by decide +kernel
theorem dX5_landOf_14 : decode cX5_landOf 14 = .ok (.getfield 26, 3) := by decide +kernel
theorem dX5_landOf_17 : decode cX5_landOf 17 = .ok (.iload_n 1, 1) := by decide +kernel
theorem dX5_landOf_18 : decode cX5_landOf 18 = .ok (.iaload, 1) := by decide +kernel
theorem dX5_landOf_19 : decode cX5_landOf 19 = .ok (.imul, 1) := by decide +kernel
theorem dX5_landOf_20 : decode cX5_landOf 20 = .ok (.bipush 100, 2) := by decide +kernel
theorem dX5_landOf_22 : decode cX5_landOf 22 = .ok (.idiv, 1) := by decide +kernel
theorem dX5_landOf_23 : decode cX5_landOf 23 = .ok (.istore 4, 2) := by decide +kernel
theorem dX5_landOf_25 : decode cX5_landOf 25 = .ok (.iload_n 3, 1) := by decide +kernel
theorem dX5_landOf_26 : decode cX5_landOf 26 = .ok (.iload 4, 2) := by decide +kernel
theorem dX5_landOf_28 : decode cX5_landOf 28 = .ok (.isub, 1) := by decide +kernel
theorem dX5_landOf_29 : decode cX5_landOf 29 = .ok (.istore 5, 2) := by decide +kernel
theorem dX5_landOf_31 : decode cX5_landOf 31 = .ok (.iload 4, 2) := by decide +kernel
theorem dX5_landOf_33 : decode cX5_landOf 33 = .ok (.iload 5, 2) := by decide +kernel
theorem dX5_landOf_35 : decode cX5_landOf 35 = .ok (.aload_n 0, 1) := by decide +kernel
theorem dX5_landOf_36 : decode cX5_landOf 36 = .ok (.getfield 82, 3) := by decide +kernel
theorem dX5_landOf_39 : decode cX5_landOf 39 = .ok (.iload_n 2, 1) := by decide +kernel
theorem dX5_landOf_40 : decode cX5_landOf 40 = .ok (.iaload, 1) := by decide +kernel
theorem dX5_landOf_41 : decode cX5_landOf 41 = .ok (.imul, 1) := by decide +kernel
theorem dX5_landOf_42 : decode cX5_landOf 42 = .ok (.bipush 100, 2) := by decide +kernel
theorem dX5_landOf_44 : decode cX5_landOf 44 = .ok (.idiv, 1) := by decide +kernel
theorem dX5_landOf_45 : decode cX5_landOf 45 = .ok (.iadd, 1) := by decide +kernel
theorem dX5_landOf_46 : decode cX5_landOf 46 = .ok (.iload 5, 2) := by decide +kernel
theorem dX5_landOf_48 : decode cX5_landOf 48 = .ok (.aload_n 0, 1) := by decide +kernel
theorem dX5_landOf_49 : decode cX5_landOf 49 = .ok (.getfield 85, 3) := by decide +kernel
theorem dX5_landOf_52 : decode cX5_landOf 52 = .ok (.iload_n 2, 1) := by decide +kernel
theorem dX5_landOf_53 : decode cX5_landOf 53 = .ok (.iaload, 1) := by decide +kernel
theorem dX5_landOf_54 : decode cX5_landOf 54 = .ok (.imul, 1) := by decide +kernel
theorem dX5_landOf_55 : decode cX5_landOf 55 = .ok (.bipush 100, 2) := by decide +kernel
theorem dX5_landOf_57 : decode cX5_landOf 57 = .ok (.idiv, 1) := by decide +kernel
theorem dX5_landOf_58 : decode cX5_landOf 58 = .ok (.isub, 1) := by decide +kernel
theorem dX5_landOf_59 : decode cX5_landOf 59 = .ok (.istore 6, 2) := by decide +kernel
theorem dX5_landOf_61 : decode cX5_landOf 61 = .ok (.iload 6, 2) := by decide +kernel
theorem dX5_landOf_63 : decode cX5_landOf 63 = .ok (.ifCond .ge 7, 3) := by decide +kernel
theorem dX5_landOf_66 : decode cX5_landOf 66 = .ok (.iconst 0, 1) := by decide +kernel
theorem dX5_landOf_67 : decode cX5_landOf 67 = .ok (.goto 5, 3) := by decide +kernel
theorem dX5_landOf_70 : decode cX5_landOf 70 = .ok (.iload 6, 2) := by decide +kernel
theorem dX5_landOf_72 : decode cX5_landOf 72 = .ok (.ireturn, 1) := by decide +kernel
theorem dX5_leftAhead_0 : decode cX5_leftAhead 0 = .ok (.aload_n 0, 1) := by decide +kernel
theorem dX5_leftAhead_1 : decode cX5_leftAhead 1 = .ok (.getfield 42, 3) := by decide +kernel
theorem dX5_leftAhead_4 : decode cX5_leftAhead 4 = .ok (.iload_n 1, 1) := by decide +kernel
theorem dX5_leftAhead_5 : decode cX5_leftAhead 5 = .ok (.laload, 1) := by decide +kernel
theorem dX5_leftAhead_6 : decode cX5_leftAhead 6 = .ok (.lstore_n 3, 1) := by decide +kernel
theorem dX5_leftAhead_7 : decode cX5_leftAhead 7 = .ok (.iconst 0, 1) := by decide +kernel
theorem dX5_leftAhead_8 : decode cX5_leftAhead 8 = .ok (.istore 5, 2) := by decide +kernel
theorem dX5_leftAhead_10 : decode cX5_leftAhead 10 = .ok (.iload 5, 2) := by decide +kernel
theorem dX5_leftAhead_12 : decode cX5_leftAhead 12 = .ok (.iload_n 2, 1) := by decide +kernel
theorem dX5_leftAhead_13 : decode cX5_leftAhead 13 = .ok (.if_icmp .ge 59, 3) := by decide +kernel
theorem dX5_leftAhead_16 : decode cX5_leftAhead 16 = .ok (.aload_n 0, 1) := by decide +kernel
theorem dX5_leftAhead_17 : decode cX5_leftAhead 17 = .ok (.getfield 46, 3) := by decide +kernel
theorem dX5_leftAhead_20 : decode cX5_leftAhead 20 = .ok (.iload 5, 2) := by decide +kernel
theorem dX5_leftAhead_22 : decode cX5_leftAhead 22 = .ok (.iaload, 1) := by decide +kernel
theorem dX5_leftAhead_23 : decode cX5_leftAhead 23 = .ok (.iconst 2, 1) := by decide +kernel
theorem dX5_leftAhead_24 : decode cX5_leftAhead 24 = .ok (.if_icmp .ne 42, 3) := by decide +kernel
theorem dX5_leftAhead_27 : decode cX5_leftAhead 27 = .ok (.aload_n 0, 1) := by decide +kernel
theorem dX5_leftAhead_28 : decode cX5_leftAhead 28 = .ok (.getfield 49, 3) := by decide +kernel
theorem dX5_leftAhead_31 : decode cX5_leftAhead 31 = .ok (.iload 5, 2) := by decide +kernel
theorem dX5_leftAhead_33 : decode cX5_leftAhead 33 = .ok (.iaload, 1) := by decide +kernel
theorem dX5_leftAhead_34 : decode cX5_leftAhead 34 = .ok (.iload_n 1, 1) := by decide +kernel
theorem dX5_leftAhead_35 : decode cX5_leftAhead 35 = .ok (.if_icmp .ne 31, 3) := by decide +kernel
theorem dX5_leftAhead_38 : decode cX5_leftAhead 38 = .ok (.lload_n 3, 1) := by decide +kernel
theorem dX5_leftAhead_39 : decode cX5_leftAhead 39 = .ok (.aload_n 0, 1) := by decide +kernel
theorem dX5_leftAhead_40 : decode cX5_leftAhead 40 = .ok (.getfield 58, 3) := by decide +kernel
theorem dX5_leftAhead_43 : decode cX5_leftAhead 43 = .ok (.iload 5, 2) := by decide +kernel
theorem dX5_leftAhead_45 : decode cX5_leftAhead 45 = .ok (.iaload, 1) := by decide +kernel
theorem dX5_leftAhead_46 : decode cX5_leftAhead 46 = .ok (.i2l, 1) := by decide +kernel
theorem dX5_leftAhead_47 : decode cX5_leftAhead 47 = .ok (.lload_n 3, 1) := by decide +kernel
theorem dX5_leftAhead_48 : decode cX5_leftAhead 48 = .ok (.lcmp, 1) := by decide +kernel
theorem dX5_leftAhead_49 : decode cX5_leftAhead 49 = .ok (.ifCond .ge 14, 3) := by decide +kernel
theorem dX5_leftAhead_52 : decode cX5_leftAhead 52 = .ok (.aload_n 0, 1) := by decide +kernel
theorem dX5_leftAhead_53 : decode cX5_leftAhead 53 = .ok (.getfield 58, 3) := by decide +kernel
theorem dX5_leftAhead_56 : decode cX5_leftAhead 56 = .ok (.iload 5, 2) := by decide +kernel
theorem dX5_leftAhead_58 : decode cX5_leftAhead 58 = .ok (.iaload, 1) := by decide +kernel
theorem dX5_leftAhead_59 : decode cX5_leftAhead 59 = .ok (.i2l, 1) := by decide +kernel
theorem dX5_leftAhead_60 : decode cX5_leftAhead 60 = .ok (.goto 4, 3) := by decide +kernel
theorem dX5_leftAhead_63 : decode cX5_leftAhead 63 = .ok (.lload_n 3, 1) := by decide +kernel
theorem dX5_leftAhead_64 : decode cX5_leftAhead 64 = .ok (.lsub, 1) := by decide +kernel
theorem dX5_leftAhead_65 : decode cX5_leftAhead 65 = .ok (.lstore_n 3, 1) := by decide +kernel
theorem dX5_leftAhead_66 : decode cX5_leftAhead 66 = .ok (.iinc 5 1, 3) := by decide +kernel
theorem dX5_leftAhead_69 : decode cX5_leftAhead 69 = .ok (.goto (-59), 3) := by decide +kernel
theorem dX5_leftAhead_72 : decode cX5_leftAhead 72 = .ok (.lload_n 3, 1) := by decide +kernel
theorem dX5_leftAhead_73 : decode cX5_leftAhead 73 = .ok (.lreturn, 1) := by decide +kernel
theorem dX5_byShare_0 : decode cX5_byShare 0 = .ok (.aload_n 0, 1) := by decide +kernel
theorem dX5_byShare_1 : decode cX5_byShare 1 = .ok (.aload_n 0, 1) := by decide +kernel
theorem dX5_byShare_2 : decode cX5_byShare 2 = .ok (.getfield 49, 3) := by decide +kernel
theorem dX5_byShare_5 : decode cX5_byShare 5 = .ok (.iload_n 1, 1) := by decide +kernel
theorem dX5_byShare_6 : decode cX5_byShare 6 = .ok (.iaload, 1) := by decide +kernel
theorem dX5_byShare_7 : decode cX5_byShare 7 = .ok (.aload_n 0, 1) := by decide +kernel
theorem dX5_byShare_8 : decode cX5_byShare 8 = .ok (.getfield 108, 3) := by decide +kernel
theorem dX5_byShare_11 : decode cX5_byShare 11 = .ok (.invokevirtual 163, 3) := by decide +kernel
theorem dX5_byShare_14 : decode cX5_byShare 14 = .ok (.aload_n 0, 1) := by decide +kernel
theorem dX5_byShare_15 : decode cX5_byShare 15 = .ok (.getfield 58, 3) := by decide +kernel
theorem dX5_byShare_18 : decode cX5_byShare 18 = .ok (.iload_n 1, 1) := by decide +kernel
theorem dX5_byShare_19 : decode cX5_byShare 19 = .ok (.iaload, 1) := by decide +kernel
theorem dX5_byShare_20 : decode cX5_byShare 20 = .ok (.i2l, 1) := by decide +kernel
theorem dX5_byShare_21 : decode cX5_byShare 21 = .ok (.lmul, 1) := by decide +kernel
theorem dX5_byShare_22 : decode cX5_byShare 22 = .ok (.ldc2_w 167, 3) := by decide +kernel
theorem dX5_byShare_25 : decode cX5_byShare 25 = .ok (.ldiv, 1) := by decide +kernel
theorem dX5_byShare_26 : decode cX5_byShare 26 = .ok (.lreturn, 1) := by decide +kernel
theorem dX5_sumOf_0 : decode cX5_sumOf 0 = .ok (.aload_n 0, 1) := by decide +kernel
theorem dX5_sumOf_1 : decode cX5_sumOf 1 = .ok (.getfield 49, 3) := by decide +kernel
theorem dX5_sumOf_4 : decode cX5_sumOf 4 = .ok (.iload_n 1, 1) := by decide +kernel
theorem dX5_sumOf_5 : decode cX5_sumOf 5 = .ok (.iaload, 1) := by decide +kernel
theorem dX5_sumOf_6 : decode cX5_sumOf 6 = .ok (.istore_n 2, 1) := by decide +kernel
theorem dX5_sumOf_7 : decode cX5_sumOf 7 = .ok (.aload_n 0, 1) := by decide +kernel
theorem dX5_sumOf_8 : decode cX5_sumOf 8 = .ok (.getfield 29, 3) := by decide +kernel
theorem dX5_sumOf_11 : decode cX5_sumOf 11 = .ok (.iload_n 2, 1) := by decide +kernel
theorem dX5_sumOf_12 : decode cX5_sumOf 12 = .ok (.iaload, 1) := by decide +kernel
theorem dX5_sumOf_13 : decode cX5_sumOf 13 = .ok (.istore_n 3, 1) := by decide +kernel
theorem dX5_sumOf_14 : decode cX5_sumOf 14 = .ok (.aload_n 0, 1) := by decide +kernel
theorem dX5_sumOf_15 : decode cX5_sumOf 15 = .ok (.getfield 46, 3) := by decide +kernel
theorem dX5_sumOf_18 : decode cX5_sumOf 18 = .ok (.iload_n 1, 1) := by decide +kernel
theorem dX5_sumOf_19 : decode cX5_sumOf 19 = .ok (.iaload, 1) := by decide +kernel
theorem dX5_sumOf_20 : decode cX5_sumOf 20 = .ok (.iconst 2, 1) := by decide +kernel
theorem dX5_sumOf_21 : decode cX5_sumOf 21 = .ok (.if_icmp .ne 37, 3) := by decide +kernel
theorem dX5_sumOf_24 : decode cX5_sumOf 24 = .ok (.aload_n 0, 1) := by decide +kernel
theorem dX5_sumOf_25 : decode cX5_sumOf 25 = .ok (.iload_n 2, 1) := by decide +kernel
theorem dX5_sumOf_26 : decode cX5_sumOf 26 = .ok (.iload_n 1, 1) := by decide +kernel
theorem dX5_sumOf_27 : decode cX5_sumOf 27 = .ok (.invokevirtual 163, 3) := by decide +kernel
theorem dX5_sumOf_30 : decode cX5_sumOf 30 = .ok (.lstore 4, 2) := by decide +kernel
theorem dX5_sumOf_32 : decode cX5_sumOf 32 = .ok (.aload_n 0, 1) := by decide +kernel
theorem dX5_sumOf_33 : decode cX5_sumOf 33 = .ok (.getfield 58, 3) := by decide +kernel
theorem dX5_sumOf_36 : decode cX5_sumOf 36 = .ok (.iload_n 1, 1) := by decide +kernel
theorem dX5_sumOf_37 : decode cX5_sumOf 37 = .ok (.iaload, 1) := by decide +kernel
theorem dX5_sumOf_38 : decode cX5_sumOf 38 = .ok (.i2l, 1) := by decide +kernel
theorem dX5_sumOf_39 : decode cX5_sumOf 39 = .ok (.lload 4, 2) := by decide +kernel
theorem dX5_sumOf_41 : decode cX5_sumOf 41 = .ok (.lcmp, 1) := by decide +kernel
theorem dX5_sumOf_42 : decode cX5_sumOf 42 = .ok (.ifCond .ge 13, 3) := by decide +kernel
theorem dX5_sumOf_45 : decode cX5_sumOf 45 = .ok (.aload_n 0, 1) := by decide +kernel
theorem dX5_sumOf_46 : decode cX5_sumOf 46 = .ok (.getfield 58, 3) := by decide +kernel
theorem dX5_sumOf_49 : decode cX5_sumOf 49 = .ok (.iload_n 1, 1) := by decide +kernel
theorem dX5_sumOf_50 : decode cX5_sumOf 50 = .ok (.iaload, 1) := by decide +kernel
theorem dX5_sumOf_51 : decode cX5_sumOf 51 = .ok (.i2l, 1) := by decide +kernel
theorem dX5_sumOf_52 : decode cX5_sumOf 52 = .ok (.goto 5, 3) := by decide +kernel
theorem dX5_sumOf_55 : decode cX5_sumOf 55 = .ok (.lload 4, 2) := by decide +kernel
theorem dX5_sumOf_57 : decode cX5_sumOf 57 = .ok (.lreturn, 1) := by decide +kernel
theorem dX5_sumOf_58 : decode cX5_sumOf 58 = .ok (.aload_n 0, 1) := by decide +kernel
theorem dX5_sumOf_59 : decode cX5_sumOf 59 = .ok (.getfield 46, 3) := by decide +kernel
theorem dX5_sumOf_62 : decode cX5_sumOf 62 = .ok (.iload_n 1, 1) := by decide +kernel
theorem dX5_sumOf_63 : decode cX5_sumOf 63 = .ok (.iaload, 1) := by decide +kernel
theorem dX5_sumOf_64 : decode cX5_sumOf 64 = .ok (.ifCond .ne 70, 3) := by decide +kernel
theorem dX5_sumOf_67 : decode cX5_sumOf 67 = .ok (.aload_n 0, 1) := by decide +kernel
theorem dX5_sumOf_68 : decode cX5_sumOf 68 = .ok (.getfield 17, 3) := by decide +kernel
theorem dX5_sumOf_71 : decode cX5_sumOf 71 = .ok (.iload_n 2, 1) := by decide +kernel
theorem dX5_sumOf_72 : decode cX5_sumOf 72 = .ok (.iaload, 1) := by decide +kernel
theorem dX5_sumOf_73 : decode cX5_sumOf 73 = .ok (.iconst 1, 1) := by decide +kernel
theorem dX5_sumOf_74 : decode cX5_sumOf 74 = .ok (.if_icmp .ne 32, 3) := by decide +kernel
theorem dX5_sumOf_77 : decode cX5_sumOf 77 = .ok (.aload_n 0, 1) := by decide +kernel
theorem dX5_sumOf_78 : decode cX5_sumOf 78 = .ok (.getfield 26, 3) := by decide +kernel
theorem dX5_sumOf_81 : decode cX5_sumOf 81 = .ok (.iload_n 2, 1) := by decide +kernel
theorem dX5_sumOf_82 : decode cX5_sumOf 82 = .ok (.iaload, 1) := by decide +kernel
theorem dX5_sumOf_83 : decode cX5_sumOf 83 = .ok (.bipush 100, 2) := by decide +kernel
theorem dX5_sumOf_85 : decode cX5_sumOf 85 = .ok (.if_icmp .ne 21, 3) := by decide +kernel
theorem dX5_sumOf_88 : decode cX5_sumOf 88 = .ok (.iload_n 3, 1) := by decide +kernel
theorem dX5_sumOf_89 : decode cX5_sumOf 89 = .ok (.aload_n 0, 1) := by decide +kernel
theorem dX5_sumOf_90 : decode cX5_sumOf 90 = .ok (.getfield 55, 3) := by decide +kernel
theorem dX5_sumOf_93 : decode cX5_sumOf 93 = .ok (.iload_n 1, 1) := by decide +kernel
theorem dX5_sumOf_94 : decode cX5_sumOf 94 = .ok (.iaload, 1) := by decide +kernel
theorem dX5_sumOf_95 : decode cX5_sumOf 95 = .ok (.isub, 1) := by decide +kernel
theorem dX5_sumOf_96 : decode cX5_sumOf 96 = .ok (.sipush 365, 3) := by decide +kernel
theorem dX5_sumOf_99 : decode cX5_sumOf 99 = .ok (.if_icmp .lt 7, 3) := by decide +kernel
theorem dX5_sumOf_102 : decode cX5_sumOf 102 = .ok (.iconst 1, 1) := by decide +kernel
theorem dX5_sumOf_103 : decode cX5_sumOf 103 = .ok (.goto 4, 3) := by decide +kernel
theorem dX5_sumOf_106 : decode cX5_sumOf 106 = .ok (.iconst 0, 1) := by decide +kernel
theorem dX5_sumOf_107 : decode cX5_sumOf 107 = .ok (.istore 4, 2) := by decide +kernel
theorem dX5_sumOf_109 : decode cX5_sumOf 109 = .ok (.aload_n 0, 1) := by decide +kernel
theorem dX5_sumOf_110 : decode cX5_sumOf 110 = .ok (.iload_n 1, 1) := by decide +kernel
theorem dX5_sumOf_111 : decode cX5_sumOf 111 = .ok (.invokevirtual 169, 3) := by decide +kernel
theorem dX5_sumOf_114 : decode cX5_sumOf 114 = .ok (.iload 4, 2) := by decide +kernel
theorem dX5_sumOf_116 : decode cX5_sumOf 116 = .ok (.ifCond .eq 15, 3) := by decide +kernel
theorem dX5_sumOf_119 : decode cX5_sumOf 119 = .ok (.aload_n 0, 1) := by decide +kernel
theorem dX5_sumOf_120 : decode cX5_sumOf 120 = .ok (.iload_n 1, 1) := by decide +kernel
theorem dX5_sumOf_121 : decode cX5_sumOf 121 = .ok (.invokevirtual 169, 3) := by decide +kernel
theorem dX5_sumOf_124 : decode cX5_sumOf 124 = .ok (.ldc2_w 173, 3) := by decide +kernel
theorem dX5_sumOf_127 : decode cX5_sumOf 127 = .ok (.ldiv, 1) := by decide +kernel
theorem dX5_sumOf_128 : decode cX5_sumOf 128 = .ok (.goto 4, 3) := by decide +kernel
theorem dX5_sumOf_131 : decode cX5_sumOf 131 = .ok (.lconst 0, 1) := by decide +kernel
theorem dX5_sumOf_132 : decode cX5_sumOf 132 = .ok (.ladd, 1) := by decide +kernel
theorem dX5_sumOf_133 : decode cX5_sumOf 133 = .ok (.lreturn, 1) := by decide +kernel
theorem dX5_sumOf_134 : decode cX5_sumOf 134 = .ok (.aload_n 0, 1) := by decide +kernel
theorem dX5_sumOf_135 : decode cX5_sumOf 135 = .ok (.getfield 58, 3) := by decide +kernel
theorem dX5_sumOf_138 : decode cX5_sumOf 138 = .ok (.iload_n 1, 1) := by decide +kernel
theorem dX5_sumOf_139 : decode cX5_sumOf 139 = .ok (.iaload, 1) := by decide +kernel
theorem dX5_sumOf_140 : decode cX5_sumOf 140 = .ok (.iload_n 3, 1) := by decide +kernel
theorem dX5_sumOf_141 : decode cX5_sumOf 141 = .ok (.isub, 1) := by decide +kernel
theorem dX5_sumOf_142 : decode cX5_sumOf 142 = .ok (.istore 4, 2) := by decide +kernel
theorem dX5_sumOf_144 : decode cX5_sumOf 144 = .ok (.iload 4, 2) := by decide +kernel
theorem dX5_sumOf_146 : decode cX5_sumOf 146 = .ok (.ifCond .gt 5, 3) := by decide +kernel
theorem dX5_sumOf_149 : decode cX5_sumOf 149 = .ok (.lconst 0, 1) := by decide +kernel
theorem dX5_sumOf_150 : decode cX5_sumOf 150 = .ok (.lreturn, 1) := by decide +kernel
theorem dX5_sumOf_151 : decode cX5_sumOf 151 = .ok (.iload 4, 2) := by decide +kernel
theorem dX5_sumOf_153 : decode cX5_sumOf 153 = .ok (.sipush 730, 3) := by decide +kernel
theorem dX5_sumOf_156 : decode cX5_sumOf 156 = .ok (.if_icmp .le 9, 3) := by decide +kernel
theorem dX5_sumOf_159 : decode cX5_sumOf 159 = .ok (.sipush 730, 3) := by decide +kernel
theorem dX5_sumOf_162 : decode cX5_sumOf 162 = .ok (.goto 5, 3) := by decide +kernel
theorem dX5_sumOf_165 : decode cX5_sumOf 165 = .ok (.iload 4, 2) := by decide +kernel
theorem dX5_sumOf_167 : decode cX5_sumOf 167 = .ok (.istore 4, 2) := by decide +kernel
theorem dX5_sumOf_169 : decode cX5_sumOf 169 = .ok (.iload 4, 2) := by decide +kernel
theorem dX5_sumOf_171 : decode cX5_sumOf 171 = .ok (.aload_n 0, 1) := by decide +kernel
theorem dX5_sumOf_172 : decode cX5_sumOf 172 = .ok (.getfield 17, 3) := by decide +kernel
theorem dX5_sumOf_175 : decode cX5_sumOf 175 = .ok (.iload_n 2, 1) := by decide +kernel
theorem dX5_sumOf_176 : decode cX5_sumOf 176 = .ok (.iaload, 1) := by decide +kernel
theorem dX5_sumOf_177 : decode cX5_sumOf 177 = .ok (.iconst 2, 1) := by decide +kernel
theorem dX5_sumOf_178 : decode cX5_sumOf 178 = .ok (.if_icmp .ne 8, 3) := by decide +kernel
theorem dX5_sumOf_181 : decode cX5_sumOf 181 = .ok (.bipush 90, 2) := by decide +kernel
theorem dX5_sumOf_183 : decode cX5_sumOf 183 = .ok (.goto 4, 3) := by decide +kernel
theorem dX5_sumOf_186 : decode cX5_sumOf 186 = .ok (.iconst 0, 1) := by decide +kernel
theorem dX5_sumOf_187 : decode cX5_sumOf 187 = .ok (.iadd, 1) := by decide +kernel
theorem dX5_sumOf_188 : decode cX5_sumOf 188 = .ok (.i2l, 1) := by decide +kernel
theorem dX5_sumOf_189 : decode cX5_sumOf 189 = .ok (.aload_n 0, 1) := by decide +kernel
theorem dX5_sumOf_190 : decode cX5_sumOf 190 = .ok (.getfield 97, 3) := by decide +kernel
theorem dX5_sumOf_193 : decode cX5_sumOf 193 = .ok (.iload_n 1, 1) := by decide +kernel
theorem dX5_sumOf_194 : decode cX5_sumOf 194 = .ok (.iaload, 1) := by decide +kernel
theorem dX5_sumOf_195 : decode cX5_sumOf 195 = .ok (.i2l, 1) := by decide +kernel
theorem dX5_sumOf_196 : decode cX5_sumOf 196 = .ok (.lmul, 1) := by decide +kernel
theorem dX5_sumOf_197 : decode cX5_sumOf 197 = .ok (.lreturn, 1) := by decide +kernel
theorem dX5_take_0 : decode cX5_take 0 = .ok (.aload_n 0, 1) := by decide +kernel
theorem dX5_take_1 : decode cX5_take 1 = .ok (.getfield 20, 3) := by decide +kernel
theorem dX5_take_4 : decode cX5_take 4 = .ok (.iload_n 1, 1) := by decide +kernel
theorem dX5_take_5 : decode cX5_take 5 = .ok (.iconst 1, 1) := by decide +kernel
theorem dX5_take_6 : decode cX5_take 6 = .ok (.iastore, 1) := by decide +kernel
theorem dX5_take_7 : decode cX5_take 7 = .ok (.aload_n 0, 1) := by decide +kernel
theorem dX5_take_8 : decode cX5_take 8 = .ok (.getfield 29, 3) := by decide +kernel
theorem dX5_take_11 : decode cX5_take 11 = .ok (.iload_n 1, 1) := by decide +kernel
theorem dX5_take_12 : decode cX5_take 12 = .ok (.aload_n 0, 1) := by decide +kernel
theorem dX5_take_13 : decode cX5_take 13 = .ok (.getfield 121, 3) := by decide +kernel
theorem dX5_take_16 : decode cX5_take 16 = .ok (.iastore, 1) := by decide +kernel
theorem dX5_take_17 : decode cX5_take 17 = .ok (.aload_n 0, 1) := by decide +kernel
theorem dX5_take_18 : decode cX5_take 18 = .ok (.getfield 42, 3) := by decide +kernel
theorem dX5_take_21 : decode cX5_take 21 = .ok (.iload_n 1, 1) := by decide +kernel
theorem dX5_take_22 : decode cX5_take 22 = .ok (.aload_n 0, 1) := by decide +kernel
theorem dX5_take_23 : decode cX5_take 23 = .ok (.iload_n 1, 1) := by decide +kernel
theorem dX5_take_24 : decode cX5_take 24 = .ok (.aload_n 0, 1) := by decide +kernel
theorem dX5_take_25 : decode cX5_take 25 = .ok (.getfield 23, 3) := by decide +kernel
theorem dX5_take_28 : decode cX5_take 28 = .ok (.iload_n 1, 1) := by decide +kernel
theorem dX5_take_29 : decode cX5_take 29 = .ok (.iaload, 1) := by decide +kernel
theorem dX5_take_30 : decode cX5_take 30 = .ok (.invokevirtual 175, 3) := by decide +kernel
theorem dX5_take_33 : decode cX5_take 33 = .ok (.i2l, 1) := by decide +kernel
theorem dX5_take_34 : decode cX5_take 34 = .ok (.lastore, 1) := by decide +kernel
theorem dX5_take_35 : decode cX5_take 35 = .ok (.aload_n 0, 1) := by decide +kernel
theorem dX5_take_36 : decode cX5_take 36 = .ok (.iload_n 1, 1) := by decide +kernel
theorem dX5_take_37 : decode cX5_take 37 = .ok (.aload_n 0, 1) := by decide +kernel
theorem dX5_take_38 : decode cX5_take 38 = .ok (.getfield 108, 3) := by decide +kernel
theorem dX5_take_41 : decode cX5_take 41 = .ok (.invokevirtual 163, 3) := by decide +kernel
theorem dX5_take_44 : decode cX5_take 44 = .ok (.lstore_n 2, 1) := by decide +kernel
theorem dX5_take_45 : decode cX5_take 45 = .ok (.iconst 0, 1) := by decide +kernel
theorem dX5_take_46 : decode cX5_take 46 = .ok (.istore 4, 2) := by decide +kernel
theorem dX5_take_48 : decode cX5_take 48 = .ok (.iload 4, 2) := by decide +kernel
theorem dX5_take_50 : decode cX5_take 50 = .ok (.aload_n 0, 1) := by decide +kernel
theorem dX5_take_51 : decode cX5_take 51 = .ok (.getfield 108, 3) := by decide +kernel
theorem dX5_take_54 : decode cX5_take 54 = .ok (.if_icmp .ge 56, 3) := by decide +kernel
theorem dX5_take_57 : decode cX5_take 57 = .ok (.aload_n 0, 1) := by decide +kernel
theorem dX5_take_58 : decode cX5_take 58 = .ok (.getfield 49, 3) := by decide +kernel
theorem dX5_take_61 : decode cX5_take 61 = .ok (.iload 4, 2) := by decide +kernel
theorem dX5_take_63 : decode cX5_take 63 = .ok (.iaload, 1) := by decide +kernel
theorem dX5_take_64 : decode cX5_take 64 = .ok (.iload_n 1, 1) := by decide +kernel
theorem dX5_take_65 : decode cX5_take 65 = .ok (.if_icmp .ne 39, 3) := by decide +kernel
theorem dX5_take_68 : decode cX5_take 68 = .ok (.aload_n 0, 1) := by decide +kernel
theorem dX5_take_69 : decode cX5_take 69 = .ok (.getfield 67, 3) := by decide +kernel
theorem dX5_take_72 : decode cX5_take 72 = .ok (.iload 4, 2) := by decide +kernel
theorem dX5_take_74 : decode cX5_take 74 = .ok (.aload_n 0, 1) := by decide +kernel
theorem dX5_take_75 : decode cX5_take 75 = .ok (.iload 4, 2) := by decide +kernel
theorem dX5_take_77 : decode cX5_take 77 = .ok (.invokevirtual 178, 3) := by decide +kernel
theorem dX5_take_80 : decode cX5_take 80 = .ok (.lastore, 1) := by decide +kernel
theorem dX5_take_81 : decode cX5_take 81 = .ok (.lload_n 2, 1) := by decide +kernel
theorem dX5_take_82 : decode cX5_take 82 = .ok (.aload_n 0, 1) := by decide +kernel
theorem dX5_take_83 : decode cX5_take 83 = .ok (.getfield 46, 3) := by decide +kernel
theorem dX5_take_86 : decode cX5_take 86 = .ok (.iload 4, 2) := by decide +kernel
theorem dX5_take_88 : decode cX5_take 88 = .ok (.iaload, 1) := by decide +kernel
theorem dX5_take_89 : decode cX5_take 89 = .ok (.ifCond .ne 12, 3) := by decide +kernel
theorem dX5_take_92 : decode cX5_take 92 = .ok (.aload_n 0, 1) := by decide +kernel
theorem dX5_take_93 : decode cX5_take 93 = .ok (.iload 4, 2) := by decide +kernel
theorem dX5_take_95 : decode cX5_take 95 = .ok (.invokevirtual 169, 3) := by decide +kernel
theorem dX5_take_98 : decode cX5_take 98 = .ok (.goto 4, 3) := by decide +kernel
theorem dX5_take_101 : decode cX5_take 101 = .ok (.lconst 0, 1) := by decide +kernel
theorem dX5_take_102 : decode cX5_take 102 = .ok (.lsub, 1) := by decide +kernel
theorem dX5_take_103 : decode cX5_take 103 = .ok (.lstore_n 2, 1) := by decide +kernel
theorem dX5_take_104 : decode cX5_take 104 = .ok (.iinc 4 1, 3) := by decide +kernel
theorem dX5_take_107 : decode cX5_take 107 = .ok (.goto (-59), 3) := by decide +kernel
theorem dX5_take_110 : decode cX5_take 110 = .ok (.aload_n 0, 1) := by decide +kernel
theorem dX5_take_111 : decode cX5_take 111 = .ok (.dup, 1) := by decide +kernel
theorem dX5_take_112 : decode cX5_take 112 = .ok (.getfield 181, 3) := by decide +kernel
theorem dX5_take_115 : decode cX5_take 115 = .ok (.lload_n 2, 1) := by decide +kernel
theorem dX5_take_116 : decode cX5_take 116 = .ok (.ladd, 1) := by decide +kernel
theorem dX5_take_117 : decode cX5_take 117 = .ok (.putfield 181, 3) := by decide +kernel
theorem dX5_take_120 : decode cX5_take 120 = .ok (.aload_n 0, 1) := by decide +kernel
theorem dX5_take_121 : decode cX5_take 121 = .ok (.getfield 42, 3) := by decide +kernel
theorem dX5_take_124 : decode cX5_take 124 = .ok (.iload_n 1, 1) := by decide +kernel
theorem dX5_take_125 : decode cX5_take 125 = .ok (.laload, 1) := by decide +kernel
theorem dX5_take_126 : decode cX5_take 126 = .ok (.l2i, 1) := by decide +kernel
theorem dX5_take_127 : decode cX5_take 127 = .ok (.ireturn, 1) := by decide +kernel
theorem dX5_enter_0 : decode cX5_enter 0 = .ok (.aload_n 0, 1) := by decide +kernel
theorem dX5_enter_1 : decode cX5_enter 1 = .ok (.aload_n 0, 1) := by decide +kernel
theorem dX5_enter_2 : decode cX5_enter 2 = .ok (.iload_n 1, 1) := by decide +kernel
theorem dX5_enter_3 : decode cX5_enter 3 = .ok (.invokevirtual 114, 3) := by decide +kernel
theorem dX5_enter_6 : decode cX5_enter 6 = .ok (.ifCond .ne 7, 3) := by decide +kernel
theorem dX5_enter_9 : decode cX5_enter 9 = .ok (.iconst 1, 1) := by decide +kernel
theorem dX5_enter_10 : decode cX5_enter 10 = .ok (.goto 4, 3) := by decide +kernel
theorem dX5_enter_13 : decode cX5_enter 13 = .ok (.iconst 0, 1) := by decide +kernel
theorem dX5_enter_14 : decode cX5_enter 14 = .ok (.putfield 100, 3) := by decide +kernel
theorem dX5_enter_17 : decode cX5_enter 17 = .ok (.aload_n 0, 1) := by decide +kernel
theorem dX5_enter_18 : decode cX5_enter 18 = .ok (.getfield 100, 3) := by decide +kernel
theorem dX5_enter_21 : decode cX5_enter 21 = .ok (.ifCond .ne 70, 3) := by decide +kernel
theorem dX5_enter_24 : decode cX5_enter 24 = .ok (.aload_n 0, 1) := by decide +kernel
theorem dX5_enter_25 : decode cX5_enter 25 = .ok (.getfield 23, 3) := by decide +kernel
theorem dX5_enter_28 : decode cX5_enter 28 = .ok (.iload_n 1, 1) := by decide +kernel
theorem dX5_enter_29 : decode cX5_enter 29 = .ok (.iaload, 1) := by decide +kernel
theorem dX5_enter_30 : decode cX5_enter 30 = .ok (.istore_n 2, 1) := by decide +kernel
theorem dX5_enter_31 : decode cX5_enter 31 = .ok (.aload_n 0, 1) := by decide +kernel
theorem dX5_enter_32 : decode cX5_enter 32 = .ok (.getfield 20, 3) := by decide +kernel
theorem dX5_enter_35 : decode cX5_enter 35 = .ok (.iload_n 1, 1) := by decide +kernel
theorem dX5_enter_36 : decode cX5_enter 36 = .ok (.iaload, 1) := by decide +kernel
theorem dX5_enter_37 : decode cX5_enter 37 = .ok (.ifCond .ne 39, 3) := by decide +kernel
theorem dX5_enter_40 : decode cX5_enter 40 = .ok (.iload_n 2, 1) := by decide +kernel
theorem dX5_enter_41 : decode cX5_enter 41 = .ok (.iconst (-1), 1) := by decide +kernel
theorem dX5_enter_42 : decode cX5_enter 42 = .ok (.if_icmp .eq 34, 3) := by decide +kernel
theorem dX5_enter_45 : decode cX5_enter 45 = .ok (.aload_n 0, 1) := by decide +kernel
theorem dX5_enter_46 : decode cX5_enter 46 = .ok (.getfield 88, 3) := by decide +kernel
theorem dX5_enter_49 : decode cX5_enter 49 = .ok (.iload_n 2, 1) := by decide +kernel
theorem dX5_enter_50 : decode cX5_enter 50 = .ok (.iaload, 1) := by decide +kernel
theorem dX5_enter_51 : decode cX5_enter 51 = .ok (.iconst 1, 1) := by decide +kernel
theorem dX5_enter_52 : decode cX5_enter 52 = .ok (.if_icmp .ne 24, 3) := by decide +kernel
theorem dX5_enter_55 : decode cX5_enter 55 = .ok (.aload_n 0, 1) := by decide +kernel
theorem dX5_enter_56 : decode cX5_enter 56 = .ok (.getfield 121, 3) := by decide +kernel
theorem dX5_enter_59 : decode cX5_enter 59 = .ok (.aload_n 0, 1) := by decide +kernel
theorem dX5_enter_60 : decode cX5_enter 60 = .ok (.getfield 91, 3) := by decide +kernel
theorem dX5_enter_63 : decode cX5_enter 63 = .ok (.iload_n 2, 1) := by decide +kernel
theorem dX5_enter_64 : decode cX5_enter 64 = .ok (.iaload, 1) := by decide +kernel
theorem dX5_enter_65 : decode cX5_enter 65 = .ok (.isub, 1) := by decide +kernel
theorem dX5_enter_66 : decode cX5_enter 66 = .ok (.sipush 1095, 3) := by decide +kernel
theorem dX5_enter_69 : decode cX5_enter 69 = .ok (.if_icmp .gt 7, 3) := by decide +kernel
theorem dX5_enter_72 : decode cX5_enter 72 = .ok (.iconst 1, 1) := by decide +kernel
theorem dX5_enter_73 : decode cX5_enter 73 = .ok (.goto 4, 3) := by decide +kernel
theorem dX5_enter_76 : decode cX5_enter 76 = .ok (.iconst 0, 1) := by decide +kernel
theorem dX5_enter_77 : decode cX5_enter 77 = .ok (.istore_n 3, 1) := by decide +kernel
theorem dX5_enter_78 : decode cX5_enter 78 = .ok (.aload_n 0, 1) := by decide +kernel
theorem dX5_enter_79 : decode cX5_enter 79 = .ok (.iload_n 3, 1) := by decide +kernel
theorem dX5_enter_80 : decode cX5_enter 80 = .ok (.ifCond .eq 7, 3) := by decide +kernel
theorem dX5_enter_83 : decode cX5_enter 83 = .ok (.iconst 0, 1) := by decide +kernel
theorem dX5_enter_84 : decode cX5_enter 84 = .ok (.goto 4, 3) := by decide +kernel
theorem dX5_enter_87 : decode cX5_enter 87 = .ok (.iconst 2, 1) := by decide +kernel
theorem dX5_enter_88 : decode cX5_enter 88 = .ok (.putfield 100, 3) := by decide +kernel
theorem dX5_enter_91 : decode cX5_enter 91 = .ok (.aload_n 0, 1) := by decide +kernel
theorem dX5_enter_92 : decode cX5_enter 92 = .ok (.getfield 100, 3) := by decide +kernel
theorem dX5_enter_95 : decode cX5_enter 95 = .ok (.ifCond .le 7, 3) := by decide +kernel
theorem dX5_enter_98 : decode cX5_enter 98 = .ok (.iconst 0, 1) := by decide +kernel
theorem dX5_enter_99 : decode cX5_enter 99 = .ok (.goto 8, 3) := by decide +kernel
theorem dX5_enter_102 : decode cX5_enter 102 = .ok (.aload_n 0, 1) := by decide +kernel
theorem dX5_enter_103 : decode cX5_enter 103 = .ok (.iload_n 1, 1) := by decide +kernel
theorem dX5_enter_104 : decode cX5_enter 104 = .ok (.invokevirtual 185, 3) := by decide +kernel
theorem dX5_enter_107 : decode cX5_enter 107 = .ok (.ireturn, 1) := by decide +kernel
theorem dX5_blight_0 : decode cX5_blight 0 = .ok (.aload_n 0, 1) := by decide +kernel
theorem dX5_blight_1 : decode cX5_blight 1 = .ok (.aload_n 0, 1) := by decide +kernel
theorem dX5_blight_2 : decode cX5_blight 2 = .ok (.iload_n 1, 1) := by decide +kernel
theorem dX5_blight_3 : decode cX5_blight 3 = .ok (.invokevirtual 136, 3) := by decide +kernel
theorem dX5_blight_6 : decode cX5_blight 6 = .ok (.ifCond .ne 7, 3) := by decide +kernel
theorem dX5_blight_9 : decode cX5_blight 9 = .ok (.iconst 1, 1) := by decide +kernel
theorem dX5_blight_10 : decode cX5_blight 10 = .ok (.goto 17, 3) := by decide +kernel
theorem dX5_blight_13 : decode cX5_blight 13 = .ok (.aload_n 0, 1) := by decide +kernel
theorem dX5_blight_14 : decode cX5_blight 14 = .ok (.getfield 46, 3) := by decide +kernel
theorem dX5_blight_17 : decode cX5_blight 17 = .ok (.iload_n 1, 1) := by decide +kernel
theorem dX5_blight_18 : decode cX5_blight 18 = .ok (.iaload, 1) := by decide +kernel
theorem dX5_blight_19 : decode cX5_blight 19 = .ok (.ifCond .eq 7, 3) := by decide +kernel
theorem dX5_blight_22 : decode cX5_blight 22 = .ok (.iconst 2, 1) := by decide +kernel
theorem dX5_blight_23 : decode cX5_blight 23 = .ok (.goto 4, 3) := by decide +kernel
theorem dX5_blight_26 : decode cX5_blight 26 = .ok (.iconst 0, 1) := by decide +kernel
theorem dX5_blight_27 : decode cX5_blight 27 = .ok (.putfield 100, 3) := by decide +kernel
theorem dX5_blight_30 : decode cX5_blight 30 = .ok (.aload_n 0, 1) := by decide +kernel
theorem dX5_blight_31 : decode cX5_blight 31 = .ok (.getfield 100, 3) := by decide +kernel
theorem dX5_blight_34 : decode cX5_blight 34 = .ok (.ifCond .ne 75, 3) := by decide +kernel
theorem dX5_blight_37 : decode cX5_blight 37 = .ok (.aload_n 0, 1) := by decide +kernel
theorem dX5_blight_38 : decode cX5_blight 38 = .ok (.getfield 49, 3) := by decide +kernel
theorem dX5_blight_41 : decode cX5_blight 41 = .ok (.iload_n 1, 1) := by decide +kernel
theorem dX5_blight_42 : decode cX5_blight 42 = .ok (.iaload, 1) := by decide +kernel
theorem dX5_blight_43 : decode cX5_blight 43 = .ok (.istore_n 2, 1) := by decide +kernel
theorem dX5_blight_44 : decode cX5_blight 44 = .ok (.aload_n 0, 1) := by decide +kernel
theorem dX5_blight_45 : decode cX5_blight 45 = .ok (.getfield 20, 3) := by decide +kernel
theorem dX5_blight_48 : decode cX5_blight 48 = .ok (.iload_n 2, 1) := by decide +kernel
theorem dX5_blight_49 : decode cX5_blight 49 = .ok (.iaload, 1) := by decide +kernel
theorem dX5_blight_50 : decode cX5_blight 50 = .ok (.ifCond .ne 44, 3) := by decide +kernel
theorem dX5_blight_53 : decode cX5_blight 53 = .ok (.aload_n 0, 1) := by decide +kernel
theorem dX5_blight_54 : decode cX5_blight 54 = .ok (.getfield 17, 3) := by decide +kernel
theorem dX5_blight_57 : decode cX5_blight 57 = .ok (.iload_n 2, 1) := by decide +kernel
theorem dX5_blight_58 : decode cX5_blight 58 = .ok (.iaload, 1) := by decide +kernel
theorem dX5_blight_59 : decode cX5_blight 59 = .ok (.iconst 1, 1) := by decide +kernel
theorem dX5_blight_60 : decode cX5_blight 60 = .ok (.if_icmp .ne 34, 3) := by decide +kernel
theorem dX5_blight_63 : decode cX5_blight 63 = .ok (.aload_n 0, 1) := by decide +kernel
theorem dX5_blight_64 : decode cX5_blight 64 = .ok (.getfield 23, 3) := by decide +kernel
theorem dX5_blight_67 : decode cX5_blight 67 = .ok (.iload_n 2, 1) := by decide +kernel
theorem dX5_blight_68 : decode cX5_blight 68 = .ok (.iaload, 1) := by decide +kernel
theorem dX5_blight_69 : decode cX5_blight 69 = .ok (.iconst (-1), 1) := by decide +kernel
theorem dX5_blight_70 : decode cX5_blight 70 = .ok (.if_icmp .eq 24, 3) := by decide +kernel
theorem dX5_blight_73 : decode cX5_blight 73 = .ok (.aload_n 0, 1) := by decide +kernel
theorem dX5_blight_74 : decode cX5_blight 74 = .ok (.getfield 121, 3) := by decide +kernel
theorem dX5_blight_77 : decode cX5_blight 77 = .ok (.aload_n 0, 1) := by decide +kernel
theorem dX5_blight_78 : decode cX5_blight 78 = .ok (.getfield 55, 3) := by decide +kernel
theorem dX5_blight_81 : decode cX5_blight 81 = .ok (.iload_n 1, 1) := by decide +kernel
theorem dX5_blight_82 : decode cX5_blight 82 = .ok (.iaload, 1) := by decide +kernel
theorem dX5_blight_83 : decode cX5_blight 83 = .ok (.isub, 1) := by decide +kernel
theorem dX5_blight_84 : decode cX5_blight 84 = .ok (.sipush 180, 3) := by decide +kernel
theorem dX5_blight_87 : decode cX5_blight 87 = .ok (.if_icmp .lt 7, 3) := by decide +kernel
theorem dX5_blight_90 : decode cX5_blight 90 = .ok (.iconst 1, 1) := by decide +kernel
theorem dX5_blight_91 : decode cX5_blight 91 = .ok (.goto 4, 3) := by decide +kernel
theorem dX5_blight_94 : decode cX5_blight 94 = .ok (.iconst 0, 1) := by decide +kernel
theorem dX5_blight_95 : decode cX5_blight 95 = .ok (.istore_n 3, 1) := by decide +kernel
theorem dX5_blight_96 : decode cX5_blight 96 = .ok (.aload_n 0, 1) := by decide +kernel
theorem dX5_blight_97 : decode cX5_blight 97 = .ok (.iload_n 3, 1) := by decide +kernel
theorem dX5_blight_98 : decode cX5_blight 98 = .ok (.ifCond .eq 7, 3) := by decide +kernel
theorem dX5_blight_101 : decode cX5_blight 101 = .ok (.iconst 0, 1) := by decide +kernel
theorem dX5_blight_102 : decode cX5_blight 102 = .ok (.goto 4, 3) := by decide +kernel
theorem dX5_blight_105 : decode cX5_blight 105 = .ok (.iconst 3, 1) := by decide +kernel
theorem dX5_blight_106 : decode cX5_blight 106 = .ok (.putfield 100, 3) := by decide +kernel
theorem dX5_blight_109 : decode cX5_blight 109 = .ok (.aload_n 0, 1) := by decide +kernel
theorem dX5_blight_110 : decode cX5_blight 110 = .ok (.getfield 100, 3) := by decide +kernel
theorem dX5_blight_113 : decode cX5_blight 113 = .ok (.ifCond .le 5, 3) := by decide +kernel
theorem dX5_blight_116 : decode cX5_blight 116 = .ok (.iconst 0, 1) := by decide +kernel
theorem dX5_blight_117 : decode cX5_blight 117 = .ok (.ireturn, 1) := by decide +kernel
theorem dX5_blight_118 : decode cX5_blight 118 = .ok (.aload_n 0, 1) := by decide +kernel
theorem dX5_blight_119 : decode cX5_blight 119 = .ok (.getfield 26, 3) := by decide +kernel
theorem dX5_blight_122 : decode cX5_blight 122 = .ok (.aload_n 0, 1) := by decide +kernel
theorem dX5_blight_123 : decode cX5_blight 123 = .ok (.getfield 49, 3) := by decide +kernel
theorem dX5_blight_126 : decode cX5_blight 126 = .ok (.iload_n 1, 1) := by decide +kernel
theorem dX5_blight_127 : decode cX5_blight 127 = .ok (.iaload, 1) := by decide +kernel
theorem dX5_blight_128 : decode cX5_blight 128 = .ok (.bipush 100, 2) := by decide +kernel
theorem dX5_blight_130 : decode cX5_blight 130 = .ok (.iastore, 1) := by decide +kernel
theorem dX5_blight_131 : decode cX5_blight 131 = .ok (.aload_n 0, 1) := by decide +kernel
theorem dX5_blight_132 : decode cX5_blight 132 = .ok (.aload_n 0, 1) := by decide +kernel
theorem dX5_blight_133 : decode cX5_blight 133 = .ok (.getfield 49, 3) := by decide +kernel
theorem dX5_blight_136 : decode cX5_blight 136 = .ok (.iload_n 1, 1) := by decide +kernel
theorem dX5_blight_137 : decode cX5_blight 137 = .ok (.iaload, 1) := by decide +kernel
theorem dX5_blight_138 : decode cX5_blight 138 = .ok (.invokevirtual 185, 3) := by decide +kernel
theorem dX5_blight_141 : decode cX5_blight 141 = .ok (.ireturn, 1) := by decide +kernel
theorem dX5_works_0 : decode cX5_works 0 = .ok (.aload_n 0, 1) := by decide +kernel
theorem dX5_works_1 : decode cX5_works 1 = .ok (.aload_n 0, 1) := by decide +kernel
theorem dX5_works_2 : decode cX5_works 2 = .ok (.iload_n 1, 1) := by decide +kernel
theorem dX5_works_3 : decode cX5_works 3 = .ok (.invokevirtual 114, 3) := by decide +kernel
theorem dX5_works_6 : decode cX5_works 6 = .ok (.ifCond .ne 7, 3) := by decide +kernel
theorem dX5_works_9 : decode cX5_works 9 = .ok (.iconst 1, 1) := by decide +kernel
theorem dX5_works_10 : decode cX5_works 10 = .ok (.goto 37, 3) := by decide +kernel
theorem dX5_works_13 : decode cX5_works 13 = .ok (.aload_n 0, 1) := by decide +kernel
theorem dX5_works_14 : decode cX5_works 14 = .ok (.getfield 20, 3) := by decide +kernel
theorem dX5_works_17 : decode cX5_works 17 = .ok (.iload_n 1, 1) := by decide +kernel
theorem dX5_works_18 : decode cX5_works 18 = .ok (.iaload, 1) := by decide +kernel
theorem dX5_works_19 : decode cX5_works 19 = .ok (.iconst 1, 1) := by decide +kernel
theorem dX5_works_20 : decode cX5_works 20 = .ok (.if_icmp .ne 22, 3) := by decide +kernel
theorem dX5_works_23 : decode cX5_works 23 = .ok (.aload_n 0, 1) := by decide +kernel
theorem dX5_works_24 : decode cX5_works 24 = .ok (.getfield 32, 3) := by decide +kernel
theorem dX5_works_27 : decode cX5_works 27 = .ok (.iload_n 1, 1) := by decide +kernel
theorem dX5_works_28 : decode cX5_works 28 = .ok (.baload, 1) := by decide +kernel
theorem dX5_works_29 : decode cX5_works 29 = .ok (.ifCond .ne 13, 3) := by decide +kernel
theorem dX5_works_32 : decode cX5_works 32 = .ok (.aload_n 0, 1) := by decide +kernel
theorem dX5_works_33 : decode cX5_works 33 = .ok (.getfield 23, 3) := by decide +kernel
theorem dX5_works_36 : decode cX5_works 36 = .ok (.iload_n 1, 1) := by decide +kernel
