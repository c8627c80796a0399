theorem d_Mo_checked_7 : decode c_Mo_checked 7 = .ok (.invokevirtual 127, 3) := by decide +kernel
theorem d_Mo_checked_10 : decode c_Mo_checked 10 = .ok (.ifCond .ne 5, 3) := by decide +kernel
theorem d_Mo_checked_13 : decode c_Mo_checked 13 = .ok (.iconst 0, 1) := by decide +kernel
theorem d_Mo_checked_14 : decode c_Mo_checked 14 = .ok (.ireturn, 1) := by decide +kernel
theorem d_Mo_checked_15 : decode c_Mo_checked 15 = .ok (.iconst 0, 1) := by decide +kernel
theorem d_Mo_checked_16 : decode c_Mo_checked 16 = .ok (.istore_n 2, 1) := by decide +kernel
theorem d_Mo_checked_17 : decode c_Mo_checked 17 = .ok (.iload_n 2, 1) := by decide +kernel
theorem d_Mo_checked_18 : decode c_Mo_checked 18 = .ok (.iconst 4, 1) := by decide +kernel
theorem d_Mo_checked_19 : decode c_Mo_checked 19 = .ok (.if_icmp .ge 16, 3) := by decide +kernel
theorem d_Mo_checked_22 : decode c_Mo_checked 22 = .ok (.aload_n 0, 1) := by decide +kernel
theorem d_Mo_checked_23 : decode c_Mo_checked 23 = .ok (.getfield 50, 3) := by decide +kernel
theorem d_Mo_checked_26 : decode c_Mo_checked 26 = .ok (.iload_n 2, 1) := by decide +kernel
theorem d_Mo_checked_27 : decode c_Mo_checked 27 = .ok (.iconst 0, 1) := by decide +kernel
theorem d_Mo_checked_28 : decode c_Mo_checked 28 = .ok (.bastore, 1) := by decide +kernel
theorem d_Mo_checked_29 : decode c_Mo_checked 29 = .ok (.iinc 2 1, 3) := by decide +kernel
theorem d_Mo_checked_32 : decode c_Mo_checked 32 = .ok (.goto (-15), 3) := by decide +kernel
theorem d_Mo_checked_35 : decode c_Mo_checked 35 = .ok (.aload_n 0, 1) := by decide +kernel
theorem d_Mo_checked_36 : decode c_Mo_checked 36 = .ok (.iconst 0, 1) := by decide +kernel
theorem d_Mo_checked_37 : decode c_Mo_checked 37 = .ok (.putfield 130, 3) := by decide +kernel
theorem d_Mo_checked_40 : decode c_Mo_checked 40 = .ok (.aload_n 0, 1) := by decide +kernel
theorem d_Mo_checked_41 : decode c_Mo_checked 41 = .ok (.iload_n 1, 1) := by decide +kernel
theorem d_Mo_checked_42 : decode c_Mo_checked 42 = .ok (.iconst (-1), 1) := by decide +kernel
theorem d_Mo_checked_43 : decode c_Mo_checked 43 = .ok (.invokevirtual 133, 3) := by decide +kernel
theorem d_Mo_checked_46 : decode c_Mo_checked 46 = .ok (.iconst 0, 1) := by decide +kernel
theorem d_Mo_checked_47 : decode c_Mo_checked 47 = .ok (.istore_n 2, 1) := by decide +kernel
theorem d_Mo_checked_48 : decode c_Mo_checked 48 = .ok (.iconst 1, 1) := by decide +kernel
theorem d_Mo_checked_49 : decode c_Mo_checked 49 = .ok (.istore_n 3, 1) := by decide +kernel
theorem d_Mo_checked_50 : decode c_Mo_checked 50 = .ok (.aload_n 0, 1) := by decide +kernel
theorem d_Mo_checked_51 : decode c_Mo_checked 51 = .ok (.getfield 130, 3) := by decide +kernel
theorem d_Mo_checked_54 : decode c_Mo_checked 54 = .ok (.ifCond .le 47, 3) := by decide +kernel
theorem d_Mo_checked_57 : decode c_Mo_checked 57 = .ok (.aload_n 0, 1) := by decide +kernel
theorem d_Mo_checked_58 : decode c_Mo_checked 58 = .ok (.iload_n 2, 1) := by decide +kernel
theorem d_Mo_checked_59 : decode c_Mo_checked 59 = .ok (.putfield 40, 3) := by decide +kernel
theorem d_Mo_checked_62 : decode c_Mo_checked 62 = .ok (.iload_n 3, 1) := by decide +kernel
theorem d_Mo_checked_63 : decode c_Mo_checked 63 = .ok (.bipush 60, 2) := by decide +kernel
theorem d_Mo_checked_65 : decode c_Mo_checked 65 = .ok (.if_icmp .gt 22, 3) := by decide +kernel
theorem d_Mo_checked_68 : decode c_Mo_checked 68 = .ok (.aload_n 0, 1) := by decide +kernel
theorem d_Mo_checked_69 : decode c_Mo_checked 69 = .ok (.aload_n 0, 1) := by decide +kernel
theorem d_Mo_checked_70 : decode c_Mo_checked 70 = .ok (.getfield 44, 3) := by decide +kernel
theorem d_Mo_checked_73 : decode c_Mo_checked 73 = .ok (.aload_n 0, 1) := by decide +kernel
theorem d_Mo_checked_74 : decode c_Mo_checked 74 = .ok (.getfield 130, 3) := by decide +kernel
theorem d_Mo_checked_77 : decode c_Mo_checked 77 = .ok (.iconst 1, 1) := by decide +kernel
theorem d_Mo_checked_78 : decode c_Mo_checked 78 = .ok (.isub, 1) := by decide +kernel
theorem d_Mo_checked_79 : decode c_Mo_checked 79 = .ok (.iaload, 1) := by decide +kernel
theorem d_Mo_checked_80 : decode c_Mo_checked 80 = .ok (.iload_n 2, 1) := by decide +kernel
theorem d_Mo_checked_81 : decode c_Mo_checked 81 = .ok (.invokevirtual 137, 3) := by decide +kernel
theorem d_Mo_checked_84 : decode c_Mo_checked 84 = .ok (.ifCond .ne 5, 3) := by decide +kernel
theorem d_Mo_checked_87 : decode c_Mo_checked 87 = .ok (.iconst 0, 1) := by decide +kernel
theorem d_Mo_checked_88 : decode c_Mo_checked 88 = .ok (.ireturn, 1) := by decide +kernel
theorem d_Mo_checked_89 : decode c_Mo_checked 89 = .ok (.aload_n 0, 1) := by decide +kernel
theorem d_Mo_checked_90 : decode c_Mo_checked 90 = .ok (.iload_n 2, 1) := by decide +kernel
theorem d_Mo_checked_91 : decode c_Mo_checked 91 = .ok (.invokevirtual 140, 3) := by decide +kernel
theorem d_Mo_checked_94 : decode c_Mo_checked 94 = .ok (.istore_n 2, 1) := by decide +kernel
theorem d_Mo_checked_95 : decode c_Mo_checked 95 = .ok (.iinc 3 1, 3) := by decide +kernel
theorem d_Mo_checked_98 : decode c_Mo_checked 98 = .ok (.goto (-48), 3) := by decide +kernel
theorem d_Mo_checked_101 : decode c_Mo_checked 101 = .ok (.aload_n 0, 1) := by decide +kernel
theorem d_Mo_checked_102 : decode c_Mo_checked 102 = .ok (.iconst (-1), 1) := by decide +kernel
theorem d_Mo_checked_103 : decode c_Mo_checked 103 = .ok (.putfield 40, 3) := by decide +kernel
theorem d_Mo_checked_106 : decode c_Mo_checked 106 = .ok (.iconst 1, 1) := by decide +kernel
theorem d_Mo_checked_107 : decode c_Mo_checked 107 = .ok (.ireturn, 1) := by decide +kernel
theorem d_Mo_check_0 : decode c_Mo_check 0 = .ok (.iload_n 1, 1) := by decide +kernel
theorem d_Mo_check_1 : decode c_Mo_check 1 = .ok (.iconst 0, 1) := by decide +kernel
theorem d_Mo_check_2 : decode c_Mo_check 2 = .ok (.aload_n 0, 1) := by decide +kernel
theorem d_Mo_check_3 : decode c_Mo_check 3 = .ok (.getfield 99, 3) := by decide +kernel
theorem d_Mo_check_6 : decode c_Mo_check 6 = .ok (.iconst 1, 1) := by decide +kernel
theorem d_Mo_check_7 : decode c_Mo_check 7 = .ok (.isub, 1) := by decide +kernel
theorem d_Mo_check_8 : decode c_Mo_check 8 = .ok (.invokestatic 105, 3) := by decide +kernel
theorem d_Mo_check_11 : decode c_Mo_check 11 = .ok (.ifCond .ne 5, 3) := by decide +kernel
theorem d_Mo_check_14 : decode c_Mo_check 14 = .ok (.iconst (-1), 1) := by decide +kernel
theorem d_Mo_check_15 : decode c_Mo_check 15 = .ok (.ireturn, 1) := by decide +kernel
theorem d_Mo_check_16 : decode c_Mo_check 16 = .ok (.aload_n 0, 1) := by decide +kernel
theorem d_Mo_check_17 : decode c_Mo_check 17 = .ok (.iload_n 1, 1) := by decide +kernel
theorem d_Mo_check_18 : decode c_Mo_check 18 = .ok (.invokevirtual 144, 3) := by decide +kernel
theorem d_Mo_check_21 : decode c_Mo_check 21 = .ok (.ifCond .eq 7, 3) := by decide +kernel
theorem d_Mo_check_24 : decode c_Mo_check 24 = .ok (.iconst 0, 1) := by decide +kernel
theorem d_Mo_check_25 : decode c_Mo_check 25 = .ok (.goto 5, 3) := by decide +kernel
theorem d_Mo_check_28 : decode c_Mo_check 28 = .ok (.bipush (-3), 2) := by decide +kernel
theorem d_Mo_check_30 : decode c_Mo_check 30 = .ok (.ireturn, 1) := by decide +kernel
theorem d_Mo_place_0 : decode c_Mo_place 0 = .ok (.aload_n 0, 1) := by decide +kernel
theorem d_Mo_place_1 : decode c_Mo_place 1 = .ok (.getfield 40, 3) := by decide +kernel
theorem d_Mo_place_4 : decode c_Mo_place 4 = .ok (.ireturn, 1) := by decide +kernel
theorem d_Mo_addSet_0 : decode c_Mo_addSet 0 = .ok (.aload_n 0, 1) := by decide +kernel
theorem d_Mo_addSet_1 : decode c_Mo_addSet 1 = .ok (.getfield 72, 3) := by decide +kernel
theorem d_Mo_addSet_4 : decode c_Mo_addSet 4 = .ok (.bipush 64, 2) := by decide +kernel
theorem d_Mo_addSet_6 : decode c_Mo_addSet 6 = .ok (.iload_n 1, 1) := by decide +kernel
theorem d_Mo_addSet_7 : decode c_Mo_addSet 7 = .ok (.imul, 1) := by decide +kernel
theorem d_Mo_addSet_8 : decode c_Mo_addSet 8 = .ok (.aload_n 0, 1) := by decide +kernel
theorem d_Mo_addSet_9 : decode c_Mo_addSet 9 = .ok (.getfield 69, 3) := by decide +kernel
theorem d_Mo_addSet_12 : decode c_Mo_addSet 12 = .ok (.iload_n 1, 1) := by decide +kernel
theorem d_Mo_addSet_13 : decode c_Mo_addSet 13 = .ok (.iaload, 1) := by decide +kernel
theorem d_Mo_addSet_14 : decode c_Mo_addSet 14 = .ok (.iadd, 1) := by decide +kernel
theorem d_Mo_addSet_15 : decode c_Mo_addSet 15 = .ok (.iload_n 3, 1) := by decide +kernel
theorem d_Mo_addSet_16 : decode c_Mo_addSet 16 = .ok (.iastore, 1) := by decide +kernel
theorem d_Mo_addSet_17 : decode c_Mo_addSet 17 = .ok (.aload_n 0, 1) := by decide +kernel
theorem d_Mo_addSet_18 : decode c_Mo_addSet 18 = .ok (.getfield 75, 3) := by decide +kernel
theorem d_Mo_addSet_21 : decode c_Mo_addSet 21 = .ok (.bipush 64, 2) := by decide +kernel
theorem d_Mo_addSet_23 : decode c_Mo_addSet 23 = .ok (.iload_n 1, 1) := by decide +kernel
theorem d_Mo_addSet_24 : decode c_Mo_addSet 24 = .ok (.imul, 1) := by decide +kernel
theorem d_Mo_addSet_25 : decode c_Mo_addSet 25 = .ok (.aload_n 0, 1) := by decide +kernel
theorem d_Mo_addSet_26 : decode c_Mo_addSet 26 = .ok (.getfield 69, 3) := by decide +kernel
theorem d_Mo_addSet_29 : decode c_Mo_addSet 29 = .ok (.iload_n 1, 1) := by decide +kernel
theorem d_Mo_addSet_30 : decode c_Mo_addSet 30 = .ok (.iaload, 1) := by decide +kernel
theorem d_Mo_addSet_31 : decode c_Mo_addSet 31 = .ok (.iadd, 1) := by decide +kernel
theorem d_Mo_addSet_32 : decode c_Mo_addSet 32 = .ok (.iload_n 2, 1) := by decide +kernel
theorem d_Mo_addSet_33 : decode c_Mo_addSet 33 = .ok (.iastore, 1) := by decide +kernel
theorem d_Mo_addSet_34 : decode c_Mo_addSet 34 = .ok (.aload_n 0, 1) := by decide +kernel
theorem d_Mo_addSet_35 : decode c_Mo_addSet 35 = .ok (.getfield 69, 3) := by decide +kernel
theorem d_Mo_addSet_38 : decode c_Mo_addSet 38 = .ok (.iload_n 1, 1) := by decide +kernel
theorem d_Mo_addSet_39 : decode c_Mo_addSet 39 = .ok (.dup2, 1) := by decide +kernel
theorem d_Mo_addSet_40 : decode c_Mo_addSet 40 = .ok (.iaload, 1) := by decide +kernel
theorem d_Mo_addSet_41 : decode c_Mo_addSet 41 = .ok (.iconst 1, 1) := by decide +kernel
theorem d_Mo_addSet_42 : decode c_Mo_addSet 42 = .ok (.iadd, 1) := by decide +kernel
theorem d_Mo_addSet_43 : decode c_Mo_addSet 43 = .ok (.iastore, 1) := by decide +kernel
theorem d_Mo_addSet_44 : decode c_Mo_addSet 44 = .ok (.return_, 1) := by decide +kernel
theorem d_Mo_take_0 : decode c_Mo_take 0 = .ok (.iconst 0, 1) := by decide +kernel
theorem d_Mo_take_1 : decode c_Mo_take 1 = .ok (.istore_n 3, 1) := by decide +kernel
theorem d_Mo_take_2 : decode c_Mo_take 2 = .ok (.iload_n 3, 1) := by decide +kernel
theorem d_Mo_take_3 : decode c_Mo_take 3 = .ok (.aload_n 0, 1) := by decide +kernel
theorem d_Mo_take_4 : decode c_Mo_take 4 = .ok (.getfield 57, 3) := by decide +kernel
theorem d_Mo_take_7 : decode c_Mo_take 7 = .ok (.iload_n 1, 1) := by decide +kernel
theorem d_Mo_take_8 : decode c_Mo_take 8 = .ok (.iaload, 1) := by decide +kernel
theorem d_Mo_take_9 : decode c_Mo_take 9 = .ok (.if_icmp .ge 29, 3) := by decide +kernel
theorem d_Mo_take_12 : decode c_Mo_take 12 = .ok (.aload_n 0, 1) := by decide +kernel
theorem d_Mo_take_13 : decode c_Mo_take 13 = .ok (.getfield 60, 3) := by decide +kernel
theorem d_Mo_take_16 : decode c_Mo_take 16 = .ok (.bipush 10, 2) := by decide +kernel
theorem d_Mo_take_18 : decode c_Mo_take 18 = .ok (.iload_n 1, 1) := by decide +kernel
theorem d_Mo_take_19 : decode c_Mo_take 19 = .ok (.imul, 1) := by decide +kernel
theorem d_Mo_take_20 : decode c_Mo_take 20 = .ok (.iload_n 3, 1) := by decide +kernel
theorem d_Mo_take_21 : decode c_Mo_take 21 = .ok (.iadd, 1) := by decide +kernel
theorem d_Mo_take_22 : decode c_Mo_take 22 = .ok (.iaload, 1) := by decide +kernel
theorem d_Mo_take_23 : decode c_Mo_take 23 = .ok (.aload_n 0, 1) := by decide +kernel
theorem d_Mo_take_24 : decode c_Mo_take 24 = .ok (.getfield 34, 3) := by decide +kernel
theorem d_Mo_take_27 : decode c_Mo_take 27 = .ok (.iload_n 2, 1) := by decide +kernel
theorem d_Mo_take_28 : decode c_Mo_take 28 = .ok (.iaload, 1) := by decide +kernel
theorem d_Mo_take_29 : decode c_Mo_take 29 = .ok (.if_icmp .eq 9, 3) := by decide +kernel
theorem d_Mo_take_32 : decode c_Mo_take 32 = .ok (.iinc 3 1, 3) := by decide +kernel
theorem d_Mo_take_35 : decode c_Mo_take 35 = .ok (.goto (-33), 3) := by decide +kernel
theorem d_Mo_take_38 : decode c_Mo_take 38 = .ok (.bipush 10, 2) := by decide +kernel
theorem d_Mo_take_40 : decode c_Mo_take 40 = .ok (.iload_n 1, 1) := by decide +kernel
theorem d_Mo_take_41 : decode c_Mo_take 41 = .ok (.imul, 1) := by decide +kernel
theorem d_Mo_take_42 : decode c_Mo_take 42 = .ok (.iload_n 3, 1) := by decide +kernel
theorem d_Mo_take_43 : decode c_Mo_take 43 = .ok (.iadd, 1) := by decide +kernel
theorem d_Mo_take_44 : decode c_Mo_take 44 = .ok (.istore 4, 2) := by decide +kernel
theorem d_Mo_take_46 : decode c_Mo_take 46 = .ok (.iload_n 3, 1) := by decide +kernel
theorem d_Mo_take_47 : decode c_Mo_take 47 = .ok (.aload_n 0, 1) := by decide +kernel
theorem d_Mo_take_48 : decode c_Mo_take 48 = .ok (.getfield 57, 3) := by decide +kernel
theorem d_Mo_take_51 : decode c_Mo_take 51 = .ok (.iload_n 1, 1) := by decide +kernel
theorem d_Mo_take_52 : decode c_Mo_take 52 = .ok (.iaload, 1) := by decide +kernel
theorem d_Mo_take_53 : decode c_Mo_take 53 = .ok (.if_icmp .ne 66, 3) := by decide +kernel
theorem d_Mo_take_56 : decode c_Mo_take 56 = .ok (.aload_n 0, 1) := by decide +kernel
theorem d_Mo_take_57 : decode c_Mo_take 57 = .ok (.getfield 60, 3) := by decide +kernel
theorem d_Mo_take_60 : decode c_Mo_take 60 = .ok (.iload 4, 2) := by decide +kernel
theorem d_Mo_take_62 : decode c_Mo_take 62 = .ok (.aload_n 0, 1) := by decide +kernel
theorem d_Mo_take_63 : decode c_Mo_take 63 = .ok (.getfield 34, 3) := by decide +kernel
theorem d_Mo_take_66 : decode c_Mo_take 66 = .ok (.iload_n 2, 1) := by decide +kernel
theorem d_Mo_take_67 : decode c_Mo_take 67 = .ok (.iaload, 1) := by decide +kernel
theorem d_Mo_take_68 : decode c_Mo_take 68 = .ok (.iastore, 1) := by decide +kernel
theorem d_Mo_take_69 : decode c_Mo_take 69 = .ok (.aload_n 0, 1) := by decide +kernel
theorem d_Mo_take_70 : decode c_Mo_take 70 = .ok (.getfield 63, 3) := by decide +kernel
theorem d_Mo_take_73 : decode c_Mo_take 73 = .ok (.iload 4, 2) := by decide +kernel
theorem d_Mo_take_75 : decode c_Mo_take 75 = .ok (.aload_n 0, 1) := by decide +kernel
theorem d_Mo_take_76 : decode c_Mo_take 76 = .ok (.getfield 31, 3) := by decide +kernel
theorem d_Mo_take_79 : decode c_Mo_take 79 = .ok (.iload_n 2, 1) := by decide +kernel
theorem d_Mo_take_80 : decode c_Mo_take 80 = .ok (.iaload, 1) := by decide +kernel
theorem d_Mo_take_81 : decode c_Mo_take 81 = .ok (.iastore, 1) := by decide +kernel
theorem d_Mo_take_82 : decode c_Mo_take 82 = .ok (.aload_n 0, 1) := by decide +kernel
theorem d_Mo_take_83 : decode c_Mo_take 83 = .ok (.getfield 66, 3) := by decide +kernel
theorem d_Mo_take_86 : decode c_Mo_take 86 = .ok (.iload 4, 2) := by decide +kernel
theorem d_Mo_take_88 : decode c_Mo_take 88 = .ok (.aload_n 0, 1) := by decide +kernel
theorem d_Mo_take_89 : decode c_Mo_take 89 = .ok (.getfield 31, 3) := by decide +kernel
theorem d_Mo_take_92 : decode c_Mo_take 92 = .ok (.iload_n 2, 1) := by decide +kernel
theorem d_Mo_take_93 : decode c_Mo_take 93 = .ok (.iaload, 1) := by decide +kernel
theorem d_Mo_take_94 : decode c_Mo_take 94 = .ok (.iconst 2, 1) := by decide +kernel
theorem d_Mo_take_95 : decode c_Mo_take 95 = .ok (.if_icmp .ne 7, 3) := by decide +kernel
theorem d_Mo_take_98 : decode c_Mo_take 98 = .ok (.iconst 0, 1) := by decide +kernel
theorem d_Mo_take_99 : decode c_Mo_take 99 = .ok (.goto 9, 3) := by decide +kernel
theorem d_Mo_take_102 : decode c_Mo_take 102 = .ok (.aload_n 0, 1) := by decide +kernel
theorem d_Mo_take_103 : decode c_Mo_take 103 = .ok (.getfield 37, 3) := by decide +kernel
theorem d_Mo_take_106 : decode c_Mo_take 106 = .ok (.iload_n 2, 1) := by decide +kernel
theorem d_Mo_take_107 : decode c_Mo_take 107 = .ok (.iaload, 1) := by decide +kernel
theorem d_Mo_take_108 : decode c_Mo_take 108 = .ok (.iastore, 1) := by decide +kernel
theorem d_Mo_take_109 : decode c_Mo_take 109 = .ok (.aload_n 0, 1) := by decide +kernel
theorem d_Mo_take_110 : decode c_Mo_take 110 = .ok (.getfield 57, 3) := by decide +kernel
theorem d_Mo_take_113 : decode c_Mo_take 113 = .ok (.iload_n 1, 1) := by decide +kernel
theorem d_Mo_take_114 : decode c_Mo_take 114 = .ok (.dup2, 1) := by decide +kernel
theorem d_Mo_take_115 : decode c_Mo_take 115 = .ok (.iaload, 1) := by decide +kernel
theorem d_Mo_take_116 : decode c_Mo_take 116 = .ok (.iconst 1, 1) := by decide +kernel
theorem d_Mo_take_117 : decode c_Mo_take 117 = .ok (.iadd, 1) := by decide +kernel
theorem d_Mo_take_118 : decode c_Mo_take 118 = .ok (.iastore, 1) := by decide +kernel
theorem d_Mo_take_119 : decode c_Mo_take 119 = .ok (.aload_n 0, 1) := by decide +kernel
theorem d_Mo_take_120 : decode c_Mo_take 120 = .ok (.getfield 63, 3) := by decide +kernel
theorem d_Mo_take_123 : decode c_Mo_take 123 = .ok (.iload 4, 2) := by decide +kernel
theorem d_Mo_take_125 : decode c_Mo_take 125 = .ok (.iaload, 1) := by decide +kernel
theorem d_Mo_take_126 : decode c_Mo_take 126 = .ok (.aload_n 0, 1) := by decide +kernel
theorem d_Mo_take_127 : decode c_Mo_take 127 = .ok (.getfield 31, 3) := by decide +kernel
theorem d_Mo_take_130 : decode c_Mo_take 130 = .ok (.iload_n 2, 1) := by decide +kernel
theorem d_Mo_take_131 : decode c_Mo_take 131 = .ok (.iaload, 1) := by decide +kernel
theorem d_Mo_take_132 : decode c_Mo_take 132 = .ok (.if_icmp .ne 29, 3) := by decide +kernel
theorem d_Mo_take_135 : decode c_Mo_take 135 = .ok (.aload_n 0, 1) := by decide +kernel
theorem d_Mo_take_136 : decode c_Mo_take 136 = .ok (.getfield 31, 3) := by decide +kernel
theorem d_Mo_take_139 : decode c_Mo_take 139 = .ok (.iload_n 2, 1) := by decide +kernel
theorem d_Mo_take_140 : decode c_Mo_take 140 = .ok (.iaload, 1) := by decide +kernel
theorem d_Mo_take_141 : decode c_Mo_take 141 = .ok (.iconst 2, 1) := by decide +kernel
theorem d_Mo_take_142 : decode c_Mo_take 142 = .ok (.if_icmp .eq 21, 3) := by decide +kernel
theorem d_Mo_take_145 : decode c_Mo_take 145 = .ok (.aload_n 0, 1) := by decide +kernel
theorem d_Mo_take_146 : decode c_Mo_take 146 = .ok (.getfield 66, 3) := by decide +kernel
theorem d_Mo_take_149 : decode c_Mo_take 149 = .ok (.iload 4, 2) := by decide +kernel
theorem d_Mo_take_151 : decode c_Mo_take 151 = .ok (.iaload, 1) := by decide +kernel
theorem d_Mo_take_152 : decode c_Mo_take 152 = .ok (.aload_n 0, 1) := by decide +kernel
theorem d_Mo_take_153 : decode c_Mo_take 153 = .ok (.getfield 37, 3) := by decide +kernel
theorem d_Mo_take_156 : decode c_Mo_take 156 = .ok (.iload_n 2, 1) := by decide +kernel
theorem d_Mo_take_157 : decode c_Mo_take 157 = .ok (.iaload, 1) := by decide +kernel
theorem d_Mo_take_158 : decode c_Mo_take 158 = .ok (.if_icmp .eq 5, 3) := by decide +kernel
theorem d_Mo_take_161 : decode c_Mo_take 161 = .ok (.iconst 0, 1) := by decide +kernel
theorem d_Mo_take_162 : decode c_Mo_take 162 = .ok (.ireturn, 1) := by decide +kernel
theorem d_Mo_take_163 : decode c_Mo_take 163 = .ok (.aload_n 0, 1) := by decide +kernel
theorem d_Mo_take_164 : decode c_Mo_take 164 = .ok (.getfield 31, 3) := by decide +kernel
theorem d_Mo_take_167 : decode c_Mo_take 167 = .ok (.iload_n 2, 1) := by decide +kernel
theorem d_Mo_take_168 : decode c_Mo_take 168 = .ok (.iaload, 1) := by decide +kernel
theorem d_Mo_take_169 : decode c_Mo_take 169 = .ok (.iconst 1, 1) := by decide +kernel
theorem d_Mo_take_170 : decode c_Mo_take 170 = .ok (.if_icmp .ne 12, 3) := by decide +kernel
theorem d_Mo_take_173 : decode c_Mo_take 173 = .ok (.aload_n 0, 1) := by decide +kernel
theorem d_Mo_take_174 : decode c_Mo_take 174 = .ok (.iload_n 1, 1) := by decide +kernel
theorem d_Mo_take_175 : decode c_Mo_take 175 = .ok (.iload_n 3, 1) := by decide +kernel
theorem d_Mo_take_176 : decode c_Mo_take 176 = .ok (.iload_n 2, 1) := by decide +kernel
theorem d_Mo_take_177 : decode c_Mo_take 177 = .ok (.iconst 1, 1) := by decide +kernel
theorem d_Mo_take_178 : decode c_Mo_take 178 = .ok (.iadd, 1) := by decide +kernel
theorem d_Mo_take_179 : decode c_Mo_take 179 = .ok (.invokevirtual 147, 3) := by decide +kernel
theorem d_Mo_take_182 : decode c_Mo_take 182 = .ok (.iconst 1, 1) := by decide +kernel
theorem d_Mo_take_183 : decode c_Mo_take 183 = .ok (.ireturn, 1) := by decide +kernel
theorem d_Mo_collectOne_0 : decode c_Mo_collectOne 0 = .ok (.aload_n 0, 1) := by decide +kernel
theorem d_Mo_collectOne_1 : decode c_Mo_collectOne 1 = .ok (.iconst 0, 1) := by decide +kernel
theorem d_Mo_collectOne_2 : decode c_Mo_collectOne 2 = .ok (.putfield 130, 3) := by decide +kernel
theorem d_Mo_collectOne_5 : decode c_Mo_collectOne 5 = .ok (.aload_n 0, 1) := by decide +kernel
theorem d_Mo_collectOne_6 : decode c_Mo_collectOne 6 = .ok (.iconst 0, 1) := by decide +kernel
theorem d_Mo_collectOne_7 : decode c_Mo_collectOne 7 = .ok (.iconst (-1), 1) := by decide +kernel
theorem d_Mo_collectOne_8 : decode c_Mo_collectOne 8 = .ok (.invokevirtual 133, 3) := by decide +kernel
theorem d_Mo_collectOne_11 : decode c_Mo_collectOne 11 = .ok (.iload_n 2, 1) := by decide +kernel
theorem d_Mo_collectOne_12 : decode c_Mo_collectOne 12 = .ok (.istore_n 3, 1) := by decide +kernel
theorem d_Mo_collectOne_13 : decode c_Mo_collectOne 13 = .ok (.aload_n 0, 1) := by decide +kernel
theorem d_Mo_collectOne_14 : decode c_Mo_collectOne 14 = .ok (.getfield 130, 3) := by decide +kernel
theorem d_Mo_collectOne_17 : decode c_Mo_collectOne 17 = .ok (.ifCond .le 225, 3) := by decide +kernel
theorem d_Mo_collectOne_20 : decode c_Mo_collectOne 20 = .ok (.aload_n 0, 1) := by decide +kernel
theorem d_Mo_collectOne_21 : decode c_Mo_collectOne 21 = .ok (.getfield 31, 3) := by decide +kernel
theorem d_Mo_collectOne_24 : decode c_Mo_collectOne 24 = .ok (.iload_n 3, 1) := by decide +kernel
theorem d_Mo_collectOne_25 : decode c_Mo_collectOne 25 = .ok (.iaload, 1) := by decide +kernel
theorem d_Mo_collectOne_26 : decode c_Mo_collectOne 26 = .ok (.istore 4, 2) := by decide +kernel
theorem d_Mo_collectOne_28 : decode c_Mo_collectOne 28 = .ok (.iload 4, 2) := by decide +kernel
theorem d_Mo_collectOne_30 : decode c_Mo_collectOne 30 = .ok (.iconst 3, 1) := by decide +kernel
theorem d_Mo_collectOne_31 : decode c_Mo_collectOne 31 = .ok (.if_icmp .ne 31, 3) := by decide +kernel
theorem d_Mo_collectOne_34 : decode c_Mo_collectOne 34 = .ok (.aload_n 0, 1) := by decide +kernel
theorem d_Mo_collectOne_35 : decode c_Mo_collectOne 35 = .ok (.getfield 16, 3) := by decide +kernel
theorem d_Mo_collectOne_38 : decode c_Mo_collectOne 38 = .ok (.aload_n 0, 1) := by decide +kernel
theorem d_Mo_collectOne_39 : decode c_Mo_collectOne 39 = .ok (.getfield 54, 3) := by decide +kernel
theorem d_Mo_collectOne_42 : decode c_Mo_collectOne 42 = .ok (.iload_n 1, 1) := by decide +kernel
theorem d_Mo_collectOne_43 : decode c_Mo_collectOne 43 = .ok (.iaload, 1) := by decide +kernel
theorem d_Mo_collectOne_44 : decode c_Mo_collectOne 44 = .ok (.iaload, 1) := by decide +kernel
theorem d_Mo_collectOne_45 : decode c_Mo_collectOne 45 = .ok (.aload_n 0, 1) := by decide +kernel
theorem d_Mo_collectOne_46 : decode c_Mo_collectOne 46 = .ok (.getfield 34, 3) := by decide +kernel
theorem d_Mo_collectOne_49 : decode c_Mo_collectOne 49 = .ok (.iload_n 3, 1) := by decide +kernel
theorem d_Mo_collectOne_50 : decode c_Mo_collectOne 50 = .ok (.iaload, 1) := by decide +kernel
theorem d_Mo_collectOne_51 : decode c_Mo_collectOne 51 = .ok (.if_icmp .ne 7, 3) := by decide +kernel
theorem d_Mo_collectOne_54 : decode c_Mo_collectOne 54 = .ok (.iconst 1, 1) := by decide +kernel
theorem d_Mo_collectOne_55 : decode c_Mo_collectOne 55 = .ok (.goto 34, 3) := by decide +kernel
theorem d_Mo_collectOne_58 : decode c_Mo_collectOne 58 = .ok (.iconst 0, 1) := by decide +kernel
theorem d_Mo_collectOne_59 : decode c_Mo_collectOne 59 = .ok (.goto 30, 3) := by decide +kernel
theorem d_Mo_collectOne_62 : decode c_Mo_collectOne 62 = .ok (.aload_n 0, 1) := by decide +kernel
theorem d_Mo_collectOne_63 : decode c_Mo_collectOne 63 = .ok (.getfield 25, 3) := by decide +kernel
theorem d_Mo_collectOne_66 : decode c_Mo_collectOne 66 = .ok (.aload_n 0, 1) := by decide +kernel
theorem d_Mo_collectOne_67 : decode c_Mo_collectOne 67 = .ok (.getfield 34, 3) := by decide +kernel
theorem d_Mo_collectOne_70 : decode c_Mo_collectOne 70 = .ok (.iload_n 3, 1) := by decide +kernel
theorem d_Mo_collectOne_71 : decode c_Mo_collectOne 71 = .ok (.iaload, 1) := by decide +kernel
theorem d_Mo_collectOne_72 : decode c_Mo_collectOne 72 = .ok (.iconst 3, 1) := by decide +kernel
theorem d_Mo_collectOne_73 : decode c_Mo_collectOne 73 = .ok (.iand, 1) := by decide +kernel
theorem d_Mo_collectOne_74 : decode c_Mo_collectOne 74 = .ok (.iaload, 1) := by decide +kernel
theorem d_Mo_collectOne_75 : decode c_Mo_collectOne 75 = .ok (.aload_n 0, 1) := by decide +kernel
theorem d_Mo_collectOne_76 : decode c_Mo_collectOne 76 = .ok (.getfield 37, 3) := by decide +kernel
theorem d_Mo_collectOne_79 : decode c_Mo_collectOne 79 = .ok (.iload_n 3, 1) := by decide +kernel
theorem d_Mo_collectOne_80 : decode c_Mo_collectOne 80 = .ok (.iaload, 1) := by decide +kernel
theorem d_Mo_collectOne_81 : decode c_Mo_collectOne 81 = .ok (.if_icmp .ne 7, 3) := by decide +kernel
theorem d_Mo_collectOne_84 : decode c_Mo_collectOne 84 = .ok (.iconst 1, 1) := by decide +kernel
theorem d_Mo_collectOne_85 : decode c_Mo_collectOne 85 = .ok (.goto 4, 3) := by decide +kernel
theorem d_Mo_collectOne_88 : decode c_Mo_collectOne 88 = .ok (.iconst 0, 1) := by decide +kernel
theorem d_Mo_collectOne_89 : decode c_Mo_collectOne 89 = .ok (.istore 5, 2) := by decide +kernel
theorem d_Mo_collectOne_91 : decode c_Mo_collectOne 91 = .ok (.iload 4, 2) := by decide +kernel
theorem d_Mo_collectOne_93 : decode c_Mo_collectOne 93 = .ok (.iconst 3, 1) := by decide +kernel
theorem d_Mo_collectOne_94 : decode c_Mo_collectOne 94 = .ok (.if_icmp .ge 14, 3) := by decide +kernel
theorem d_Mo_collectOne_97 : decode c_Mo_collectOne 97 = .ok (.aload_n 0, 1) := by decide +kernel
theorem d_Mo_collectOne_98 : decode c_Mo_collectOne 98 = .ok (.iload_n 1, 1) := by decide +kernel
theorem d_Mo_collectOne_99 : decode c_Mo_collectOne 99 = .ok (.iload_n 3, 1) := by decide +kernel
theorem d_Mo_collectOne_100 : decode c_Mo_collectOne 100 = .ok (.invokevirtual 151, 3) := by decide +kernel
theorem d_Mo_collectOne_103 : decode c_Mo_collectOne 103 = .ok (.ifCond .ne 5, 3) := by decide +kernel
theorem d_Mo_collectOne_106 : decode c_Mo_collectOne 106 = .ok (.iconst 0, 1) := by decide +kernel
theorem d_Mo_collectOne_107 : decode c_Mo_collectOne 107 = .ok (.ireturn, 1) := by decide +kernel
theorem d_Mo_collectOne_108 : decode c_Mo_collectOne 108 = .ok (.iload 4, 2) := by decide +kernel
theorem d_Mo_collectOne_110 : decode c_Mo_collectOne 110 = .ok (.iconst 1, 1) := by decide +kernel
theorem d_Mo_collectOne_111 : decode c_Mo_collectOne 111 = .ok (.if_icmp .eq 20, 3) := by decide +kernel
theorem d_Mo_collectOne_114 : decode c_Mo_collectOne 114 = .ok (.iload 4, 2) := by decide +kernel
theorem d_Mo_collectOne_116 : decode c_Mo_collectOne 116 = .ok (.iconst 3, 1) := by decide +kernel
theorem d_Mo_collectOne_117 : decode c_Mo_collectOne 117 = .ok (.if_icmp .eq 9, 3) := by decide +kernel
theorem d_Mo_collectOne_120 : decode c_Mo_collectOne 120 = .ok (.iload 4, 2) := by decide +kernel
theorem d_Mo_collectOne_122 : decode c_Mo_collectOne 122 = .ok (.iconst 4, 1) := by decide +kernel
theorem d_Mo_collectOne_123 : decode c_Mo_collectOne 123 = .ok (.if_icmp .ne 19, 3) := by decide +kernel
theorem d_Mo_collectOne_126 : decode c_Mo_collectOne 126 = .ok (.iload 5, 2) := by decide +kernel
theorem d_Mo_collectOne_128 : decode c_Mo_collectOne 128 = .ok (.ifCond .ne 14, 3) := by decide +kernel
theorem d_Mo_collectOne_131 : decode c_Mo_collectOne 131 = .ok (.aload_n 0, 1) := by decide +kernel
theorem d_Mo_collectOne_132 : decode c_Mo_collectOne 132 = .ok (.iload_n 3, 1) := by decide +kernel
theorem d_Mo_collectOne_133 : decode c_Mo_collectOne 133 = .ok (.iconst 1, 1) := by decide +kernel
theorem d_Mo_collectOne_134 : decode c_Mo_collectOne 134 = .ok (.iadd, 1) := by decide +kernel
theorem d_Mo_collectOne_135 : decode c_Mo_collectOne 135 = .ok (.invokevirtual 154, 3) := by decide +kernel
theorem d_Mo_collectOne_138 : decode c_Mo_collectOne 138 = .ok (.istore_n 3, 1) := by decide +kernel
theorem d_Mo_collectOne_139 : decode c_Mo_collectOne 139 = .ok (.goto 100, 3) := by decide +kernel
theorem d_Mo_collectOne_142 : decode c_Mo_collectOne 142 = .ok (.iload 4, 2) := by decide +kernel
theorem d_Mo_collectOne_144 : decode c_Mo_collectOne 144 = .ok (.iconst 5, 1) := by decide +kernel
theorem d_Mo_collectOne_145 : decode c_Mo_collectOne 145 = .ok (.if_icmp .ne 24, 3) := by decide +kernel
theorem d_Mo_collectOne_148 : decode c_Mo_collectOne 148 = .ok (.aload_n 0, 1) := by decide +kernel
theorem d_Mo_collectOne_149 : decode c_Mo_collectOne 149 = .ok (.iconst 0, 1) := by decide +kernel
theorem d_Mo_collectOne_150 : decode c_Mo_collectOne 150 = .ok (.iload_n 3, 1) := by decide +kernel
theorem d_Mo_collectOne_151 : decode c_Mo_collectOne 151 = .ok (.iconst 1, 1) := by decide +kernel
theorem d_Mo_collectOne_152 : decode c_Mo_collectOne 152 = .ok (.iadd, 1) := by decide +kernel
theorem d_Mo_collectOne_153 : decode c_Mo_collectOne 153 = .ok (.invokevirtual 133, 3) := by decide +kernel
theorem d_Mo_collectOne_156 : decode c_Mo_collectOne 156 = .ok (.bipush 16, 2) := by decide +kernel
theorem d_Mo_collectOne_158 : decode c_Mo_collectOne 158 = .ok (.aload_n 0, 1) := by decide +kernel
theorem d_Mo_collectOne_159 : decode c_Mo_collectOne 159 = .ok (.getfield 34, 3) := by decide +kernel
theorem d_Mo_collectOne_162 : decode c_Mo_collectOne 162 = .ok (.iload_n 3, 1) := by decide +kernel
theorem d_Mo_collectOne_163 : decode c_Mo_collectOne 163 = .ok (.iaload, 1) := by decide +kernel
theorem d_Mo_collectOne_164 : decode c_Mo_collectOne 164 = .ok (.imul, 1) := by decide +kernel
theorem d_Mo_collectOne_165 : decode c_Mo_collectOne 165 = .ok (.istore_n 3, 1) := by decide +kernel
theorem d_Mo_collectOne_166 : decode c_Mo_collectOne 166 = .ok (.goto 73, 3) := by decide +kernel
theorem d_Mo_collectOne_169 : decode c_Mo_collectOne 169 = .ok (.iload 4, 2) := by decide +kernel
theorem d_Mo_collectOne_171 : decode c_Mo_collectOne 171 = .ok (.iconst 3, 1) := by decide +kernel
theorem d_Mo_collectOne_172 : decode c_Mo_collectOne 172 = .ok (.if_icmp .eq 9, 3) := by decide +kernel
theorem d_Mo_collectOne_175 : decode c_Mo_collectOne 175 = .ok (.iload 4, 2) := by decide +kernel
theorem d_Mo_collectOne_177 : decode c_Mo_collectOne 177 = .ok (.iconst 4, 1) := by decide +kernel
theorem d_Mo_collectOne_178 : decode c_Mo_collectOne 178 = .ok (.if_icmp .ne 9, 3) := by decide +kernel
theorem d_Mo_collectOne_181 : decode c_Mo_collectOne 181 = .ok (.aload_n 0, 1) := by decide +kernel
theorem d_Mo_collectOne_182 : decode c_Mo_collectOne 182 = .ok (.iconst 0, 1) := by decide +kernel
theorem d_Mo_collectOne_183 : decode c_Mo_collectOne 183 = .ok (.iconst (-1), 1) := by decide +kernel
theorem d_Mo_collectOne_184 : decode c_Mo_collectOne 184 = .ok (.invokevirtual 133, 3) := by decide +kernel
theorem d_Mo_collectOne_187 : decode c_Mo_collectOne 187 = .ok (.iload 4, 2) := by decide +kernel
theorem d_Mo_collectOne_189 : decode c_Mo_collectOne 189 = .ok (.bipush 6, 2) := by decide +kernel
theorem d_Mo_collectOne_191 : decode c_Mo_collectOne 191 = .ok (.if_icmp .ne 13, 3) := by decide +kernel
theorem d_Mo_collectOne_194 : decode c_Mo_collectOne 194 = .ok (.aload_n 0, 1) := by decide +kernel
theorem d_Mo_collectOne_195 : decode c_Mo_collectOne 195 = .ok (.dup, 1) := by decide +kernel
theorem d_Mo_collectOne_196 : decode c_Mo_collectOne 196 = .ok (.getfield 130, 3) := by decide +kernel
theorem d_Mo_collectOne_199 : decode c_Mo_collectOne 199 = .ok (.iconst 1, 1) := by decide +kernel
theorem d_Mo_collectOne_200 : decode c_Mo_collectOne 200 = .ok (.isub, 1) := by decide +kernel
theorem d_Mo_collectOne_201 : decode c_Mo_collectOne 201 = .ok (.putfield 130, 3) := by decide +kernel
theorem d_Mo_collectOne_204 : decode c_Mo_collectOne 204 = .ok (.iload 4, 2) := by decide +kernel
theorem d_Mo_collectOne_206 : decode c_Mo_collectOne 206 = .ok (.bipush 6, 2) := by decide +kernel
theorem d_Mo_collectOne_208 : decode c_Mo_collectOne 208 = .ok (.if_icmp .ne 27, 3) := by decide +kernel
theorem d_Mo_collectOne_211 : decode c_Mo_collectOne 211 = .ok (.aload_n 0, 1) := by decide +kernel
theorem d_Mo_collectOne_212 : decode c_Mo_collectOne 212 = .ok (.getfield 47, 3) := by decide +kernel
theorem d_Mo_collectOne_215 : decode c_Mo_collectOne 215 = .ok (.aload_n 0, 1) := by decide +kernel
theorem d_Mo_collectOne_216 : decode c_Mo_collectOne 216 = .ok (.getfield 130, 3) := by decide +kernel
theorem d_Mo_collectOne_219 : decode c_Mo_collectOne 219 = .ok (.iaload, 1) := by decide +kernel
theorem d_Mo_collectOne_220 : decode c_Mo_collectOne 220 = .ok (.ifCond .lt 15, 3) := by decide +kernel
theorem d_Mo_collectOne_223 : decode c_Mo_collectOne 223 = .ok (.aload_n 0, 1) := by decide +kernel
theorem d_Mo_collectOne_224 : decode c_Mo_collectOne 224 = .ok (.getfield 47, 3) := by decide +kernel
theorem d_Mo_collectOne_227 : decode c_Mo_collectOne 227 = .ok (.aload_n 0, 1) := by decide +kernel
theorem d_Mo_collectOne_228 : decode c_Mo_collectOne 228 = .ok (.getfield 130, 3) := by decide +kernel
theorem d_Mo_collectOne_231 : decode c_Mo_collectOne 231 = .ok (.iaload, 1) := by decide +kernel
theorem d_Mo_collectOne_232 : decode c_Mo_collectOne 232 = .ok (.goto 6, 3) := by decide +kernel
theorem d_Mo_collectOne_235 : decode c_Mo_collectOne 235 = .ok (.iload_n 3, 1) := by decide +kernel
theorem d_Mo_collectOne_236 : decode c_Mo_collectOne 236 = .ok (.iconst 1, 1) := by decide +kernel
theorem d_Mo_collectOne_237 : decode c_Mo_collectOne 237 = .ok (.iadd, 1) := by decide +kernel
theorem d_Mo_collectOne_238 : decode c_Mo_collectOne 238 = .ok (.istore_n 3, 1) := by decide +kernel
theorem d_Mo_collectOne_239 : decode c_Mo_collectOne 239 = .ok (.goto (-226), 3) := by decide +kernel
theorem d_Mo_collectOne_242 : decode c_Mo_collectOne 242 = .ok (.iconst 1, 1) := by decide +kernel
theorem d_Mo_collectOne_243 : decode c_Mo_collectOne 243 = .ok (.ireturn, 1) := by decide +kernel
theorem d_Mo_begin_0 : decode c_Mo_begin 0 = .ok (.aload_n 0, 1) := by decide +kernel
theorem d_Mo_begin_1 : decode c_Mo_begin 1 = .ok (.getfield 157, 3) := by decide +kernel
theorem d_Mo_begin_4 : decode c_Mo_begin 4 = .ok (.istore_n 2, 1) := by decide +kernel
theorem d_Mo_begin_5 : decode c_Mo_begin 5 = .ok (.aload_n 0, 1) := by decide +kernel
theorem d_Mo_begin_6 : decode c_Mo_begin 6 = .ok (.dup, 1) := by decide +kernel
theorem d_Mo_begin_7 : decode c_Mo_begin 7 = .ok (.getfield 157, 3) := by decide +kernel
theorem d_Mo_begin_10 : decode c_Mo_begin 10 = .ok (.iconst 1, 1) := by decide +kernel
theorem d_Mo_begin_11 : decode c_Mo_begin 11 = .ok (.iadd, 1) := by decide +kernel
theorem d_Mo_begin_12 : decode c_Mo_begin 12 = .ok (.putfield 157, 3) := by decide +kernel
theorem d_Mo_begin_15 : decode c_Mo_begin 15 = .ok (.aload_n 0, 1) := by decide +kernel
theorem d_Mo_begin_16 : decode c_Mo_begin 16 = .ok (.getfield 54, 3) := by decide +kernel
theorem d_Mo_begin_19 : decode c_Mo_begin 19 = .ok (.iload_n 2, 1) := by decide +kernel
theorem d_Mo_begin_20 : decode c_Mo_begin 20 = .ok (.iload_n 1, 1) := by decide +kernel
theorem d_Mo_begin_21 : decode c_Mo_begin 21 = .ok (.iastore, 1) := by decide +kernel
theorem d_Mo_begin_22 : decode c_Mo_begin 22 = .ok (.aload_n 0, 1) := by decide +kernel
theorem d_Mo_begin_23 : decode c_Mo_begin 23 = .ok (.getfield 57, 3) := by decide +kernel
theorem d_Mo_begin_26 : decode c_Mo_begin 26 = .ok (.iload_n 2, 1) := by decide +kernel
theorem d_Mo_begin_27 : decode c_Mo_begin 27 = .ok (.iconst 0, 1) := by decide +kernel
theorem d_Mo_begin_28 : decode c_Mo_begin 28 = .ok (.iastore, 1) := by decide +kernel
theorem d_Mo_begin_29 : decode c_Mo_begin 29 = .ok (.aload_n 0, 1) := by decide +kernel
theorem d_Mo_begin_30 : decode c_Mo_begin 30 = .ok (.getfield 69, 3) := by decide +kernel
theorem d_Mo_begin_33 : decode c_Mo_begin 33 = .ok (.iload_n 2, 1) := by decide +kernel
theorem d_Mo_begin_34 : decode c_Mo_begin 34 = .ok (.iconst 0, 1) := by decide +kernel
theorem d_Mo_begin_35 : decode c_Mo_begin 35 = .ok (.iastore, 1) := by decide +kernel
theorem d_Mo_begin_36 : decode c_Mo_begin 36 = .ok (.aload_n 0, 1) := by decide +kernel
theorem d_Mo_begin_37 : decode c_Mo_begin 37 = .ok (.getfield 78, 3) := by decide +kernel
theorem d_Mo_begin_40 : decode c_Mo_begin 40 = .ok (.iload_n 2, 1) := by decide +kernel
theorem d_Mo_begin_41 : decode c_Mo_begin 41 = .ok (.iconst 0, 1) := by decide +kernel
theorem d_Mo_begin_42 : decode c_Mo_begin 42 = .ok (.iastore, 1) := by decide +kernel
theorem d_Mo_begin_43 : decode c_Mo_begin 43 = .ok (.aload_n 0, 1) := by decide +kernel
theorem d_Mo_begin_44 : decode c_Mo_begin 44 = .ok (.getfield 81, 3) := by decide +kernel
theorem d_Mo_begin_47 : decode c_Mo_begin 47 = .ok (.iload_n 2, 1) := by decide +kernel
theorem d_Mo_begin_48 : decode c_Mo_begin 48 = .ok (.iconst (-1), 1) := by decide +kernel
theorem d_Mo_begin_49 : decode c_Mo_begin 49 = .ok (.iastore, 1) := by decide +kernel
theorem d_Mo_begin_50 : decode c_Mo_begin 50 = .ok (.aload_n 0, 1) := by decide +kernel
theorem d_Mo_begin_51 : decode c_Mo_begin 51 = .ok (.getfield 87, 3) := by decide +kernel
theorem d_Mo_begin_54 : decode c_Mo_begin 54 = .ok (.iload_n 2, 1) := by decide +kernel
theorem d_Mo_begin_55 : decode c_Mo_begin 55 = .ok (.iconst 0, 1) := by decide +kernel
theorem d_Mo_begin_56 : decode c_Mo_begin 56 = .ok (.bastore, 1) := by decide +kernel
theorem d_Mo_begin_57 : decode c_Mo_begin 57 = .ok (.aload_n 0, 1) := by decide +kernel
theorem d_Mo_begin_58 : decode c_Mo_begin 58 = .ok (.getfield 84, 3) := by decide +kernel
theorem d_Mo_begin_61 : decode c_Mo_begin 61 = .ok (.iload_n 2, 1) := by decide +kernel
theorem d_Mo_begin_62 : decode c_Mo_begin 62 = .ok (.aload_n 0, 1) := by decide +kernel
theorem d_Mo_begin_63 : decode c_Mo_begin 63 = .ok (.getfield 160, 3) := by decide +kernel
theorem d_Mo_begin_66 : decode c_Mo_begin 66 = .ok (.iastore, 1) := by decide +kernel
theorem d_Mo_begin_67 : decode c_Mo_begin 67 = .ok (.iload_n 2, 1) := by decide +kernel
theorem d_Mo_begin_68 : decode c_Mo_begin 68 = .ok (.ifCond .gt 12, 3) := by decide +kernel
theorem d_Mo_begin_71 : decode c_Mo_begin 71 = .ok (.aload_n 0, 1) := by decide +kernel
theorem d_Mo_begin_72 : decode c_Mo_begin 72 = .ok (.iconst 0, 1) := by decide +kernel
theorem d_Mo_begin_73 : decode c_Mo_begin 73 = .ok (.iconst 0, 1) := by decide +kernel
theorem d_Mo_begin_74 : decode c_Mo_begin 74 = .ok (.invokevirtual 163, 3) := by decide +kernel
theorem d_Mo_begin_77 : decode c_Mo_begin 77 = .ok (.ifCond .eq 7, 3) := by decide +kernel
theorem d_Mo_begin_80 : decode c_Mo_begin 80 = .ok (.iconst 1, 1) := by decide +kernel
theorem d_Mo_begin_81 : decode c_Mo_begin 81 = .ok (.goto 4, 3) := by decide +kernel
theorem d_Mo_begin_84 : decode c_Mo_begin 84 = .ok (.iconst 0, 1) := by decide +kernel
theorem d_Mo_begin_85 : decode c_Mo_begin 85 = .ok (.istore_n 3, 1) := by decide +kernel
theorem d_Mo_begin_86 : decode c_Mo_begin 86 = .ok (.iconst 0, 1) := by decide +kernel
theorem d_Mo_begin_87 : decode c_Mo_begin 87 = .ok (.istore 4, 2) := by decide +kernel
theorem d_Mo_begin_89 : decode c_Mo_begin 89 = .ok (.iload_n 3, 1) := by decide +kernel
theorem d_Mo_begin_90 : decode c_Mo_begin 90 = .ok (.ifCond .eq 73, 3) := by decide +kernel
theorem d_Mo_begin_93 : decode c_Mo_begin 93 = .ok (.iload_n 2, 1) := by decide +kernel
theorem d_Mo_begin_94 : decode c_Mo_begin 94 = .ok (.ifCond .le 69, 3) := by decide +kernel
theorem d_Mo_begin_97 : decode c_Mo_begin 97 = .ok (.iload 4, 2) := by decide +kernel
theorem d_Mo_begin_99 : decode c_Mo_begin 99 = .ok (.aload_n 0, 1) := by decide +kernel
theorem d_Mo_begin_100 : decode c_Mo_begin 100 = .ok (.getfield 69, 3) := by decide +kernel
theorem d_Mo_begin_103 : decode c_Mo_begin 103 = .ok (.iload_n 2, 1) := by decide +kernel
theorem d_Mo_begin_104 : decode c_Mo_begin 104 = .ok (.iconst 1, 1) := by decide +kernel
theorem d_Mo_begin_105 : decode c_Mo_begin 105 = .ok (.isub, 1) := by decide +kernel
theorem d_Mo_begin_106 : decode c_Mo_begin 106 = .ok (.iaload, 1) := by decide +kernel
theorem d_Mo_begin_107 : decode c_Mo_begin 107 = .ok (.if_icmp .ge 56, 3) := by decide +kernel
theorem d_Mo_begin_110 : decode c_Mo_begin 110 = .ok (.aload_n 0, 1) := by decide +kernel
theorem d_Mo_begin_111 : decode c_Mo_begin 111 = .ok (.getfield 75, 3) := by decide +kernel
theorem d_Mo_begin_114 : decode c_Mo_begin 114 = .ok (.bipush 64, 2) := by decide +kernel
theorem d_Mo_begin_116 : decode c_Mo_begin 116 = .ok (.iload_n 2, 1) := by decide +kernel
theorem d_Mo_begin_117 : decode c_Mo_begin 117 = .ok (.imul, 1) := by decide +kernel
theorem d_Mo_begin_118 : decode c_Mo_begin 118 = .ok (.bipush 64, 2) := by decide +kernel
theorem d_Mo_begin_120 : decode c_Mo_begin 120 = .ok (.isub, 1) := by decide +kernel
theorem d_Mo_begin_121 : decode c_Mo_begin 121 = .ok (.iload 4, 2) := by decide +kernel
theorem d_Mo_begin_123 : decode c_Mo_begin 123 = .ok (.iadd, 1) := by decide +kernel
theorem d_Mo_begin_124 : decode c_Mo_begin 124 = .ok (.iaload, 1) := by decide +kernel
theorem d_Mo_begin_125 : decode c_Mo_begin 125 = .ok (.aload_n 0, 1) := by decide +kernel
theorem d_Mo_begin_126 : decode c_Mo_begin 126 = .ok (.getfield 78, 3) := by decide +kernel
theorem d_Mo_begin_129 : decode c_Mo_begin 129 = .ok (.iload_n 2, 1) := by decide +kernel
theorem d_Mo_begin_130 : decode c_Mo_begin 130 = .ok (.iconst 1, 1) := by decide +kernel
theorem d_Mo_begin_131 : decode c_Mo_begin 131 = .ok (.isub, 1) := by decide +kernel
theorem d_Mo_begin_132 : decode c_Mo_begin 132 = .ok (.iaload, 1) := by decide +kernel
theorem d_Mo_begin_133 : decode c_Mo_begin 133 = .ok (.if_icmp .ne 24, 3) := by decide +kernel
theorem d_Mo_begin_136 : decode c_Mo_begin 136 = .ok (.aload_n 0, 1) := by decide +kernel
theorem d_Mo_begin_137 : decode c_Mo_begin 137 = .ok (.iload_n 2, 1) := by decide +kernel
theorem d_Mo_begin_138 : decode c_Mo_begin 138 = .ok (.aload_n 0, 1) := by decide +kernel
theorem d_Mo_begin_139 : decode c_Mo_begin 139 = .ok (.getfield 72, 3) := by decide +kernel
theorem d_Mo_begin_142 : decode c_Mo_begin 142 = .ok (.bipush 64, 2) := by decide +kernel
theorem d_Mo_begin_144 : decode c_Mo_begin 144 = .ok (.iload_n 2, 1) := by decide +kernel
theorem d_Mo_begin_145 : decode c_Mo_begin 145 = .ok (.imul, 1) := by decide +kernel
theorem d_Mo_begin_146 : decode c_Mo_begin 146 = .ok (.bipush 64, 2) := by decide +kernel
theorem d_Mo_begin_148 : decode c_Mo_begin 148 = .ok (.isub, 1) := by decide +kernel
theorem d_Mo_begin_149 : decode c_Mo_begin 149 = .ok (.iload 4, 2) := by decide +kernel
theorem d_Mo_begin_151 : decode c_Mo_begin 151 = .ok (.iadd, 1) := by decide +kernel
theorem d_Mo_begin_152 : decode c_Mo_begin 152 = .ok (.iaload, 1) := by decide +kernel
theorem d_Mo_begin_153 : decode c_Mo_begin 153 = .ok (.invokevirtual 163, 3) := by decide +kernel
theorem d_Mo_begin_156 : decode c_Mo_begin 156 = .ok (.istore_n 3, 1) := by decide +kernel
theorem d_Mo_begin_157 : decode c_Mo_begin 157 = .ok (.iinc 4 1, 3) := by decide +kernel
theorem d_Mo_begin_160 : decode c_Mo_begin 160 = .ok (.goto (-71), 3) := by decide +kernel
theorem d_Mo_begin_163 : decode c_Mo_begin 163 = .ok (.iload_n 3, 1) := by decide +kernel
theorem d_Mo_begin_164 : decode c_Mo_begin 164 = .ok (.ifCond .eq 11, 3) := by decide +kernel
theorem d_Mo_begin_167 : decode c_Mo_begin 167 = .ok (.aload_n 0, 1) := by decide +kernel
theorem d_Mo_begin_168 : decode c_Mo_begin 168 = .ok (.iconst 2, 1) := by decide +kernel
theorem d_Mo_begin_169 : decode c_Mo_begin 169 = .ok (.invokevirtual 166, 3) := by decide +kernel
theorem d_Mo_begin_172 : decode c_Mo_begin 172 = .ok (.goto 5, 3) := by decide +kernel
theorem d_Mo_begin_175 : decode c_Mo_begin 175 = .ok (.bipush (-4), 2) := by decide +kernel
theorem d_Mo_begin_177 : decode c_Mo_begin 177 = .ok (.ireturn, 1) := by decide +kernel
theorem d_Mo_say_0 : decode c_Mo_say 0 = .ok (.aload_n 0, 1) := by decide +kernel
theorem d_Mo_say_1 : decode c_Mo_say 1 = .ok (.getfield 169, 3) := by decide +kernel
theorem d_Mo_say_4 : decode c_Mo_say 4 = .ok (.bipush 120, 2) := by decide +kernel
theorem d_Mo_say_6 : decode c_Mo_say 6 = .ok (.if_icmp .ne 6, 3) := by decide +kernel
theorem d_Mo_say_9 : decode c_Mo_say 9 = .ok (.bipush (-5), 2) := by decide +kernel
theorem d_Mo_say_11 : decode c_Mo_say 11 = .ok (.ireturn, 1) := by decide +kernel
theorem d_Mo_say_12 : decode c_Mo_say 12 = .ok (.aload_n 0, 1) := by decide +kernel
theorem d_Mo_say_13 : decode c_Mo_say 13 = .ok (.dup, 1) := by decide +kernel
theorem d_Mo_say_14 : decode c_Mo_say 14 = .ok (.getfield 169, 3) := by decide +kernel
theorem d_Mo_say_17 : decode c_Mo_say 17 = .ok (.iconst 1, 1) := by decide +kernel
theorem d_Mo_say_18 : decode c_Mo_say 18 = .ok (.iadd, 1) := by decide +kernel
theorem d_Mo_say_19 : decode c_Mo_say 19 = .ok (.putfield 169, 3) := by decide +kernel
theorem d_Mo_say_22 : decode c_Mo_say 22 = .ok (.aload_n 0, 1) := by decide +kernel
theorem d_Mo_say_23 : decode c_Mo_say 23 = .ok (.getfield 90, 3) := by decide +kernel
theorem d_Mo_say_26 : decode c_Mo_say 26 = .ok (.aload_n 0, 1) := by decide +kernel
theorem d_Mo_say_27 : decode c_Mo_say 27 = .ok (.getfield 160, 3) := by decide +kernel
theorem d_Mo_say_30 : decode c_Mo_say 30 = .ok (.iload_n 1, 1) := by decide +kernel
theorem d_Mo_say_31 : decode c_Mo_say 31 = .ok (.iastore, 1) := by decide +kernel
theorem d_Mo_say_32 : decode c_Mo_say 32 = .ok (.aload_n 0, 1) := by decide +kernel
theorem d_Mo_say_33 : decode c_Mo_say 33 = .ok (.dup, 1) := by decide +kernel
theorem d_Mo_say_34 : decode c_Mo_say 34 = .ok (.getfield 160, 3) := by decide +kernel
theorem d_Mo_say_37 : decode c_Mo_say 37 = .ok (.iconst 1, 1) := by decide +kernel
theorem d_Mo_say_38 : decode c_Mo_say 38 = .ok (.iadd, 1) := by decide +kernel
theorem d_Mo_say_39 : decode c_Mo_say 39 = .ok (.putfield 160, 3) := by decide +kernel
theorem d_Mo_say_42 : decode c_Mo_say 42 = .ok (.iconst 0, 1) := by decide +kernel
theorem d_Mo_say_43 : decode c_Mo_say 43 = .ok (.ireturn, 1) := by decide +kernel
theorem d_Mo_entry_0 : decode c_Mo_entry 0 = .ok (.bipush 10, 2) := by decide +kernel
theorem d_Mo_entry_2 : decode c_Mo_entry 2 = .ok (.iload_n 1, 1) := by decide +kernel
theorem d_Mo_entry_3 : decode c_Mo_entry 3 = .ok (.imul, 1) := by decide +kernel
theorem d_Mo_entry_4 : decode c_Mo_entry 4 = .ok (.aload_n 0, 1) := by decide +kernel
theorem d_Mo_entry_5 : decode c_Mo_entry 5 = .ok (.getfield 78, 3) := by decide +kernel
theorem d_Mo_entry_8 : decode c_Mo_entry 8 = .ok (.iload_n 1, 1) := by decide +kernel
theorem d_Mo_entry_9 : decode c_Mo_entry 9 = .ok (.iaload, 1) := by decide +kernel
theorem d_Mo_entry_10 : decode c_Mo_entry 10 = .ok (.iadd, 1) := by decide +kernel
theorem d_Mo_entry_11 : decode c_Mo_entry 11 = .ok (.ireturn, 1) := by decide +kernel
theorem d_Mo_kindAt_0 : decode c_Mo_kindAt 0 = .ok (.aload_n 0, 1) := by decide +kernel
theorem d_Mo_kindAt_1 : decode c_Mo_kindAt 1 = .ok (.aload_n 0, 1) := by decide +kernel
theorem d_Mo_kindAt_2 : decode c_Mo_kindAt 2 = .ok (.getfield 54, 3) := by decide +kernel
theorem d_Mo_kindAt_5 : decode c_Mo_kindAt 5 = .ok (.iload_n 1, 1) := by decide +kernel
theorem d_Mo_kindAt_6 : decode c_Mo_kindAt 6 = .ok (.iaload, 1) := by decide +kernel
theorem d_Mo_kindAt_7 : decode c_Mo_kindAt 7 = .ok (.aload_n 0, 1) := by decide +kernel
theorem d_Mo_kindAt_8 : decode c_Mo_kindAt 8 = .ok (.getfield 66, 3) := by decide +kernel
theorem d_Mo_kindAt_11 : decode c_Mo_kindAt 11 = .ok (.aload_n 0, 1) := by decide +kernel
theorem d_Mo_kindAt_12 : decode c_Mo_kindAt 12 = .ok (.iload_n 1, 1) := by decide +kernel
theorem d_Mo_kindAt_13 : decode c_Mo_kindAt 13 = .ok (.invokevirtual 172, 3) := by decide +kernel
theorem d_Mo_kindAt_16 : decode c_Mo_kindAt 16 = .ok (.iaload, 1) := by decide +kernel
theorem d_Mo_kindAt_17 : decode c_Mo_kindAt 17 = .ok (.iconst 0, 1) := by decide +kernel
theorem d_Mo_kindAt_18 : decode c_Mo_kindAt 18 = .ok (.invokevirtual 113, 3) := by decide +kernel
theorem d_Mo_kindAt_21 : decode c_Mo_kindAt 21 = .ok (.ireturn, 1) := by decide +kernel
theorem d_Mo_note_0 : decode c_Mo_note 0 = .ok (.aload_n 0, 1) := by decide +kernel
theorem d_Mo_note_1 : decode c_Mo_note 1 = .ok (.getfield 175, 3) := by decide +kernel
theorem d_Mo_note_4 : decode c_Mo_note 4 = .ok (.ifCond .ne 7, 3) := by decide +kernel
theorem d_Mo_note_7 : decode c_Mo_note 7 = .ok (.iconst 0, 1) := by decide +kernel
theorem d_Mo_note_8 : decode c_Mo_note 8 = .ok (.goto 14, 3) := by decide +kernel
theorem d_Mo_note_11 : decode c_Mo_note 11 = .ok (.aload_n 0, 1) := by decide +kernel
theorem d_Mo_note_12 : decode c_Mo_note 12 = .ok (.getfield 93, 3) := by decide +kernel
theorem d_Mo_note_15 : decode c_Mo_note 15 = .ok (.aload_n 0, 1) := by decide +kernel
theorem d_Mo_note_16 : decode c_Mo_note 16 = .ok (.getfield 175, 3) := by decide +kernel
theorem d_Mo_note_19 : decode c_Mo_note 19 = .ok (.iconst 1, 1) := by decide +kernel
theorem d_Mo_note_20 : decode c_Mo_note 20 = .ok (.isub, 1) := by decide +kernel
theorem d_Mo_note_21 : decode c_Mo_note 21 = .ok (.iaload, 1) := by decide +kernel
theorem d_Mo_note_22 : decode c_Mo_note 22 = .ok (.istore_n 1, 1) := by decide +kernel
theorem d_Mo_note_23 : decode c_Mo_note 23 = .ok (.iconst 0, 1) := by decide +kernel
theorem d_Mo_note_24 : decode c_Mo_note 24 = .ok (.istore_n 2, 1) := by decide +kernel
theorem d_Mo_note_25 : decode c_Mo_note 25 = .ok (.iload_n 2, 1) := by decide +kernel
theorem d_Mo_note_26 : decode c_Mo_note 26 = .ok (.aload_n 0, 1) := by decide +kernel
theorem d_Mo_note_27 : decode c_Mo_note 27 = .ok (.getfield 157, 3) := by decide +kernel
theorem d_Mo_note_30 : decode c_Mo_note 30 = .ok (.if_icmp .ge 65, 3) := by decide +kernel
theorem d_Mo_note_33 : decode c_Mo_note 33 = .ok (.aload_n 0, 1) := by decide +kernel
theorem d_Mo_note_34 : decode c_Mo_note 34 = .ok (.getfield 96, 3) := by decide +kernel
theorem d_Mo_note_37 : decode c_Mo_note 37 = .ok (.iload_n 1, 1) := by decide +kernel
theorem d_Mo_note_38 : decode c_Mo_note 38 = .ok (.aload_n 0, 1) := by decide +kernel
theorem d_Mo_note_39 : decode c_Mo_note 39 = .ok (.getfield 60, 3) := by decide +kernel
theorem d_Mo_note_42 : decode c_Mo_note 42 = .ok (.aload_n 0, 1) := by decide +kernel
theorem d_Mo_note_43 : decode c_Mo_note 43 = .ok (.iload_n 2, 1) := by decide +kernel
theorem d_Mo_note_44 : decode c_Mo_note 44 = .ok (.invokevirtual 172, 3) := by decide +kernel
theorem d_Mo_note_47 : decode c_Mo_note 47 = .ok (.iaload, 1) := by decide +kernel
theorem d_Mo_note_48 : decode c_Mo_note 48 = .ok (.iastore, 1) := by decide +kernel
theorem d_Mo_note_49 : decode c_Mo_note 49 = .ok (.iinc 1 1, 3) := by decide +kernel
theorem d_Mo_note_52 : decode c_Mo_note 52 = .ok (.iload_n 2, 1) := by decide +kernel
theorem d_Mo_note_53 : decode c_Mo_note 53 = .ok (.iconst 1, 1) := by decide +kernel
theorem d_Mo_note_54 : decode c_Mo_note 54 = .ok (.iadd, 1) := by decide +kernel
theorem d_Mo_note_55 : decode c_Mo_note 55 = .ok (.aload_n 0, 1) := by decide +kernel
theorem d_Mo_note_56 : decode c_Mo_note 56 = .ok (.getfield 157, 3) := by decide +kernel
theorem d_Mo_note_59 : decode c_Mo_note 59 = .ok (.if_icmp .ge 30, 3) := by decide +kernel
theorem d_Mo_note_62 : decode c_Mo_note 62 = .ok (.aload_n 0, 1) := by decide +kernel
theorem d_Mo_note_63 : decode c_Mo_note 63 = .ok (.iload_n 2, 1) := by decide +kernel
theorem d_Mo_note_64 : decode c_Mo_note 64 = .ok (.invokevirtual 178, 3) := by decide +kernel
theorem d_Mo_note_67 : decode c_Mo_note 67 = .ok (.iconst 2, 1) := by decide +kernel
theorem d_Mo_note_68 : decode c_Mo_note 68 = .ok (.if_icmp .ne 21, 3) := by decide +kernel
theorem d_Mo_note_71 : decode c_Mo_note 71 = .ok (.aload_n 0, 1) := by decide +kernel
theorem d_Mo_note_72 : decode c_Mo_note 72 = .ok (.getfield 96, 3) := by decide +kernel
theorem d_Mo_note_75 : decode c_Mo_note 75 = .ok (.iload_n 1, 1) := by decide +kernel
theorem d_Mo_note_76 : decode c_Mo_note 76 = .ok (.bipush 10, 2) := by decide +kernel
theorem d_Mo_note_78 : decode c_Mo_note 78 = .ok (.aload_n 0, 1) := by decide +kernel
theorem d_Mo_note_79 : decode c_Mo_note 79 = .ok (.getfield 81, 3) := by decide +kernel
theorem d_Mo_note_82 : decode c_Mo_note 82 = .ok (.iload_n 2, 1) := by decide +kernel
theorem d_Mo_note_83 : decode c_Mo_note 83 = .ok (.iaload, 1) := by decide +kernel
theorem d_Mo_note_84 : decode c_Mo_note 84 = .ok (.iadd, 1) := by decide +kernel
theorem d_Mo_note_85 : decode c_Mo_note 85 = .ok (.iastore, 1) := by decide +kernel
theorem d_Mo_note_86 : decode c_Mo_note 86 = .ok (.iinc 1 1, 3) := by decide +kernel
theorem d_Mo_note_89 : decode c_Mo_note 89 = .ok (.iinc 2 1, 3) := by decide +kernel
theorem d_Mo_note_92 : decode c_Mo_note 92 = .ok (.goto (-67), 3) := by decide +kernel
theorem d_Mo_note_95 : decode c_Mo_note 95 = .ok (.aload_n 0, 1) := by decide +kernel
theorem d_Mo_note_96 : decode c_Mo_note 96 = .ok (.getfield 93, 3) := by decide +kernel
theorem d_Mo_note_99 : decode c_Mo_note 99 = .ok (.aload_n 0, 1) := by decide +kernel
theorem d_Mo_note_100 : decode c_Mo_note 100 = .ok (.getfield 175, 3) := by decide +kernel
theorem d_Mo_note_103 : decode c_Mo_note 103 = .ok (.iload_n 1, 1) := by decide +kernel
theorem d_Mo_note_104 : decode c_Mo_note 104 = .ok (.iastore, 1) := by decide +kernel
theorem d_Mo_note_105 : decode c_Mo_note 105 = .ok (.aload_n 0, 1) := by decide +kernel
theorem d_Mo_note_106 : decode c_Mo_note 106 = .ok (.dup, 1) := by decide +kernel
theorem d_Mo_note_107 : decode c_Mo_note 107 = .ok (.getfield 175, 3) := by decide +kernel
theorem d_Mo_note_110 : decode c_Mo_note 110 = .ok (.iconst 1, 1) := by decide +kernel
theorem d_Mo_note_111 : decode c_Mo_note 111 = .ok (.iadd, 1) := by decide +kernel
theorem d_Mo_note_112 : decode c_Mo_note 112 = .ok (.putfield 175, 3) := by decide +kernel
theorem d_Mo_note_115 : decode c_Mo_note 115 = .ok (.return_, 1) := by decide +kernel
theorem d_Mo_nothing_0 : decode c_Mo_nothing 0 = .ok (.aload_n 0, 1) := by decide +kernel
theorem d_Mo_nothing_1 : decode c_Mo_nothing 1 = .ok (.aload_n 0, 1) := by decide +kernel
theorem d_Mo_nothing_2 : decode c_Mo_nothing 2 = .ok (.getfield 54, 3) := by decide +kernel
theorem d_Mo_nothing_5 : decode c_Mo_nothing 5 = .ok (.iload_n 1, 1) := by decide +kernel
theorem d_Mo_nothing_6 : decode c_Mo_nothing 6 = .ok (.iaload, 1) := by decide +kernel
theorem d_Mo_nothing_7 : decode c_Mo_nothing 7 = .ok (.aload_n 0, 1) := by decide +kernel
theorem d_Mo_nothing_8 : decode c_Mo_nothing 8 = .ok (.getfield 66, 3) := by decide +kernel
theorem d_Mo_nothing_11 : decode c_Mo_nothing 11 = .ok (.aload_n 0, 1) := by decide +kernel
theorem d_Mo_nothing_12 : decode c_Mo_nothing 12 = .ok (.iload_n 1, 1) := by decide +kernel
theorem d_Mo_nothing_13 : decode c_Mo_nothing 13 = .ok (.invokevirtual 172, 3) := by decide +kernel
theorem d_Mo_nothing_16 : decode c_Mo_nothing 16 = .ok (.iaload, 1) := by decide +kernel
theorem d_Mo_nothing_17 : decode c_Mo_nothing 17 = .ok (.iconst 2, 1) := by decide +kernel
theorem d_Mo_nothing_18 : decode c_Mo_nothing 18 = .ok (.invokevirtual 113, 3) := by decide +kernel
theorem d_Mo_nothing_21 : decode c_Mo_nothing 21 = .ok (.ifCond .ne 4, 3) := by decide +kernel
theorem d_Mo_nothing_24 : decode c_Mo_nothing 24 = .ok (.return_, 1) := by decide +kernel
theorem d_Mo_nothing_25 : decode c_Mo_nothing 25 = .ok (.aload_n 0, 1) := by decide +kernel
theorem d_Mo_nothing_26 : decode c_Mo_nothing 26 = .ok (.getfield 87, 3) := by decide +kernel
theorem d_Mo_nothing_29 : decode c_Mo_nothing 29 = .ok (.iload_n 1, 1) := by decide +kernel
theorem d_Mo_nothing_30 : decode c_Mo_nothing 30 = .ok (.iconst 1, 1) := by decide +kernel
theorem d_Mo_nothing_31 : decode c_Mo_nothing 31 = .ok (.bastore, 1) := by decide +kernel
theorem d_Mo_nothing_32 : decode c_Mo_nothing 32 = .ok (.iload_n 2, 1) := by decide +kernel
theorem d_Mo_nothing_33 : decode c_Mo_nothing 33 = .ok (.ifCond .eq 7, 3) := by decide +kernel
theorem d_Mo_nothing_36 : decode c_Mo_nothing 36 = .ok (.aload_n 0, 1) := by decide +kernel
theorem d_Mo_nothing_37 : decode c_Mo_nothing 37 = .ok (.invokevirtual 181, 3) := by decide +kernel
theorem d_Mo_nothing_40 : decode c_Mo_nothing 40 = .ok (.return_, 1) := by decide +kernel
theorem d_Mo_endObject_0 : decode c_Mo_endObject 0 = .ok (.aload_n 0, 1) := by decide +kernel
theorem d_Mo_endObject_1 : decode c_Mo_endObject 1 = .ok (.iconst 3, 1) := by decide +kernel
theorem d_Mo_endObject_2 : decode c_Mo_endObject 2 = .ok (.invokevirtual 166, 3) := by decide +kernel
theorem d_Mo_endObject_5 : decode c_Mo_endObject 5 = .ok (.istore_n 1, 1) := by decide +kernel
theorem d_Mo_endObject_6 : decode c_Mo_endObject 6 = .ok (.aload_n 0, 1) := by decide +kernel
theorem d_Mo_endObject_7 : decode c_Mo_endObject 7 = .ok (.dup, 1) := by decide +kernel
theorem d_Mo_endObject_8 : decode c_Mo_endObject 8 = .ok (.getfield 157, 3) := by decide +kernel
theorem d_Mo_endObject_11 : decode c_Mo_endObject 11 = .ok (.iconst 1, 1) := by decide +kernel
theorem d_Mo_endObject_12 : decode c_Mo_endObject 12 = .ok (.isub, 1) := by decide +kernel
theorem d_Mo_endObject_13 : decode c_Mo_endObject 13 = .ok (.putfield 157, 3) := by decide +kernel
theorem d_Mo_endObject_16 : decode c_Mo_endObject 16 = .ok (.aload_n 0, 1) := by decide +kernel
theorem d_Mo_endObject_17 : decode c_Mo_endObject 17 = .ok (.getfield 157, 3) := by decide +kernel
theorem d_Mo_endObject_20 : decode c_Mo_endObject 20 = .ok (.istore_n 2, 1) := by decide +kernel
theorem d_Mo_endObject_21 : decode c_Mo_endObject 21 = .ok (.iload_n 1, 1) := by decide +kernel
theorem d_Mo_endObject_22 : decode c_Mo_endObject 22 = .ok (.ifCond .ne 42, 3) := by decide +kernel
theorem d_Mo_endObject_25 : decode c_Mo_endObject 25 = .ok (.aload_n 0, 1) := by decide +kernel
theorem d_Mo_endObject_26 : decode c_Mo_endObject 26 = .ok (.getfield 87, 3) := by decide +kernel
theorem d_Mo_endObject_29 : decode c_Mo_endObject 29 = .ok (.iload_n 2, 1) := by decide +kernel
theorem d_Mo_endObject_30 : decode c_Mo_endObject 30 = .ok (.baload, 1) := by decide +kernel
theorem d_Mo_endObject_31 : decode c_Mo_endObject 31 = .ok (.ifCond .eq 33, 3) := by decide +kernel
theorem d_Mo_endObject_34 : decode c_Mo_endObject 34 = .ok (.aload_n 0, 1) := by decide +kernel
theorem d_Mo_endObject_35 : decode c_Mo_endObject 35 = .ok (.aload_n 0, 1) := by decide +kernel
theorem d_Mo_endObject_36 : decode c_Mo_endObject 36 = .ok (.getfield 84, 3) := by decide +kernel
theorem d_Mo_endObject_39 : decode c_Mo_endObject 39 = .ok (.iload_n 2, 1) := by decide +kernel
theorem d_Mo_endObject_40 : decode c_Mo_endObject 40 = .ok (.iaload, 1) := by decide +kernel
theorem d_Mo_endObject_41 : decode c_Mo_endObject 41 = .ok (.putfield 160, 3) := by decide +kernel
theorem d_Mo_endObject_44 : decode c_Mo_endObject 44 = .ok (.aload_n 0, 1) := by decide +kernel
theorem d_Mo_endObject_45 : decode c_Mo_endObject 45 = .ok (.getfield 90, 3) := by decide +kernel
theorem d_Mo_endObject_48 : decode c_Mo_endObject 48 = .ok (.aload_n 0, 1) := by decide +kernel
theorem d_Mo_endObject_49 : decode c_Mo_endObject 49 = .ok (.getfield 160, 3) := by decide +kernel
theorem d_Mo_endObject_52 : decode c_Mo_endObject 52 = .ok (.iconst 1, 1) := by decide +kernel
theorem d_Mo_endObject_53 : decode c_Mo_endObject 53 = .ok (.iastore, 1) := by decide +kernel
theorem d_Mo_endObject_54 : decode c_Mo_endObject 54 = .ok (.aload_n 0, 1) := by decide +kernel
theorem d_Mo_endObject_55 : decode c_Mo_endObject 55 = .ok (.dup, 1) := by decide +kernel
theorem d_Mo_endObject_56 : decode c_Mo_endObject 56 = .ok (.getfield 160, 3) := by decide +kernel
theorem d_Mo_endObject_59 : decode c_Mo_endObject 59 = .ok (.iconst 1, 1) := by decide +kernel
theorem d_Mo_endObject_60 : decode c_Mo_endObject 60 = .ok (.iadd, 1) := by decide +kernel
theorem d_Mo_endObject_61 : decode c_Mo_endObject 61 = .ok (.putfield 160, 3) := by decide +kernel
theorem d_Mo_endObject_64 : decode c_Mo_endObject 64 = .ok (.iload_n 2, 1) := by decide +kernel
theorem d_Mo_endObject_65 : decode c_Mo_endObject 65 = .ok (.ifCond .ne 5, 3) := by decide +kernel
theorem d_Mo_endObject_68 : decode c_Mo_endObject 68 = .ok (.iload_n 1, 1) := by decide +kernel
theorem d_Mo_endObject_69 : decode c_Mo_endObject 69 = .ok (.ireturn, 1) := by decide +kernel
theorem d_Mo_endObject_70 : decode c_Mo_endObject 70 = .ok (.aload_n 0, 1) := by decide +kernel
theorem d_Mo_endObject_71 : decode c_Mo_endObject 71 = .ok (.getfield 87, 3) := by decide +kernel
theorem d_Mo_endObject_74 : decode c_Mo_endObject 74 = .ok (.iload_n 2, 1) := by decide +kernel
theorem d_Mo_endObject_75 : decode c_Mo_endObject 75 = .ok (.baload, 1) := by decide +kernel
theorem d_Mo_endObject_76 : decode c_Mo_endObject 76 = .ok (.ifCond .eq 11, 3) := by decide +kernel
theorem d_Mo_endObject_79 : decode c_Mo_endObject 79 = .ok (.aload_n 0, 1) := by decide +kernel
theorem d_Mo_endObject_80 : decode c_Mo_endObject 80 = .ok (.iload_n 2, 1) := by decide +kernel
theorem d_Mo_endObject_81 : decode c_Mo_endObject 81 = .ok (.iconst 1, 1) := by decide +kernel
theorem d_Mo_endObject_82 : decode c_Mo_endObject 82 = .ok (.isub, 1) := by decide +kernel
theorem d_Mo_endObject_83 : decode c_Mo_endObject 83 = .ok (.iconst 0, 1) := by decide +kernel
theorem d_Mo_endObject_84 : decode c_Mo_endObject 84 = .ok (.invokevirtual 184, 3) := by decide +kernel
theorem d_Mo_endObject_87 : decode c_Mo_endObject 87 = .ok (.aload_n 0, 1) := by decide +kernel
theorem d_Mo_endObject_88 : decode c_Mo_endObject 88 = .ok (.getfield 81, 3) := by decide +kernel
theorem d_Mo_endObject_91 : decode c_Mo_endObject 91 = .ok (.iload_n 2, 1) := by decide +kernel
theorem d_Mo_endObject_92 : decode c_Mo_endObject 92 = .ok (.iconst 1, 1) := by decide +kernel
theorem d_Mo_endObject_93 : decode c_Mo_endObject 93 = .ok (.isub, 1) := by decide +kernel
theorem d_Mo_endObject_94 : decode c_Mo_endObject 94 = .ok (.iaload, 1) := by decide +kernel
theorem d_Mo_endObject_95 : decode c_Mo_endObject 95 = .ok (.ifCond .lt 18, 3) := by decide +kernel
theorem d_Mo_endObject_98 : decode c_Mo_endObject 98 = .ok (.aload_n 0, 1) := by decide +kernel
theorem d_Mo_endObject_99 : decode c_Mo_endObject 99 = .ok (.getfield 81, 3) := by decide +kernel
theorem d_Mo_endObject_102 : decode c_Mo_endObject 102 = .ok (.iload_n 2, 1) := by decide +kernel
theorem d_Mo_endObject_103 : decode c_Mo_endObject 103 = .ok (.iconst 1, 1) := by decide +kernel
theorem d_Mo_endObject_104 : decode c_Mo_endObject 104 = .ok (.isub, 1) := by decide +kernel
theorem d_Mo_endObject_105 : decode c_Mo_endObject 105 = .ok (.dup2, 1) := by decide +kernel
theorem d_Mo_endObject_106 : decode c_Mo_endObject 106 = .ok (.iaload, 1) := by decide +kernel
theorem d_Mo_endObject_107 : decode c_Mo_endObject 107 = .ok (.iconst 1, 1) := by decide +kernel
theorem d_Mo_endObject_108 : decode c_Mo_endObject 108 = .ok (.iadd, 1) := by decide +kernel
theorem d_Mo_endObject_109 : decode c_Mo_endObject 109 = .ok (.iastore, 1) := by decide +kernel
theorem d_Mo_endObject_110 : decode c_Mo_endObject 110 = .ok (.goto 15, 3) := by decide +kernel
theorem d_Mo_endObject_113 : decode c_Mo_endObject 113 = .ok (.aload_n 0, 1) := by decide +kernel
theorem d_Mo_endObject_114 : decode c_Mo_endObject 114 = .ok (.getfield 78, 3) := by decide +kernel
theorem d_Mo_endObject_117 : decode c_Mo_endObject 117 = .ok (.iload_n 2, 1) := by decide +kernel
theorem d_Mo_endObject_118 : decode c_Mo_endObject 118 = .ok (.iconst 1, 1) := by decide +kernel
theorem d_Mo_endObject_119 : decode c_Mo_endObject 119 = .ok (.isub, 1) := by decide +kernel
theorem d_Mo_endObject_120 : decode c_Mo_endObject 120 = .ok (.dup2, 1) := by decide +kernel
theorem d_Mo_endObject_121 : decode c_Mo_endObject 121 = .ok (.iaload, 1) := by decide +kernel
