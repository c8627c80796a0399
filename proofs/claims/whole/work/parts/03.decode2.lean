theorem d_Mo_field_88 : decode c_Mo_field 88 = .ok (.aload_n 0, 1) := by decide +kernel
theorem d_Mo_field_89 : decode c_Mo_field 89 = .ok (.getfield 13, 3) := by decide +kernel
theorem d_Mo_field_92 : decode c_Mo_field 92 = .ok (.iload 5, 2) := by decide +kernel
theorem d_Mo_field_94 : decode c_Mo_field 94 = .ok (.iload_n 2, 1) := by decide +kernel
theorem d_Mo_field_95 : decode c_Mo_field 95 = .ok (.iastore, 1) := by decide +kernel
theorem d_Mo_field_96 : decode c_Mo_field 96 = .ok (.aload_n 0, 1) := by decide +kernel
theorem d_Mo_field_97 : decode c_Mo_field 97 = .ok (.getfield 13, 3) := by decide +kernel
theorem d_Mo_field_100 : decode c_Mo_field 100 = .ok (.iload 5, 2) := by decide +kernel
theorem d_Mo_field_102 : decode c_Mo_field 102 = .ok (.iconst 1, 1) := by decide +kernel
theorem d_Mo_field_103 : decode c_Mo_field 103 = .ok (.iadd, 1) := by decide +kernel
theorem d_Mo_field_104 : decode c_Mo_field 104 = .ok (.iload_n 3, 1) := by decide +kernel
theorem d_Mo_field_105 : decode c_Mo_field 105 = .ok (.iastore, 1) := by decide +kernel
theorem d_Mo_field_106 : decode c_Mo_field 106 = .ok (.aload_n 0, 1) := by decide +kernel
theorem d_Mo_field_107 : decode c_Mo_field 107 = .ok (.getfield 13, 3) := by decide +kernel
theorem d_Mo_field_110 : decode c_Mo_field 110 = .ok (.iload 5, 2) := by decide +kernel
theorem d_Mo_field_112 : decode c_Mo_field 112 = .ok (.iconst 2, 1) := by decide +kernel
theorem d_Mo_field_113 : decode c_Mo_field 113 = .ok (.iadd, 1) := by decide +kernel
theorem d_Mo_field_114 : decode c_Mo_field 114 = .ok (.iload 4, 2) := by decide +kernel
theorem d_Mo_field_116 : decode c_Mo_field 116 = .ok (.ifCond .eq 7, 3) := by decide +kernel
theorem d_Mo_field_119 : decode c_Mo_field 119 = .ok (.iconst 1, 1) := by decide +kernel
theorem d_Mo_field_120 : decode c_Mo_field 120 = .ok (.goto 4, 3) := by decide +kernel
theorem d_Mo_field_123 : decode c_Mo_field 123 = .ok (.iconst 0, 1) := by decide +kernel
theorem d_Mo_field_124 : decode c_Mo_field 124 = .ok (.iastore, 1) := by decide +kernel
theorem d_Mo_field_125 : decode c_Mo_field 125 = .ok (.aload_n 0, 1) := by decide +kernel
theorem d_Mo_field_126 : decode c_Mo_field 126 = .ok (.getfield 7, 3) := by decide +kernel
theorem d_Mo_field_129 : decode c_Mo_field 129 = .ok (.iload_n 1, 1) := by decide +kernel
theorem d_Mo_field_130 : decode c_Mo_field 130 = .ok (.dup2, 1) := by decide +kernel
theorem d_Mo_field_131 : decode c_Mo_field 131 = .ok (.iaload, 1) := by decide +kernel
theorem d_Mo_field_132 : decode c_Mo_field 132 = .ok (.iconst 1, 1) := by decide +kernel
theorem d_Mo_field_133 : decode c_Mo_field 133 = .ok (.iadd, 1) := by decide +kernel
theorem d_Mo_field_134 : decode c_Mo_field 134 = .ok (.iastore, 1) := by decide +kernel
theorem d_Mo_field_135 : decode c_Mo_field 135 = .ok (.aload_n 0, 1) := by decide +kernel
theorem d_Mo_field_136 : decode c_Mo_field 136 = .ok (.getfield 7, 3) := by decide +kernel
theorem d_Mo_field_139 : decode c_Mo_field 139 = .ok (.iload_n 1, 1) := by decide +kernel
theorem d_Mo_field_140 : decode c_Mo_field 140 = .ok (.iaload, 1) := by decide +kernel
theorem d_Mo_field_141 : decode c_Mo_field 141 = .ok (.iconst 1, 1) := by decide +kernel
theorem d_Mo_field_142 : decode c_Mo_field 142 = .ok (.isub, 1) := by decide +kernel
theorem d_Mo_field_143 : decode c_Mo_field 143 = .ok (.ireturn, 1) := by decide +kernel
theorem d_Mo_row_0 : decode c_Mo_row 0 = .ok (.iload_n 1, 1) := by decide +kernel
theorem d_Mo_row_1 : decode c_Mo_row 1 = .ok (.iconst 0, 1) := by decide +kernel
theorem d_Mo_row_2 : decode c_Mo_row 2 = .ok (.aload_n 0, 1) := by decide +kernel
theorem d_Mo_row_3 : decode c_Mo_row 3 = .ok (.getfield 99, 3) := by decide +kernel
theorem d_Mo_row_6 : decode c_Mo_row 6 = .ok (.iconst 1, 1) := by decide +kernel
theorem d_Mo_row_7 : decode c_Mo_row 7 = .ok (.isub, 1) := by decide +kernel
theorem d_Mo_row_8 : decode c_Mo_row 8 = .ok (.invokestatic 105, 3) := by decide +kernel
theorem d_Mo_row_11 : decode c_Mo_row 11 = .ok (.ifCond .ne 5, 3) := by decide +kernel
theorem d_Mo_row_14 : decode c_Mo_row 14 = .ok (.iconst (-1), 1) := by decide +kernel
theorem d_Mo_row_15 : decode c_Mo_row 15 = .ok (.ireturn, 1) := by decide +kernel
theorem d_Mo_row_16 : decode c_Mo_row 16 = .ok (.aload_n 0, 1) := by decide +kernel
theorem d_Mo_row_17 : decode c_Mo_row 17 = .ok (.getfield 102, 3) := by decide +kernel
theorem d_Mo_row_20 : decode c_Mo_row 20 = .ok (.bipush 12, 2) := by decide +kernel
theorem d_Mo_row_22 : decode c_Mo_row 22 = .ok (.if_icmp .ne 6, 3) := by decide +kernel
theorem d_Mo_row_25 : decode c_Mo_row 25 = .ok (.bipush (-2), 2) := by decide +kernel
theorem d_Mo_row_27 : decode c_Mo_row 27 = .ok (.ireturn, 1) := by decide +kernel
theorem d_Mo_row_28 : decode c_Mo_row 28 = .ok (.aload_n 0, 1) := by decide +kernel
theorem d_Mo_row_29 : decode c_Mo_row 29 = .ok (.dup, 1) := by decide +kernel
theorem d_Mo_row_30 : decode c_Mo_row 30 = .ok (.getfield 102, 3) := by decide +kernel
theorem d_Mo_row_33 : decode c_Mo_row 33 = .ok (.iconst 1, 1) := by decide +kernel
theorem d_Mo_row_34 : decode c_Mo_row 34 = .ok (.iadd, 1) := by decide +kernel
theorem d_Mo_row_35 : decode c_Mo_row 35 = .ok (.putfield 102, 3) := by decide +kernel
theorem d_Mo_row_38 : decode c_Mo_row 38 = .ok (.aload_n 0, 1) := by decide +kernel
theorem d_Mo_row_39 : decode c_Mo_row 39 = .ok (.getfield 16, 3) := by decide +kernel
theorem d_Mo_row_42 : decode c_Mo_row 42 = .ok (.aload_n 0, 1) := by decide +kernel
theorem d_Mo_row_43 : decode c_Mo_row 43 = .ok (.getfield 102, 3) := by decide +kernel
theorem d_Mo_row_46 : decode c_Mo_row 46 = .ok (.iload_n 1, 1) := by decide +kernel
theorem d_Mo_row_47 : decode c_Mo_row 47 = .ok (.iastore, 1) := by decide +kernel
theorem d_Mo_row_48 : decode c_Mo_row 48 = .ok (.aload_n 0, 1) := by decide +kernel
theorem d_Mo_row_49 : decode c_Mo_row 49 = .ok (.getfield 102, 3) := by decide +kernel
theorem d_Mo_row_52 : decode c_Mo_row 52 = .ok (.ireturn, 1) := by decide +kernel
theorem d_Mo_of_0 : decode c_Mo_of 0 = .ok (.aload_n 0, 1) := by decide +kernel
theorem d_Mo_of_1 : decode c_Mo_of 1 = .ok (.getfield 13, 3) := by decide +kernel
theorem d_Mo_of_4 : decode c_Mo_of 4 = .ok (.bipush 12, 2) := by decide +kernel
theorem d_Mo_of_6 : decode c_Mo_of 6 = .ok (.aload_n 0, 1) := by decide +kernel
theorem d_Mo_of_7 : decode c_Mo_of 7 = .ok (.getfield 16, 3) := by decide +kernel
theorem d_Mo_of_10 : decode c_Mo_of 10 = .ok (.iload_n 1, 1) := by decide +kernel
theorem d_Mo_of_11 : decode c_Mo_of 11 = .ok (.iaload, 1) := by decide +kernel
theorem d_Mo_of_12 : decode c_Mo_of 12 = .ok (.imul, 1) := by decide +kernel
theorem d_Mo_of_13 : decode c_Mo_of 13 = .ok (.iconst 3, 1) := by decide +kernel
theorem d_Mo_of_14 : decode c_Mo_of 14 = .ok (.iload_n 2, 1) := by decide +kernel
theorem d_Mo_of_15 : decode c_Mo_of 15 = .ok (.imul, 1) := by decide +kernel
theorem d_Mo_of_16 : decode c_Mo_of 16 = .ok (.iadd, 1) := by decide +kernel
theorem d_Mo_of_17 : decode c_Mo_of 17 = .ok (.iload_n 3, 1) := by decide +kernel
theorem d_Mo_of_18 : decode c_Mo_of 18 = .ok (.iadd, 1) := by decide +kernel
theorem d_Mo_of_19 : decode c_Mo_of 19 = .ok (.iaload, 1) := by decide +kernel
theorem d_Mo_of_20 : decode c_Mo_of 20 = .ok (.ireturn, 1) := by decide +kernel
theorem d_Mo_badField_0 : decode c_Mo_badField 0 = .ok (.iload_n 1, 1) := by decide +kernel
theorem d_Mo_badField_1 : decode c_Mo_badField 1 = .ok (.iconst 1, 1) := by decide +kernel
theorem d_Mo_badField_2 : decode c_Mo_badField 2 = .ok (.aload_n 0, 1) := by decide +kernel
theorem d_Mo_badField_3 : decode c_Mo_badField 3 = .ok (.getfield 102, 3) := by decide +kernel
theorem d_Mo_badField_6 : decode c_Mo_badField 6 = .ok (.invokestatic 105, 3) := by decide +kernel
theorem d_Mo_badField_9 : decode c_Mo_badField 9 = .ok (.ifCond .eq 24, 3) := by decide +kernel
theorem d_Mo_badField_12 : decode c_Mo_badField 12 = .ok (.iload_n 2, 1) := by decide +kernel
theorem d_Mo_badField_13 : decode c_Mo_badField 13 = .ok (.iconst 0, 1) := by decide +kernel
theorem d_Mo_badField_14 : decode c_Mo_badField 14 = .ok (.aload_n 0, 1) := by decide +kernel
theorem d_Mo_badField_15 : decode c_Mo_badField 15 = .ok (.getfield 7, 3) := by decide +kernel
theorem d_Mo_badField_18 : decode c_Mo_badField 18 = .ok (.aload_n 0, 1) := by decide +kernel
theorem d_Mo_badField_19 : decode c_Mo_badField 19 = .ok (.getfield 16, 3) := by decide +kernel
theorem d_Mo_badField_22 : decode c_Mo_badField 22 = .ok (.iload_n 1, 1) := by decide +kernel
theorem d_Mo_badField_23 : decode c_Mo_badField 23 = .ok (.iaload, 1) := by decide +kernel
theorem d_Mo_badField_24 : decode c_Mo_badField 24 = .ok (.iaload, 1) := by decide +kernel
theorem d_Mo_badField_25 : decode c_Mo_badField 25 = .ok (.iconst 1, 1) := by decide +kernel
theorem d_Mo_badField_26 : decode c_Mo_badField 26 = .ok (.isub, 1) := by decide +kernel
theorem d_Mo_badField_27 : decode c_Mo_badField 27 = .ok (.invokestatic 105, 3) := by decide +kernel
theorem d_Mo_badField_30 : decode c_Mo_badField 30 = .ok (.ifCond .ne 7, 3) := by decide +kernel
theorem d_Mo_badField_33 : decode c_Mo_badField 33 = .ok (.iconst 1, 1) := by decide +kernel
theorem d_Mo_badField_34 : decode c_Mo_badField 34 = .ok (.goto 4, 3) := by decide +kernel
theorem d_Mo_badField_37 : decode c_Mo_badField 37 = .ok (.iconst 0, 1) := by decide +kernel
theorem d_Mo_badField_38 : decode c_Mo_badField 38 = .ok (.ireturn, 1) := by decide +kernel
theorem d_Mo_put_0 : decode c_Mo_put 0 = .ok (.aload_n 0, 1) := by decide +kernel
theorem d_Mo_put_1 : decode c_Mo_put 1 = .ok (.iload_n 1, 1) := by decide +kernel
theorem d_Mo_put_2 : decode c_Mo_put 2 = .ok (.iload_n 2, 1) := by decide +kernel
theorem d_Mo_put_3 : decode c_Mo_put 3 = .ok (.invokevirtual 109, 3) := by decide +kernel
theorem d_Mo_put_6 : decode c_Mo_put 6 = .ok (.ifCond .ne 24, 3) := by decide +kernel
theorem d_Mo_put_9 : decode c_Mo_put 9 = .ok (.iload_n 3, 1) := by decide +kernel
theorem d_Mo_put_10 : decode c_Mo_put 10 = .ok (.iconst 0, 1) := by decide +kernel
theorem d_Mo_put_11 : decode c_Mo_put 11 = .ok (.sipush 999, 3) := by decide +kernel
theorem d_Mo_put_14 : decode c_Mo_put 14 = .ok (.invokestatic 105, 3) := by decide +kernel
theorem d_Mo_put_17 : decode c_Mo_put 17 = .ok (.ifCond .eq 13, 3) := by decide +kernel
theorem d_Mo_put_20 : decode c_Mo_put 20 = .ok (.aload_n 0, 1) := by decide +kernel
theorem d_Mo_put_21 : decode c_Mo_put 21 = .ok (.iload_n 1, 1) := by decide +kernel
theorem d_Mo_put_22 : decode c_Mo_put 22 = .ok (.iload_n 2, 1) := by decide +kernel
theorem d_Mo_put_23 : decode c_Mo_put 23 = .ok (.iconst 0, 1) := by decide +kernel
theorem d_Mo_put_24 : decode c_Mo_put 24 = .ok (.invokevirtual 113, 3) := by decide +kernel
theorem d_Mo_put_27 : decode c_Mo_put 27 = .ok (.ifCond .eq 5, 3) := by decide +kernel
theorem d_Mo_put_30 : decode c_Mo_put 30 = .ok (.iconst (-1), 1) := by decide +kernel
theorem d_Mo_put_31 : decode c_Mo_put 31 = .ok (.ireturn, 1) := by decide +kernel
theorem d_Mo_put_32 : decode c_Mo_put 32 = .ok (.aload_n 0, 1) := by decide +kernel
theorem d_Mo_put_33 : decode c_Mo_put 33 = .ok (.getfield 19, 3) := by decide +kernel
theorem d_Mo_put_36 : decode c_Mo_put 36 = .ok (.iconst 4, 1) := by decide +kernel
theorem d_Mo_put_37 : decode c_Mo_put 37 = .ok (.iload_n 1, 1) := by decide +kernel
theorem d_Mo_put_38 : decode c_Mo_put 38 = .ok (.imul, 1) := by decide +kernel
theorem d_Mo_put_39 : decode c_Mo_put 39 = .ok (.iload_n 2, 1) := by decide +kernel
theorem d_Mo_put_40 : decode c_Mo_put 40 = .ok (.iadd, 1) := by decide +kernel
theorem d_Mo_put_41 : decode c_Mo_put 41 = .ok (.iconst 1, 1) := by decide +kernel
theorem d_Mo_put_42 : decode c_Mo_put 42 = .ok (.iastore, 1) := by decide +kernel
theorem d_Mo_put_43 : decode c_Mo_put 43 = .ok (.aload_n 0, 1) := by decide +kernel
theorem d_Mo_put_44 : decode c_Mo_put 44 = .ok (.getfield 22, 3) := by decide +kernel
theorem d_Mo_put_47 : decode c_Mo_put 47 = .ok (.bipush 16, 2) := by decide +kernel
theorem d_Mo_put_49 : decode c_Mo_put 49 = .ok (.iload_n 1, 1) := by decide +kernel
theorem d_Mo_put_50 : decode c_Mo_put 50 = .ok (.imul, 1) := by decide +kernel
theorem d_Mo_put_51 : decode c_Mo_put 51 = .ok (.iconst 4, 1) := by decide +kernel
theorem d_Mo_put_52 : decode c_Mo_put 52 = .ok (.iload_n 2, 1) := by decide +kernel
theorem d_Mo_put_53 : decode c_Mo_put 53 = .ok (.imul, 1) := by decide +kernel
theorem d_Mo_put_54 : decode c_Mo_put 54 = .ok (.iadd, 1) := by decide +kernel
theorem d_Mo_put_55 : decode c_Mo_put 55 = .ok (.iload_n 3, 1) := by decide +kernel
theorem d_Mo_put_56 : decode c_Mo_put 56 = .ok (.iastore, 1) := by decide +kernel
theorem d_Mo_put_57 : decode c_Mo_put 57 = .ok (.iconst 0, 1) := by decide +kernel
theorem d_Mo_put_58 : decode c_Mo_put 58 = .ok (.ireturn, 1) := by decide +kernel
theorem d_Mo_link_0 : decode c_Mo_link 0 = .ok (.aload_n 0, 1) := by decide +kernel
theorem d_Mo_link_1 : decode c_Mo_link 1 = .ok (.iload_n 1, 1) := by decide +kernel
theorem d_Mo_link_2 : decode c_Mo_link 2 = .ok (.iload_n 2, 1) := by decide +kernel
theorem d_Mo_link_3 : decode c_Mo_link 3 = .ok (.invokevirtual 109, 3) := by decide +kernel
theorem d_Mo_link_6 : decode c_Mo_link 6 = .ok (.ifCond .ne 25, 3) := by decide +kernel
theorem d_Mo_link_9 : decode c_Mo_link 9 = .ok (.iload_n 3, 1) := by decide +kernel
theorem d_Mo_link_10 : decode c_Mo_link 10 = .ok (.iconst 1, 1) := by decide +kernel
theorem d_Mo_link_11 : decode c_Mo_link 11 = .ok (.aload_n 0, 1) := by decide +kernel
theorem d_Mo_link_12 : decode c_Mo_link 12 = .ok (.getfield 102, 3) := by decide +kernel
theorem d_Mo_link_15 : decode c_Mo_link 15 = .ok (.invokestatic 105, 3) := by decide +kernel
theorem d_Mo_link_18 : decode c_Mo_link 18 = .ok (.ifCond .eq 13, 3) := by decide +kernel
theorem d_Mo_link_21 : decode c_Mo_link 21 = .ok (.aload_n 0, 1) := by decide +kernel
theorem d_Mo_link_22 : decode c_Mo_link 22 = .ok (.iload_n 1, 1) := by decide +kernel
theorem d_Mo_link_23 : decode c_Mo_link 23 = .ok (.iload_n 2, 1) := by decide +kernel
theorem d_Mo_link_24 : decode c_Mo_link 24 = .ok (.iconst 0, 1) := by decide +kernel
theorem d_Mo_link_25 : decode c_Mo_link 25 = .ok (.invokevirtual 113, 3) := by decide +kernel
theorem d_Mo_link_28 : decode c_Mo_link 28 = .ok (.ifCond .ne 5, 3) := by decide +kernel
theorem d_Mo_link_31 : decode c_Mo_link 31 = .ok (.iconst (-1), 1) := by decide +kernel
theorem d_Mo_link_32 : decode c_Mo_link 32 = .ok (.ireturn, 1) := by decide +kernel
theorem d_Mo_link_33 : decode c_Mo_link 33 = .ok (.aload_n 0, 1) := by decide +kernel
theorem d_Mo_link_34 : decode c_Mo_link 34 = .ok (.iload_n 1, 1) := by decide +kernel
theorem d_Mo_link_35 : decode c_Mo_link 35 = .ok (.iload_n 2, 1) := by decide +kernel
theorem d_Mo_link_36 : decode c_Mo_link 36 = .ok (.iconst 1, 1) := by decide +kernel
theorem d_Mo_link_37 : decode c_Mo_link 37 = .ok (.invokevirtual 113, 3) := by decide +kernel
theorem d_Mo_link_40 : decode c_Mo_link 40 = .ok (.istore 4, 2) := by decide +kernel
theorem d_Mo_link_42 : decode c_Mo_link 42 = .ok (.iload 4, 2) := by decide +kernel
theorem d_Mo_link_44 : decode c_Mo_link 44 = .ok (.iconst 5, 1) := by decide +kernel
theorem d_Mo_link_45 : decode c_Mo_link 45 = .ok (.if_icmp .eq 16, 3) := by decide +kernel
theorem d_Mo_link_48 : decode c_Mo_link 48 = .ok (.iload 4, 2) := by decide +kernel
theorem d_Mo_link_50 : decode c_Mo_link 50 = .ok (.aload_n 0, 1) := by decide +kernel
theorem d_Mo_link_51 : decode c_Mo_link 51 = .ok (.getfield 16, 3) := by decide +kernel
theorem d_Mo_link_54 : decode c_Mo_link 54 = .ok (.iload_n 3, 1) := by decide +kernel
theorem d_Mo_link_55 : decode c_Mo_link 55 = .ok (.iaload, 1) := by decide +kernel
theorem d_Mo_link_56 : decode c_Mo_link 56 = .ok (.if_icmp .eq 5, 3) := by decide +kernel
theorem d_Mo_link_59 : decode c_Mo_link 59 = .ok (.iconst (-1), 1) := by decide +kernel
theorem d_Mo_link_60 : decode c_Mo_link 60 = .ok (.ireturn, 1) := by decide +kernel
theorem d_Mo_link_61 : decode c_Mo_link 61 = .ok (.iconst 4, 1) := by decide +kernel
theorem d_Mo_link_62 : decode c_Mo_link 62 = .ok (.iload_n 1, 1) := by decide +kernel
theorem d_Mo_link_63 : decode c_Mo_link 63 = .ok (.imul, 1) := by decide +kernel
theorem d_Mo_link_64 : decode c_Mo_link 64 = .ok (.iload_n 2, 1) := by decide +kernel
theorem d_Mo_link_65 : decode c_Mo_link 65 = .ok (.iadd, 1) := by decide +kernel
theorem d_Mo_link_66 : decode c_Mo_link 66 = .ok (.istore 5, 2) := by decide +kernel
theorem d_Mo_link_68 : decode c_Mo_link 68 = .ok (.aload_n 0, 1) := by decide +kernel
theorem d_Mo_link_69 : decode c_Mo_link 69 = .ok (.iload_n 1, 1) := by decide +kernel
theorem d_Mo_link_70 : decode c_Mo_link 70 = .ok (.iload_n 2, 1) := by decide +kernel
theorem d_Mo_link_71 : decode c_Mo_link 71 = .ok (.iconst 0, 1) := by decide +kernel
theorem d_Mo_link_72 : decode c_Mo_link 72 = .ok (.invokevirtual 113, 3) := by decide +kernel
theorem d_Mo_link_75 : decode c_Mo_link 75 = .ok (.iconst 2, 1) := by decide +kernel
theorem d_Mo_link_76 : decode c_Mo_link 76 = .ok (.if_icmp .ne 13, 3) := by decide +kernel
theorem d_Mo_link_79 : decode c_Mo_link 79 = .ok (.aload_n 0, 1) := by decide +kernel
theorem d_Mo_link_80 : decode c_Mo_link 80 = .ok (.getfield 19, 3) := by decide +kernel
theorem d_Mo_link_83 : decode c_Mo_link 83 = .ok (.iload 5, 2) := by decide +kernel
theorem d_Mo_link_85 : decode c_Mo_link 85 = .ok (.iaload, 1) := by decide +kernel
theorem d_Mo_link_86 : decode c_Mo_link 86 = .ok (.goto 4, 3) := by decide +kernel
theorem d_Mo_link_89 : decode c_Mo_link 89 = .ok (.iconst 0, 1) := by decide +kernel
theorem d_Mo_link_90 : decode c_Mo_link 90 = .ok (.istore 6, 2) := by decide +kernel
theorem d_Mo_link_92 : decode c_Mo_link 92 = .ok (.iload 6, 2) := by decide +kernel
theorem d_Mo_link_94 : decode c_Mo_link 94 = .ok (.iconst 4, 1) := by decide +kernel
theorem d_Mo_link_95 : decode c_Mo_link 95 = .ok (.if_icmp .ne 6, 3) := by decide +kernel
theorem d_Mo_link_98 : decode c_Mo_link 98 = .ok (.bipush (-2), 2) := by decide +kernel
theorem d_Mo_link_100 : decode c_Mo_link 100 = .ok (.ireturn, 1) := by decide +kernel
theorem d_Mo_link_101 : decode c_Mo_link 101 = .ok (.aload_n 0, 1) := by decide +kernel
theorem d_Mo_link_102 : decode c_Mo_link 102 = .ok (.getfield 22, 3) := by decide +kernel
theorem d_Mo_link_105 : decode c_Mo_link 105 = .ok (.iconst 4, 1) := by decide +kernel
theorem d_Mo_link_106 : decode c_Mo_link 106 = .ok (.iload 5, 2) := by decide +kernel
theorem d_Mo_link_108 : decode c_Mo_link 108 = .ok (.imul, 1) := by decide +kernel
theorem d_Mo_link_109 : decode c_Mo_link 109 = .ok (.iload 6, 2) := by decide +kernel
theorem d_Mo_link_111 : decode c_Mo_link 111 = .ok (.iadd, 1) := by decide +kernel
theorem d_Mo_link_112 : decode c_Mo_link 112 = .ok (.iload_n 3, 1) := by decide +kernel
theorem d_Mo_link_113 : decode c_Mo_link 113 = .ok (.iastore, 1) := by decide +kernel
theorem d_Mo_link_114 : decode c_Mo_link 114 = .ok (.aload_n 0, 1) := by decide +kernel
theorem d_Mo_link_115 : decode c_Mo_link 115 = .ok (.getfield 19, 3) := by decide +kernel
theorem d_Mo_link_118 : decode c_Mo_link 118 = .ok (.iload 5, 2) := by decide +kernel
theorem d_Mo_link_120 : decode c_Mo_link 120 = .ok (.iload 6, 2) := by decide +kernel
theorem d_Mo_link_122 : decode c_Mo_link 122 = .ok (.iconst 1, 1) := by decide +kernel
theorem d_Mo_link_123 : decode c_Mo_link 123 = .ok (.iadd, 1) := by decide +kernel
theorem d_Mo_link_124 : decode c_Mo_link 124 = .ok (.iastore, 1) := by decide +kernel
theorem d_Mo_link_125 : decode c_Mo_link 125 = .ok (.iload 6, 2) := by decide +kernel
theorem d_Mo_link_127 : decode c_Mo_link 127 = .ok (.iconst 1, 1) := by decide +kernel
theorem d_Mo_link_128 : decode c_Mo_link 128 = .ok (.iadd, 1) := by decide +kernel
theorem d_Mo_link_129 : decode c_Mo_link 129 = .ok (.ireturn, 1) := by decide +kernel
theorem d_Mo_clear_0 : decode c_Mo_clear 0 = .ok (.aload_n 0, 1) := by decide +kernel
theorem d_Mo_clear_1 : decode c_Mo_clear 1 = .ok (.iload_n 1, 1) := by decide +kernel
theorem d_Mo_clear_2 : decode c_Mo_clear 2 = .ok (.iload_n 2, 1) := by decide +kernel
theorem d_Mo_clear_3 : decode c_Mo_clear 3 = .ok (.invokevirtual 109, 3) := by decide +kernel
theorem d_Mo_clear_6 : decode c_Mo_clear 6 = .ok (.ifCond .eq 5, 3) := by decide +kernel
theorem d_Mo_clear_9 : decode c_Mo_clear 9 = .ok (.iconst (-1), 1) := by decide +kernel
theorem d_Mo_clear_10 : decode c_Mo_clear 10 = .ok (.ireturn, 1) := by decide +kernel
theorem d_Mo_clear_11 : decode c_Mo_clear 11 = .ok (.aload_n 0, 1) := by decide +kernel
theorem d_Mo_clear_12 : decode c_Mo_clear 12 = .ok (.getfield 19, 3) := by decide +kernel
theorem d_Mo_clear_15 : decode c_Mo_clear 15 = .ok (.iconst 4, 1) := by decide +kernel
theorem d_Mo_clear_16 : decode c_Mo_clear 16 = .ok (.iload_n 1, 1) := by decide +kernel
theorem d_Mo_clear_17 : decode c_Mo_clear 17 = .ok (.imul, 1) := by decide +kernel
theorem d_Mo_clear_18 : decode c_Mo_clear 18 = .ok (.iload_n 2, 1) := by decide +kernel
theorem d_Mo_clear_19 : decode c_Mo_clear 19 = .ok (.iadd, 1) := by decide +kernel
theorem d_Mo_clear_20 : decode c_Mo_clear 20 = .ok (.iconst 0, 1) := by decide +kernel
theorem d_Mo_clear_21 : decode c_Mo_clear 21 = .ok (.iastore, 1) := by decide +kernel
theorem d_Mo_clear_22 : decode c_Mo_clear 22 = .ok (.iconst 0, 1) := by decide +kernel
theorem d_Mo_clear_23 : decode c_Mo_clear 23 = .ok (.ireturn, 1) := by decide +kernel
theorem d_Mo_set_0 : decode c_Mo_set 0 = .ok (.iload_n 1, 1) := by decide +kernel
theorem d_Mo_set_1 : decode c_Mo_set 1 = .ok (.iconst 0, 1) := by decide +kernel
theorem d_Mo_set_2 : decode c_Mo_set 2 = .ok (.iconst 3, 1) := by decide +kernel
theorem d_Mo_set_3 : decode c_Mo_set 3 = .ok (.invokestatic 105, 3) := by decide +kernel
theorem d_Mo_set_6 : decode c_Mo_set 6 = .ok (.ifCond .eq 12, 3) := by decide +kernel
theorem d_Mo_set_9 : decode c_Mo_set 9 = .ok (.iload_n 2, 1) := by decide +kernel
theorem d_Mo_set_10 : decode c_Mo_set 10 = .ok (.iconst 0, 1) := by decide +kernel
theorem d_Mo_set_11 : decode c_Mo_set 11 = .ok (.iconst 1, 1) := by decide +kernel
theorem d_Mo_set_12 : decode c_Mo_set 12 = .ok (.invokestatic 105, 3) := by decide +kernel
theorem d_Mo_set_15 : decode c_Mo_set 15 = .ok (.ifCond .ne 5, 3) := by decide +kernel
theorem d_Mo_set_18 : decode c_Mo_set 18 = .ok (.iconst (-1), 1) := by decide +kernel
theorem d_Mo_set_19 : decode c_Mo_set 19 = .ok (.ireturn, 1) := by decide +kernel
theorem d_Mo_set_20 : decode c_Mo_set 20 = .ok (.aload_n 0, 1) := by decide +kernel
theorem d_Mo_set_21 : decode c_Mo_set 21 = .ok (.getfield 25, 3) := by decide +kernel
theorem d_Mo_set_24 : decode c_Mo_set 24 = .ok (.iload_n 1, 1) := by decide +kernel
theorem d_Mo_set_25 : decode c_Mo_set 25 = .ok (.iload_n 2, 1) := by decide +kernel
theorem d_Mo_set_26 : decode c_Mo_set 26 = .ok (.iastore, 1) := by decide +kernel
theorem d_Mo_set_27 : decode c_Mo_set 27 = .ok (.iconst 0, 1) := by decide +kernel
theorem d_Mo_set_28 : decode c_Mo_set 28 = .ok (.ireturn, 1) := by decide +kernel
theorem d_Mo_fits_0 : decode c_Mo_fits 0 = .ok (.iload_n 0, 1) := by decide +kernel
theorem d_Mo_fits_1 : decode c_Mo_fits 1 = .ok (.tableswitch 110 0 5 #[39, 39, 64, 72, 79, 103], 39) := by decide +kernel
theorem d_Mo_fits_40 : decode c_Mo_fits 40 = .ok (.iload_n 1, 1) := by decide +kernel
theorem d_Mo_fits_41 : decode c_Mo_fits 41 = .ok (.iconst 0, 1) := by decide +kernel
theorem d_Mo_fits_42 : decode c_Mo_fits 42 = .ok (.bipush 9, 2) := by decide +kernel
theorem d_Mo_fits_44 : decode c_Mo_fits 44 = .ok (.invokestatic 105, 3) := by decide +kernel
theorem d_Mo_fits_47 : decode c_Mo_fits 47 = .ok (.ifCond .eq 16, 3) := by decide +kernel
theorem d_Mo_fits_50 : decode c_Mo_fits 50 = .ok (.iload_n 2, 1) := by decide +kernel
theorem d_Mo_fits_51 : decode c_Mo_fits 51 = .ok (.iconst 0, 1) := by decide +kernel
theorem d_Mo_fits_52 : decode c_Mo_fits 52 = .ok (.iconst 3, 1) := by decide +kernel
theorem d_Mo_fits_53 : decode c_Mo_fits 53 = .ok (.invokestatic 105, 3) := by decide +kernel
theorem d_Mo_fits_56 : decode c_Mo_fits 56 = .ok (.ifCond .eq 7, 3) := by decide +kernel
theorem d_Mo_fits_59 : decode c_Mo_fits 59 = .ok (.iconst 1, 1) := by decide +kernel
theorem d_Mo_fits_60 : decode c_Mo_fits 60 = .ok (.goto 4, 3) := by decide +kernel
theorem d_Mo_fits_63 : decode c_Mo_fits 63 = .ok (.iconst 0, 1) := by decide +kernel
theorem d_Mo_fits_64 : decode c_Mo_fits 64 = .ok (.ireturn, 1) := by decide +kernel
theorem d_Mo_fits_65 : decode c_Mo_fits 65 = .ok (.iload_n 1, 1) := by decide +kernel
theorem d_Mo_fits_66 : decode c_Mo_fits 66 = .ok (.iconst 0, 1) := by decide +kernel
theorem d_Mo_fits_67 : decode c_Mo_fits 67 = .ok (.bipush 9, 2) := by decide +kernel
theorem d_Mo_fits_69 : decode c_Mo_fits 69 = .ok (.invokestatic 105, 3) := by decide +kernel
theorem d_Mo_fits_72 : decode c_Mo_fits 72 = .ok (.ireturn, 1) := by decide +kernel
theorem d_Mo_fits_73 : decode c_Mo_fits 73 = .ok (.iload_n 1, 1) := by decide +kernel
theorem d_Mo_fits_74 : decode c_Mo_fits 74 = .ok (.iconst 0, 1) := by decide +kernel
theorem d_Mo_fits_75 : decode c_Mo_fits 75 = .ok (.iconst 4, 1) := by decide +kernel
theorem d_Mo_fits_76 : decode c_Mo_fits 76 = .ok (.invokestatic 105, 3) := by decide +kernel
theorem d_Mo_fits_79 : decode c_Mo_fits 79 = .ok (.ireturn, 1) := by decide +kernel
theorem d_Mo_fits_80 : decode c_Mo_fits 80 = .ok (.iload_n 1, 1) := by decide +kernel
theorem d_Mo_fits_81 : decode c_Mo_fits 81 = .ok (.iconst 0, 1) := by decide +kernel
theorem d_Mo_fits_82 : decode c_Mo_fits 82 = .ok (.iconst 3, 1) := by decide +kernel
theorem d_Mo_fits_83 : decode c_Mo_fits 83 = .ok (.invokestatic 105, 3) := by decide +kernel
theorem d_Mo_fits_86 : decode c_Mo_fits 86 = .ok (.ifCond .eq 16, 3) := by decide +kernel
theorem d_Mo_fits_89 : decode c_Mo_fits 89 = .ok (.iload_n 2, 1) := by decide +kernel
theorem d_Mo_fits_90 : decode c_Mo_fits 90 = .ok (.iconst 0, 1) := by decide +kernel
theorem d_Mo_fits_91 : decode c_Mo_fits 91 = .ok (.iconst 1, 1) := by decide +kernel
theorem d_Mo_fits_92 : decode c_Mo_fits 92 = .ok (.invokestatic 105, 3) := by decide +kernel
theorem d_Mo_fits_95 : decode c_Mo_fits 95 = .ok (.ifCond .eq 7, 3) := by decide +kernel
theorem d_Mo_fits_98 : decode c_Mo_fits 98 = .ok (.iconst 1, 1) := by decide +kernel
theorem d_Mo_fits_99 : decode c_Mo_fits 99 = .ok (.goto 4, 3) := by decide +kernel
theorem d_Mo_fits_102 : decode c_Mo_fits 102 = .ok (.iconst 0, 1) := by decide +kernel
theorem d_Mo_fits_103 : decode c_Mo_fits 103 = .ok (.ireturn, 1) := by decide +kernel
theorem d_Mo_fits_104 : decode c_Mo_fits 104 = .ok (.iload_n 1, 1) := by decide +kernel
theorem d_Mo_fits_105 : decode c_Mo_fits 105 = .ok (.iconst 1, 1) := by decide +kernel
theorem d_Mo_fits_106 : decode c_Mo_fits 106 = .ok (.iconst 3, 1) := by decide +kernel
theorem d_Mo_fits_107 : decode c_Mo_fits 107 = .ok (.invokestatic 105, 3) := by decide +kernel
theorem d_Mo_fits_110 : decode c_Mo_fits 110 = .ok (.ireturn, 1) := by decide +kernel
theorem d_Mo_fits_111 : decode c_Mo_fits 111 = .ok (.iload_n 0, 1) := by decide +kernel
theorem d_Mo_fits_112 : decode c_Mo_fits 112 = .ok (.bipush 6, 2) := by decide +kernel
theorem d_Mo_fits_114 : decode c_Mo_fits 114 = .ok (.if_icmp .ne 7, 3) := by decide +kernel
theorem d_Mo_fits_117 : decode c_Mo_fits 117 = .ok (.iconst 1, 1) := by decide +kernel
theorem d_Mo_fits_118 : decode c_Mo_fits 118 = .ok (.goto 4, 3) := by decide +kernel
theorem d_Mo_fits_121 : decode c_Mo_fits 121 = .ok (.iconst 0, 1) := by decide +kernel
theorem d_Mo_fits_122 : decode c_Mo_fits 122 = .ok (.ireturn, 1) := by decide +kernel
theorem d_Mo_token_0 : decode c_Mo_token 0 = .ok (.iload_n 1, 1) := by decide +kernel
theorem d_Mo_token_1 : decode c_Mo_token 1 = .ok (.iconst 0, 1) := by decide +kernel
theorem d_Mo_token_2 : decode c_Mo_token 2 = .ok (.iconst 3, 1) := by decide +kernel
theorem d_Mo_token_3 : decode c_Mo_token 3 = .ok (.invokestatic 105, 3) := by decide +kernel
theorem d_Mo_token_6 : decode c_Mo_token 6 = .ok (.ifCond .eq 13, 3) := by decide +kernel
theorem d_Mo_token_9 : decode c_Mo_token 9 = .ok (.iload_n 2, 1) := by decide +kernel
theorem d_Mo_token_10 : decode c_Mo_token 10 = .ok (.iload_n 3, 1) := by decide +kernel
theorem d_Mo_token_11 : decode c_Mo_token 11 = .ok (.iload 4, 2) := by decide +kernel
theorem d_Mo_token_13 : decode c_Mo_token 13 = .ok (.invokestatic 117, 3) := by decide +kernel
theorem d_Mo_token_16 : decode c_Mo_token 16 = .ok (.ifCond .ne 5, 3) := by decide +kernel
theorem d_Mo_token_19 : decode c_Mo_token 19 = .ok (.iconst (-1), 1) := by decide +kernel
theorem d_Mo_token_20 : decode c_Mo_token 20 = .ok (.ireturn, 1) := by decide +kernel
theorem d_Mo_token_21 : decode c_Mo_token 21 = .ok (.aload_n 0, 1) := by decide +kernel
theorem d_Mo_token_22 : decode c_Mo_token 22 = .ok (.getfield 28, 3) := by decide +kernel
theorem d_Mo_token_25 : decode c_Mo_token 25 = .ok (.iload_n 1, 1) := by decide +kernel
theorem d_Mo_token_26 : decode c_Mo_token 26 = .ok (.iaload, 1) := by decide +kernel
theorem d_Mo_token_27 : decode c_Mo_token 27 = .ok (.bipush 16, 2) := by decide +kernel
theorem d_Mo_token_29 : decode c_Mo_token 29 = .ok (.if_icmp .ne 6, 3) := by decide +kernel
theorem d_Mo_token_32 : decode c_Mo_token 32 = .ok (.bipush (-2), 2) := by decide +kernel
theorem d_Mo_token_34 : decode c_Mo_token 34 = .ok (.ireturn, 1) := by decide +kernel
theorem d_Mo_token_35 : decode c_Mo_token 35 = .ok (.bipush 16, 2) := by decide +kernel
theorem d_Mo_token_37 : decode c_Mo_token 37 = .ok (.iload_n 1, 1) := by decide +kernel
theorem d_Mo_token_38 : decode c_Mo_token 38 = .ok (.imul, 1) := by decide +kernel
theorem d_Mo_token_39 : decode c_Mo_token 39 = .ok (.aload_n 0, 1) := by decide +kernel
theorem d_Mo_token_40 : decode c_Mo_token 40 = .ok (.getfield 28, 3) := by decide +kernel
theorem d_Mo_token_43 : decode c_Mo_token 43 = .ok (.iload_n 1, 1) := by decide +kernel
theorem d_Mo_token_44 : decode c_Mo_token 44 = .ok (.iaload, 1) := by decide +kernel
theorem d_Mo_token_45 : decode c_Mo_token 45 = .ok (.iadd, 1) := by decide +kernel
theorem d_Mo_token_46 : decode c_Mo_token 46 = .ok (.istore 5, 2) := by decide +kernel
theorem d_Mo_token_48 : decode c_Mo_token 48 = .ok (.aload_n 0, 1) := by decide +kernel
theorem d_Mo_token_49 : decode c_Mo_token 49 = .ok (.getfield 31, 3) := by decide +kernel
theorem d_Mo_token_52 : decode c_Mo_token 52 = .ok (.iload 5, 2) := by decide +kernel
theorem d_Mo_token_54 : decode c_Mo_token 54 = .ok (.iload_n 2, 1) := by decide +kernel
theorem d_Mo_token_55 : decode c_Mo_token 55 = .ok (.iastore, 1) := by decide +kernel
theorem d_Mo_token_56 : decode c_Mo_token 56 = .ok (.aload_n 0, 1) := by decide +kernel
theorem d_Mo_token_57 : decode c_Mo_token 57 = .ok (.getfield 34, 3) := by decide +kernel
theorem d_Mo_token_60 : decode c_Mo_token 60 = .ok (.iload 5, 2) := by decide +kernel
theorem d_Mo_token_62 : decode c_Mo_token 62 = .ok (.iload_n 3, 1) := by decide +kernel
theorem d_Mo_token_63 : decode c_Mo_token 63 = .ok (.iastore, 1) := by decide +kernel
theorem d_Mo_token_64 : decode c_Mo_token 64 = .ok (.aload_n 0, 1) := by decide +kernel
theorem d_Mo_token_65 : decode c_Mo_token 65 = .ok (.getfield 37, 3) := by decide +kernel
theorem d_Mo_token_68 : decode c_Mo_token 68 = .ok (.iload 5, 2) := by decide +kernel
theorem d_Mo_token_70 : decode c_Mo_token 70 = .ok (.iload 4, 2) := by decide +kernel
theorem d_Mo_token_72 : decode c_Mo_token 72 = .ok (.iastore, 1) := by decide +kernel
theorem d_Mo_token_73 : decode c_Mo_token 73 = .ok (.aload_n 0, 1) := by decide +kernel
theorem d_Mo_token_74 : decode c_Mo_token 74 = .ok (.getfield 28, 3) := by decide +kernel
theorem d_Mo_token_77 : decode c_Mo_token 77 = .ok (.iload_n 1, 1) := by decide +kernel
theorem d_Mo_token_78 : decode c_Mo_token 78 = .ok (.dup2, 1) := by decide +kernel
theorem d_Mo_token_79 : decode c_Mo_token 79 = .ok (.iaload, 1) := by decide +kernel
theorem d_Mo_token_80 : decode c_Mo_token 80 = .ok (.iconst 1, 1) := by decide +kernel
theorem d_Mo_token_81 : decode c_Mo_token 81 = .ok (.iadd, 1) := by decide +kernel
theorem d_Mo_token_82 : decode c_Mo_token 82 = .ok (.iastore, 1) := by decide +kernel
theorem d_Mo_token_83 : decode c_Mo_token 83 = .ok (.aload_n 0, 1) := by decide +kernel
theorem d_Mo_token_84 : decode c_Mo_token 84 = .ok (.getfield 28, 3) := by decide +kernel
theorem d_Mo_token_87 : decode c_Mo_token 87 = .ok (.iload_n 1, 1) := by decide +kernel
theorem d_Mo_token_88 : decode c_Mo_token 88 = .ok (.iaload, 1) := by decide +kernel
theorem d_Mo_token_89 : decode c_Mo_token 89 = .ok (.ireturn, 1) := by decide +kernel
theorem d_Mo_wipe_0 : decode c_Mo_wipe 0 = .ok (.iload_n 1, 1) := by decide +kernel
theorem d_Mo_wipe_1 : decode c_Mo_wipe 1 = .ok (.iconst 0, 1) := by decide +kernel
theorem d_Mo_wipe_2 : decode c_Mo_wipe 2 = .ok (.iconst 3, 1) := by decide +kernel
theorem d_Mo_wipe_3 : decode c_Mo_wipe 3 = .ok (.invokestatic 105, 3) := by decide +kernel
theorem d_Mo_wipe_6 : decode c_Mo_wipe 6 = .ok (.ifCond .ne 5, 3) := by decide +kernel
theorem d_Mo_wipe_9 : decode c_Mo_wipe 9 = .ok (.iconst (-1), 1) := by decide +kernel
theorem d_Mo_wipe_10 : decode c_Mo_wipe 10 = .ok (.ireturn, 1) := by decide +kernel
theorem d_Mo_wipe_11 : decode c_Mo_wipe 11 = .ok (.aload_n 0, 1) := by decide +kernel
theorem d_Mo_wipe_12 : decode c_Mo_wipe 12 = .ok (.getfield 28, 3) := by decide +kernel
theorem d_Mo_wipe_15 : decode c_Mo_wipe 15 = .ok (.iload_n 1, 1) := by decide +kernel
theorem d_Mo_wipe_16 : decode c_Mo_wipe 16 = .ok (.iaload, 1) := by decide +kernel
theorem d_Mo_wipe_17 : decode c_Mo_wipe 17 = .ok (.istore_n 2, 1) := by decide +kernel
theorem d_Mo_wipe_18 : decode c_Mo_wipe 18 = .ok (.aload_n 0, 1) := by decide +kernel
theorem d_Mo_wipe_19 : decode c_Mo_wipe 19 = .ok (.getfield 28, 3) := by decide +kernel
theorem d_Mo_wipe_22 : decode c_Mo_wipe 22 = .ok (.iload_n 1, 1) := by decide +kernel
theorem d_Mo_wipe_23 : decode c_Mo_wipe 23 = .ok (.iconst 0, 1) := by decide +kernel
theorem d_Mo_wipe_24 : decode c_Mo_wipe 24 = .ok (.iastore, 1) := by decide +kernel
theorem d_Mo_wipe_25 : decode c_Mo_wipe 25 = .ok (.iload_n 2, 1) := by decide +kernel
theorem d_Mo_wipe_26 : decode c_Mo_wipe 26 = .ok (.ireturn, 1) := by decide +kernel
theorem d_Mo_opens_0 : decode c_Mo_opens 0 = .ok (.aload_n 0, 1) := by decide +kernel
theorem d_Mo_opens_1 : decode c_Mo_opens 1 = .ok (.getfield 31, 3) := by decide +kernel
theorem d_Mo_opens_4 : decode c_Mo_opens 4 = .ok (.iload_n 1, 1) := by decide +kernel
theorem d_Mo_opens_5 : decode c_Mo_opens 5 = .ok (.iaload, 1) := by decide +kernel
theorem d_Mo_opens_6 : decode c_Mo_opens 6 = .ok (.iconst 1, 1) := by decide +kernel
theorem d_Mo_opens_7 : decode c_Mo_opens 7 = .ok (.if_icmp .eq 23, 3) := by decide +kernel
theorem d_Mo_opens_10 : decode c_Mo_opens 10 = .ok (.aload_n 0, 1) := by decide +kernel
theorem d_Mo_opens_11 : decode c_Mo_opens 11 = .ok (.getfield 31, 3) := by decide +kernel
theorem d_Mo_opens_14 : decode c_Mo_opens 14 = .ok (.iload_n 1, 1) := by decide +kernel
theorem d_Mo_opens_15 : decode c_Mo_opens 15 = .ok (.iaload, 1) := by decide +kernel
theorem d_Mo_opens_16 : decode c_Mo_opens 16 = .ok (.iconst 3, 1) := by decide +kernel
theorem d_Mo_opens_17 : decode c_Mo_opens 17 = .ok (.if_icmp .eq 13, 3) := by decide +kernel
theorem d_Mo_opens_20 : decode c_Mo_opens 20 = .ok (.aload_n 0, 1) := by decide +kernel
theorem d_Mo_opens_21 : decode c_Mo_opens 21 = .ok (.getfield 31, 3) := by decide +kernel
theorem d_Mo_opens_24 : decode c_Mo_opens 24 = .ok (.iload_n 1, 1) := by decide +kernel
theorem d_Mo_opens_25 : decode c_Mo_opens 25 = .ok (.iaload, 1) := by decide +kernel
theorem d_Mo_opens_26 : decode c_Mo_opens 26 = .ok (.iconst 4, 1) := by decide +kernel
theorem d_Mo_opens_27 : decode c_Mo_opens 27 = .ok (.if_icmp .ne 7, 3) := by decide +kernel
theorem d_Mo_opens_30 : decode c_Mo_opens 30 = .ok (.iconst 1, 1) := by decide +kernel
theorem d_Mo_opens_31 : decode c_Mo_opens 31 = .ok (.goto 4, 3) := by decide +kernel
theorem d_Mo_opens_34 : decode c_Mo_opens 34 = .ok (.iconst 0, 1) := by decide +kernel
theorem d_Mo_opens_35 : decode c_Mo_opens 35 = .ok (.ireturn, 1) := by decide +kernel
theorem d_Mo_good_0 : decode c_Mo_good 0 = .ok (.iconst 1, 1) := by decide +kernel
theorem d_Mo_good_1 : decode c_Mo_good 1 = .ok (.istore_n 2, 1) := by decide +kernel
theorem d_Mo_good_2 : decode c_Mo_good 2 = .ok (.bipush 16, 2) := by decide +kernel
theorem d_Mo_good_4 : decode c_Mo_good 4 = .ok (.iload_n 1, 1) := by decide +kernel
theorem d_Mo_good_5 : decode c_Mo_good 5 = .ok (.imul, 1) := by decide +kernel
theorem d_Mo_good_6 : decode c_Mo_good 6 = .ok (.istore_n 3, 1) := by decide +kernel
theorem d_Mo_good_7 : decode c_Mo_good 7 = .ok (.iload_n 3, 1) := by decide +kernel
theorem d_Mo_good_8 : decode c_Mo_good 8 = .ok (.bipush 16, 2) := by decide +kernel
theorem d_Mo_good_10 : decode c_Mo_good 10 = .ok (.iload_n 1, 1) := by decide +kernel
theorem d_Mo_good_11 : decode c_Mo_good 11 = .ok (.imul, 1) := by decide +kernel
theorem d_Mo_good_12 : decode c_Mo_good 12 = .ok (.aload_n 0, 1) := by decide +kernel
theorem d_Mo_good_13 : decode c_Mo_good 13 = .ok (.getfield 28, 3) := by decide +kernel
theorem d_Mo_good_16 : decode c_Mo_good 16 = .ok (.iload_n 1, 1) := by decide +kernel
theorem d_Mo_good_17 : decode c_Mo_good 17 = .ok (.iaload, 1) := by decide +kernel
theorem d_Mo_good_18 : decode c_Mo_good 18 = .ok (.iadd, 1) := by decide +kernel
theorem d_Mo_good_19 : decode c_Mo_good 19 = .ok (.if_icmp .ge 53, 3) := by decide +kernel
theorem d_Mo_good_22 : decode c_Mo_good 22 = .ok (.iload_n 2, 1) := by decide +kernel
theorem d_Mo_good_23 : decode c_Mo_good 23 = .ok (.ifCond .eq 16, 3) := by decide +kernel
theorem d_Mo_good_26 : decode c_Mo_good 26 = .ok (.aload_n 0, 1) := by decide +kernel
theorem d_Mo_good_27 : decode c_Mo_good 27 = .ok (.iload_n 3, 1) := by decide +kernel
theorem d_Mo_good_28 : decode c_Mo_good 28 = .ok (.invokevirtual 120, 3) := by decide +kernel
theorem d_Mo_good_31 : decode c_Mo_good 31 = .ok (.ifCond .eq 10, 3) := by decide +kernel
theorem d_Mo_good_34 : decode c_Mo_good 34 = .ok (.iload_n 2, 1) := by decide +kernel
theorem d_Mo_good_35 : decode c_Mo_good 35 = .ok (.iconst 4, 1) := by decide +kernel
theorem d_Mo_good_36 : decode c_Mo_good 36 = .ok (.if_icmp .ne 5, 3) := by decide +kernel
theorem d_Mo_good_39 : decode c_Mo_good 39 = .ok (.iconst 0, 1) := by decide +kernel
theorem d_Mo_good_40 : decode c_Mo_good 40 = .ok (.ireturn, 1) := by decide +kernel
theorem d_Mo_good_41 : decode c_Mo_good 41 = .ok (.aload_n 0, 1) := by decide +kernel
theorem d_Mo_good_42 : decode c_Mo_good 42 = .ok (.iload_n 3, 1) := by decide +kernel
theorem d_Mo_good_43 : decode c_Mo_good 43 = .ok (.invokevirtual 120, 3) := by decide +kernel
theorem d_Mo_good_46 : decode c_Mo_good 46 = .ok (.ifCond .eq 6, 3) := by decide +kernel
theorem d_Mo_good_49 : decode c_Mo_good 49 = .ok (.iinc 2 1, 3) := by decide +kernel
theorem d_Mo_good_52 : decode c_Mo_good 52 = .ok (.aload_n 0, 1) := by decide +kernel
theorem d_Mo_good_53 : decode c_Mo_good 53 = .ok (.getfield 31, 3) := by decide +kernel
theorem d_Mo_good_56 : decode c_Mo_good 56 = .ok (.iload_n 3, 1) := by decide +kernel
theorem d_Mo_good_57 : decode c_Mo_good 57 = .ok (.iaload, 1) := by decide +kernel
theorem d_Mo_good_58 : decode c_Mo_good 58 = .ok (.bipush 6, 2) := by decide +kernel
theorem d_Mo_good_60 : decode c_Mo_good 60 = .ok (.if_icmp .ne 6, 3) := by decide +kernel
theorem d_Mo_good_63 : decode c_Mo_good 63 = .ok (.iinc 2 (-1), 3) := by decide +kernel
theorem d_Mo_good_66 : decode c_Mo_good 66 = .ok (.iinc 3 1, 3) := by decide +kernel
theorem d_Mo_good_69 : decode c_Mo_good 69 = .ok (.goto (-62), 3) := by decide +kernel
theorem d_Mo_good_72 : decode c_Mo_good 72 = .ok (.iload_n 2, 1) := by decide +kernel
theorem d_Mo_good_73 : decode c_Mo_good 73 = .ok (.ifCond .ne 7, 3) := by decide +kernel
theorem d_Mo_good_76 : decode c_Mo_good 76 = .ok (.iconst 1, 1) := by decide +kernel
theorem d_Mo_good_77 : decode c_Mo_good 77 = .ok (.goto 4, 3) := by decide +kernel
theorem d_Mo_good_80 : decode c_Mo_good 80 = .ok (.iconst 0, 1) := by decide +kernel
theorem d_Mo_good_81 : decode c_Mo_good 81 = .ok (.ireturn, 1) := by decide +kernel
theorem d_Mo_behind_0 : decode c_Mo_behind 0 = .ok (.iconst 1, 1) := by decide +kernel
theorem d_Mo_behind_1 : decode c_Mo_behind 1 = .ok (.istore_n 2, 1) := by decide +kernel
theorem d_Mo_behind_2 : decode c_Mo_behind 2 = .ok (.iload_n 1, 1) := by decide +kernel
theorem d_Mo_behind_3 : decode c_Mo_behind 3 = .ok (.istore_n 3, 1) := by decide +kernel
theorem d_Mo_behind_4 : decode c_Mo_behind 4 = .ok (.iload_n 2, 1) := by decide +kernel
theorem d_Mo_behind_5 : decode c_Mo_behind 5 = .ok (.ifCond .le 34, 3) := by decide +kernel
theorem d_Mo_behind_8 : decode c_Mo_behind 8 = .ok (.aload_n 0, 1) := by decide +kernel
theorem d_Mo_behind_9 : decode c_Mo_behind 9 = .ok (.iload_n 3, 1) := by decide +kernel
theorem d_Mo_behind_10 : decode c_Mo_behind 10 = .ok (.invokevirtual 120, 3) := by decide +kernel
theorem d_Mo_behind_13 : decode c_Mo_behind 13 = .ok (.ifCond .eq 6, 3) := by decide +kernel
theorem d_Mo_behind_16 : decode c_Mo_behind 16 = .ok (.iinc 2 1, 3) := by decide +kernel
theorem d_Mo_behind_19 : decode c_Mo_behind 19 = .ok (.aload_n 0, 1) := by decide +kernel
theorem d_Mo_behind_20 : decode c_Mo_behind 20 = .ok (.getfield 31, 3) := by decide +kernel
theorem d_Mo_behind_23 : decode c_Mo_behind 23 = .ok (.iload_n 3, 1) := by decide +kernel
theorem d_Mo_behind_24 : decode c_Mo_behind 24 = .ok (.iaload, 1) := by decide +kernel
theorem d_Mo_behind_25 : decode c_Mo_behind 25 = .ok (.bipush 6, 2) := by decide +kernel
theorem d_Mo_behind_27 : decode c_Mo_behind 27 = .ok (.if_icmp .ne 6, 3) := by decide +kernel
theorem d_Mo_behind_30 : decode c_Mo_behind 30 = .ok (.iinc 2 (-1), 3) := by decide +kernel
theorem d_Mo_behind_33 : decode c_Mo_behind 33 = .ok (.iinc 3 1, 3) := by decide +kernel
theorem d_Mo_behind_36 : decode c_Mo_behind 36 = .ok (.goto (-32), 3) := by decide +kernel
theorem d_Mo_behind_39 : decode c_Mo_behind 39 = .ok (.iload_n 3, 1) := by decide +kernel
theorem d_Mo_behind_40 : decode c_Mo_behind 40 = .ok (.ireturn, 1) := by decide +kernel
theorem d_Mo_fieldRight_0 : decode c_Mo_fieldRight 0 = .ok (.iload_n 1, 1) := by decide +kernel
theorem d_Mo_fieldRight_1 : decode c_Mo_fieldRight 1 = .ok (.iconst 5, 1) := by decide +kernel
theorem d_Mo_fieldRight_2 : decode c_Mo_fieldRight 2 = .ok (.if_icmp .eq 18, 3) := by decide +kernel
theorem d_Mo_fieldRight_5 : decode c_Mo_fieldRight 5 = .ok (.aload_n 0, 1) := by decide +kernel
theorem d_Mo_fieldRight_6 : decode c_Mo_fieldRight 6 = .ok (.getfield 37, 3) := by decide +kernel
theorem d_Mo_fieldRight_9 : decode c_Mo_fieldRight 9 = .ok (.iload_n 2, 1) := by decide +kernel
theorem d_Mo_fieldRight_10 : decode c_Mo_fieldRight 10 = .ok (.iaload, 1) := by decide +kernel
theorem d_Mo_fieldRight_11 : decode c_Mo_fieldRight 11 = .ok (.aload_n 0, 1) := by decide +kernel
theorem d_Mo_fieldRight_12 : decode c_Mo_fieldRight 12 = .ok (.getfield 7, 3) := by decide +kernel
theorem d_Mo_fieldRight_15 : decode c_Mo_fieldRight 15 = .ok (.iload_n 1, 1) := by decide +kernel
theorem d_Mo_fieldRight_16 : decode c_Mo_fieldRight 16 = .ok (.iaload, 1) := by decide +kernel
theorem d_Mo_fieldRight_17 : decode c_Mo_fieldRight 17 = .ok (.if_icmp .lt 5, 3) := by decide +kernel
theorem d_Mo_fieldRight_20 : decode c_Mo_fieldRight 20 = .ok (.iconst 0, 1) := by decide +kernel
theorem d_Mo_fieldRight_21 : decode c_Mo_fieldRight 21 = .ok (.ireturn, 1) := by decide +kernel
theorem d_Mo_fieldRight_22 : decode c_Mo_fieldRight 22 = .ok (.aload_n 0, 1) := by decide +kernel
theorem d_Mo_fieldRight_23 : decode c_Mo_fieldRight 23 = .ok (.getfield 13, 3) := by decide +kernel
theorem d_Mo_fieldRight_26 : decode c_Mo_fieldRight 26 = .ok (.bipush 12, 2) := by decide +kernel
theorem d_Mo_fieldRight_28 : decode c_Mo_fieldRight 28 = .ok (.iload_n 1, 1) := by decide +kernel
theorem d_Mo_fieldRight_29 : decode c_Mo_fieldRight 29 = .ok (.imul, 1) := by decide +kernel
theorem d_Mo_fieldRight_30 : decode c_Mo_fieldRight 30 = .ok (.iconst 3, 1) := by decide +kernel
theorem d_Mo_fieldRight_31 : decode c_Mo_fieldRight 31 = .ok (.aload_n 0, 1) := by decide +kernel
theorem d_Mo_fieldRight_32 : decode c_Mo_fieldRight 32 = .ok (.getfield 37, 3) := by decide +kernel
theorem d_Mo_fieldRight_35 : decode c_Mo_fieldRight 35 = .ok (.iload_n 2, 1) := by decide +kernel
theorem d_Mo_fieldRight_36 : decode c_Mo_fieldRight 36 = .ok (.iaload, 1) := by decide +kernel
theorem d_Mo_fieldRight_37 : decode c_Mo_fieldRight 37 = .ok (.imul, 1) := by decide +kernel
theorem d_Mo_fieldRight_38 : decode c_Mo_fieldRight 38 = .ok (.iadd, 1) := by decide +kernel
theorem d_Mo_fieldRight_39 : decode c_Mo_fieldRight 39 = .ok (.iaload, 1) := by decide +kernel
theorem d_Mo_fieldRight_40 : decode c_Mo_fieldRight 40 = .ok (.istore_n 3, 1) := by decide +kernel
theorem d_Mo_fieldRight_41 : decode c_Mo_fieldRight 41 = .ok (.aload_n 0, 1) := by decide +kernel
theorem d_Mo_fieldRight_42 : decode c_Mo_fieldRight 42 = .ok (.getfield 31, 3) := by decide +kernel
theorem d_Mo_fieldRight_45 : decode c_Mo_fieldRight 45 = .ok (.iload_n 2, 1) := by decide +kernel
theorem d_Mo_fieldRight_46 : decode c_Mo_fieldRight 46 = .ok (.iaload, 1) := by decide +kernel
theorem d_Mo_fieldRight_47 : decode c_Mo_fieldRight 47 = .ok (.ifCond .ne 15, 3) := by decide +kernel
theorem d_Mo_fieldRight_50 : decode c_Mo_fieldRight 50 = .ok (.iload_n 3, 1) := by decide +kernel
theorem d_Mo_fieldRight_51 : decode c_Mo_fieldRight 51 = .ok (.ifCond .ne 7, 3) := by decide +kernel
theorem d_Mo_fieldRight_54 : decode c_Mo_fieldRight 54 = .ok (.iconst 1, 1) := by decide +kernel
theorem d_Mo_fieldRight_55 : decode c_Mo_fieldRight 55 = .ok (.goto 16, 3) := by decide +kernel
theorem d_Mo_fieldRight_58 : decode c_Mo_fieldRight 58 = .ok (.iconst 0, 1) := by decide +kernel
theorem d_Mo_fieldRight_59 : decode c_Mo_fieldRight 59 = .ok (.goto 12, 3) := by decide +kernel
theorem d_Mo_fieldRight_62 : decode c_Mo_fieldRight 62 = .ok (.iload_n 3, 1) := by decide +kernel
theorem d_Mo_fieldRight_63 : decode c_Mo_fieldRight 63 = .ok (.ifCond .le 7, 3) := by decide +kernel
theorem d_Mo_fieldRight_66 : decode c_Mo_fieldRight 66 = .ok (.iconst 1, 1) := by decide +kernel
theorem d_Mo_fieldRight_67 : decode c_Mo_fieldRight 67 = .ok (.goto 4, 3) := by decide +kernel
theorem d_Mo_fieldRight_70 : decode c_Mo_fieldRight 70 = .ok (.iconst 0, 1) := by decide +kernel
theorem d_Mo_fieldRight_71 : decode c_Mo_fieldRight 71 = .ok (.ireturn, 1) := by decide +kernel
theorem d_Mo_right_0 : decode c_Mo_right 0 = .ok (.aload_n 0, 1) := by decide +kernel
theorem d_Mo_right_1 : decode c_Mo_right 1 = .ok (.getfield 31, 3) := by decide +kernel
theorem d_Mo_right_4 : decode c_Mo_right 4 = .ok (.iload_n 2, 1) := by decide +kernel
theorem d_Mo_right_5 : decode c_Mo_right 5 = .ok (.iaload, 1) := by decide +kernel
theorem d_Mo_right_6 : decode c_Mo_right 6 = .ok (.tableswitch 112 0 5 #[38, 38, 112, 45, 112, 79], 38) := by decide +kernel
theorem d_Mo_right_44 : decode c_Mo_right 44 = .ok (.aload_n 0, 1) := by decide +kernel
theorem d_Mo_right_45 : decode c_Mo_right 45 = .ok (.iload_n 1, 1) := by decide +kernel
theorem d_Mo_right_46 : decode c_Mo_right 46 = .ok (.iload_n 2, 1) := by decide +kernel
theorem d_Mo_right_47 : decode c_Mo_right 47 = .ok (.invokevirtual 124, 3) := by decide +kernel
theorem d_Mo_right_50 : decode c_Mo_right 50 = .ok (.ireturn, 1) := by decide +kernel
theorem d_Mo_right_51 : decode c_Mo_right 51 = .ok (.aload_n 0, 1) := by decide +kernel
theorem d_Mo_right_52 : decode c_Mo_right 52 = .ok (.getfield 34, 3) := by decide +kernel
theorem d_Mo_right_55 : decode c_Mo_right 55 = .ok (.iload_n 2, 1) := by decide +kernel
theorem d_Mo_right_56 : decode c_Mo_right 56 = .ok (.iaload, 1) := by decide +kernel
theorem d_Mo_right_57 : decode c_Mo_right 57 = .ok (.aload_n 0, 1) := by decide +kernel
theorem d_Mo_right_58 : decode c_Mo_right 58 = .ok (.getfield 99, 3) := by decide +kernel
theorem d_Mo_right_61 : decode c_Mo_right 61 = .ok (.if_icmp .ge 22, 3) := by decide +kernel
theorem d_Mo_right_64 : decode c_Mo_right 64 = .ok (.iload_n 1, 1) := by decide +kernel
theorem d_Mo_right_65 : decode c_Mo_right 65 = .ok (.aload_n 0, 1) := by decide +kernel
theorem d_Mo_right_66 : decode c_Mo_right 66 = .ok (.getfield 34, 3) := by decide +kernel
theorem d_Mo_right_69 : decode c_Mo_right 69 = .ok (.iload_n 2, 1) := by decide +kernel
theorem d_Mo_right_70 : decode c_Mo_right 70 = .ok (.iaload, 1) := by decide +kernel
theorem d_Mo_right_71 : decode c_Mo_right 71 = .ok (.if_icmp .eq 8, 3) := by decide +kernel
theorem d_Mo_right_74 : decode c_Mo_right 74 = .ok (.iload_n 1, 1) := by decide +kernel
theorem d_Mo_right_75 : decode c_Mo_right 75 = .ok (.iconst 5, 1) := by decide +kernel
theorem d_Mo_right_76 : decode c_Mo_right 76 = .ok (.if_icmp .ne 7, 3) := by decide +kernel
theorem d_Mo_right_79 : decode c_Mo_right 79 = .ok (.iconst 1, 1) := by decide +kernel
theorem d_Mo_right_80 : decode c_Mo_right 80 = .ok (.goto 4, 3) := by decide +kernel
theorem d_Mo_right_83 : decode c_Mo_right 83 = .ok (.iconst 0, 1) := by decide +kernel
theorem d_Mo_right_84 : decode c_Mo_right 84 = .ok (.ireturn, 1) := by decide +kernel
theorem d_Mo_right_85 : decode c_Mo_right 85 = .ok (.aload_n 0, 1) := by decide +kernel
theorem d_Mo_right_86 : decode c_Mo_right 86 = .ok (.aload_n 0, 1) := by decide +kernel
theorem d_Mo_right_87 : decode c_Mo_right 87 = .ok (.getfield 34, 3) := by decide +kernel
theorem d_Mo_right_90 : decode c_Mo_right 90 = .ok (.iload_n 2, 1) := by decide +kernel
theorem d_Mo_right_91 : decode c_Mo_right 91 = .ok (.iaload, 1) := by decide +kernel
theorem d_Mo_right_92 : decode c_Mo_right 92 = .ok (.invokevirtual 127, 3) := by decide +kernel
theorem d_Mo_right_95 : decode c_Mo_right 95 = .ok (.ifCond .eq 21, 3) := by decide +kernel
theorem d_Mo_right_98 : decode c_Mo_right 98 = .ok (.aload_n 0, 1) := by decide +kernel
theorem d_Mo_right_99 : decode c_Mo_right 99 = .ok (.getfield 50, 3) := by decide +kernel
theorem d_Mo_right_102 : decode c_Mo_right 102 = .ok (.aload_n 0, 1) := by decide +kernel
theorem d_Mo_right_103 : decode c_Mo_right 103 = .ok (.getfield 34, 3) := by decide +kernel
theorem d_Mo_right_106 : decode c_Mo_right 106 = .ok (.iload_n 2, 1) := by decide +kernel
theorem d_Mo_right_107 : decode c_Mo_right 107 = .ok (.iaload, 1) := by decide +kernel
theorem d_Mo_right_108 : decode c_Mo_right 108 = .ok (.baload, 1) := by decide +kernel
theorem d_Mo_right_109 : decode c_Mo_right 109 = .ok (.ifCond .ne 7, 3) := by decide +kernel
theorem d_Mo_right_112 : decode c_Mo_right 112 = .ok (.iconst 1, 1) := by decide +kernel
theorem d_Mo_right_113 : decode c_Mo_right 113 = .ok (.goto 4, 3) := by decide +kernel
theorem d_Mo_right_116 : decode c_Mo_right 116 = .ok (.iconst 0, 1) := by decide +kernel
theorem d_Mo_right_117 : decode c_Mo_right 117 = .ok (.ireturn, 1) := by decide +kernel
theorem d_Mo_right_118 : decode c_Mo_right 118 = .ok (.iconst 1, 1) := by decide +kernel
theorem d_Mo_right_119 : decode c_Mo_right 119 = .ok (.ireturn, 1) := by decide +kernel
theorem d_Mo_enter_0 : decode c_Mo_enter 0 = .ok (.aload_n 0, 1) := by decide +kernel
theorem d_Mo_enter_1 : decode c_Mo_enter 1 = .ok (.getfield 44, 3) := by decide +kernel
theorem d_Mo_enter_4 : decode c_Mo_enter 4 = .ok (.aload_n 0, 1) := by decide +kernel
theorem d_Mo_enter_5 : decode c_Mo_enter 5 = .ok (.getfield 130, 3) := by decide +kernel
theorem d_Mo_enter_8 : decode c_Mo_enter 8 = .ok (.iload_n 1, 1) := by decide +kernel
theorem d_Mo_enter_9 : decode c_Mo_enter 9 = .ok (.iastore, 1) := by decide +kernel
theorem d_Mo_enter_10 : decode c_Mo_enter 10 = .ok (.aload_n 0, 1) := by decide +kernel
theorem d_Mo_enter_11 : decode c_Mo_enter 11 = .ok (.getfield 47, 3) := by decide +kernel
theorem d_Mo_enter_14 : decode c_Mo_enter 14 = .ok (.aload_n 0, 1) := by decide +kernel
theorem d_Mo_enter_15 : decode c_Mo_enter 15 = .ok (.getfield 130, 3) := by decide +kernel
theorem d_Mo_enter_18 : decode c_Mo_enter 18 = .ok (.iload_n 2, 1) := by decide +kernel
theorem d_Mo_enter_19 : decode c_Mo_enter 19 = .ok (.iastore, 1) := by decide +kernel
theorem d_Mo_enter_20 : decode c_Mo_enter 20 = .ok (.aload_n 0, 1) := by decide +kernel
theorem d_Mo_enter_21 : decode c_Mo_enter 21 = .ok (.dup, 1) := by decide +kernel
theorem d_Mo_enter_22 : decode c_Mo_enter 22 = .ok (.getfield 130, 3) := by decide +kernel
theorem d_Mo_enter_25 : decode c_Mo_enter 25 = .ok (.iconst 1, 1) := by decide +kernel
theorem d_Mo_enter_26 : decode c_Mo_enter 26 = .ok (.iadd, 1) := by decide +kernel
theorem d_Mo_enter_27 : decode c_Mo_enter 27 = .ok (.putfield 130, 3) := by decide +kernel
theorem d_Mo_enter_30 : decode c_Mo_enter 30 = .ok (.return_, 1) := by decide +kernel
theorem d_Mo_through_0 : decode c_Mo_through 0 = .ok (.aload_n 0, 1) := by decide +kernel
theorem d_Mo_through_1 : decode c_Mo_through 1 = .ok (.getfield 44, 3) := by decide +kernel
theorem d_Mo_through_4 : decode c_Mo_through 4 = .ok (.aload_n 0, 1) := by decide +kernel
theorem d_Mo_through_5 : decode c_Mo_through 5 = .ok (.getfield 130, 3) := by decide +kernel
theorem d_Mo_through_8 : decode c_Mo_through 8 = .ok (.iconst 1, 1) := by decide +kernel
theorem d_Mo_through_9 : decode c_Mo_through 9 = .ok (.isub, 1) := by decide +kernel
theorem d_Mo_through_10 : decode c_Mo_through 10 = .ok (.iaload, 1) := by decide +kernel
theorem d_Mo_through_11 : decode c_Mo_through 11 = .ok (.istore_n 2, 1) := by decide +kernel
theorem d_Mo_through_12 : decode c_Mo_through 12 = .ok (.aload_n 0, 1) := by decide +kernel
theorem d_Mo_through_13 : decode c_Mo_through 13 = .ok (.getfield 31, 3) := by decide +kernel
theorem d_Mo_through_16 : decode c_Mo_through 16 = .ok (.iload_n 1, 1) := by decide +kernel
theorem d_Mo_through_17 : decode c_Mo_through 17 = .ok (.iaload, 1) := by decide +kernel
theorem d_Mo_through_18 : decode c_Mo_through 18 = .ok (.tableswitch 161 1 6 #[38, 161, 66, 80, 89, 119], 38) := by decide +kernel
theorem d_Mo_through_56 : decode c_Mo_through 56 = .ok (.aload_n 0, 1) := by decide +kernel
theorem d_Mo_through_57 : decode c_Mo_through 57 = .ok (.aload_n 0, 1) := by decide +kernel
theorem d_Mo_through_58 : decode c_Mo_through 58 = .ok (.getfield 13, 3) := by decide +kernel
theorem d_Mo_through_61 : decode c_Mo_through 61 = .ok (.bipush 12, 2) := by decide +kernel
theorem d_Mo_through_63 : decode c_Mo_through 63 = .ok (.iload_n 2, 1) := by decide +kernel
theorem d_Mo_through_64 : decode c_Mo_through 64 = .ok (.imul, 1) := by decide +kernel
theorem d_Mo_through_65 : decode c_Mo_through 65 = .ok (.iconst 3, 1) := by decide +kernel
theorem d_Mo_through_66 : decode c_Mo_through 66 = .ok (.aload_n 0, 1) := by decide +kernel
theorem d_Mo_through_67 : decode c_Mo_through 67 = .ok (.getfield 37, 3) := by decide +kernel
theorem d_Mo_through_70 : decode c_Mo_through 70 = .ok (.iload_n 1, 1) := by decide +kernel
theorem d_Mo_through_71 : decode c_Mo_through 71 = .ok (.iaload, 1) := by decide +kernel
theorem d_Mo_through_72 : decode c_Mo_through 72 = .ok (.imul, 1) := by decide +kernel
theorem d_Mo_through_73 : decode c_Mo_through 73 = .ok (.iadd, 1) := by decide +kernel
theorem d_Mo_through_74 : decode c_Mo_through 74 = .ok (.iconst 1, 1) := by decide +kernel
theorem d_Mo_through_75 : decode c_Mo_through 75 = .ok (.iadd, 1) := by decide +kernel
theorem d_Mo_through_76 : decode c_Mo_through 76 = .ok (.iaload, 1) := by decide +kernel
theorem d_Mo_through_77 : decode c_Mo_through 77 = .ok (.iconst (-1), 1) := by decide +kernel
theorem d_Mo_through_78 : decode c_Mo_through 78 = .ok (.invokevirtual 133, 3) := by decide +kernel
theorem d_Mo_through_81 : decode c_Mo_through 81 = .ok (.goto 98, 3) := by decide +kernel
theorem d_Mo_through_84 : decode c_Mo_through 84 = .ok (.aload_n 0, 1) := by decide +kernel
theorem d_Mo_through_85 : decode c_Mo_through 85 = .ok (.aload_n 0, 1) := by decide +kernel
theorem d_Mo_through_86 : decode c_Mo_through 86 = .ok (.getfield 34, 3) := by decide +kernel
theorem d_Mo_through_89 : decode c_Mo_through 89 = .ok (.iload_n 1, 1) := by decide +kernel
theorem d_Mo_through_90 : decode c_Mo_through 90 = .ok (.iaload, 1) := by decide +kernel
theorem d_Mo_through_91 : decode c_Mo_through 91 = .ok (.iconst (-1), 1) := by decide +kernel
theorem d_Mo_through_92 : decode c_Mo_through 92 = .ok (.invokevirtual 133, 3) := by decide +kernel
theorem d_Mo_through_95 : decode c_Mo_through 95 = .ok (.goto 84, 3) := by decide +kernel
theorem d_Mo_through_98 : decode c_Mo_through 98 = .ok (.aload_n 0, 1) := by decide +kernel
theorem d_Mo_through_99 : decode c_Mo_through 99 = .ok (.iload_n 2, 1) := by decide +kernel
theorem d_Mo_through_100 : decode c_Mo_through 100 = .ok (.iconst (-1), 1) := by decide +kernel
theorem d_Mo_through_101 : decode c_Mo_through 101 = .ok (.invokevirtual 133, 3) := by decide +kernel
theorem d_Mo_through_104 : decode c_Mo_through 104 = .ok (.goto 75, 3) := by decide +kernel
theorem d_Mo_through_107 : decode c_Mo_through 107 = .ok (.aload_n 0, 1) := by decide +kernel
theorem d_Mo_through_108 : decode c_Mo_through 108 = .ok (.getfield 50, 3) := by decide +kernel
theorem d_Mo_through_111 : decode c_Mo_through 111 = .ok (.aload_n 0, 1) := by decide +kernel
theorem d_Mo_through_112 : decode c_Mo_through 112 = .ok (.getfield 34, 3) := by decide +kernel
theorem d_Mo_through_115 : decode c_Mo_through 115 = .ok (.iload_n 1, 1) := by decide +kernel
theorem d_Mo_through_116 : decode c_Mo_through 116 = .ok (.iaload, 1) := by decide +kernel
theorem d_Mo_through_117 : decode c_Mo_through 117 = .ok (.iconst 1, 1) := by decide +kernel
theorem d_Mo_through_118 : decode c_Mo_through 118 = .ok (.bastore, 1) := by decide +kernel
theorem d_Mo_through_119 : decode c_Mo_through 119 = .ok (.aload_n 0, 1) := by decide +kernel
theorem d_Mo_through_120 : decode c_Mo_through 120 = .ok (.iload_n 2, 1) := by decide +kernel
theorem d_Mo_through_121 : decode c_Mo_through 121 = .ok (.iload_n 1, 1) := by decide +kernel
theorem d_Mo_through_122 : decode c_Mo_through 122 = .ok (.iconst 1, 1) := by decide +kernel
theorem d_Mo_through_123 : decode c_Mo_through 123 = .ok (.iadd, 1) := by decide +kernel
theorem d_Mo_through_124 : decode c_Mo_through 124 = .ok (.invokevirtual 133, 3) := by decide +kernel
theorem d_Mo_through_127 : decode c_Mo_through 127 = .ok (.bipush 16, 2) := by decide +kernel
theorem d_Mo_through_129 : decode c_Mo_through 129 = .ok (.aload_n 0, 1) := by decide +kernel
theorem d_Mo_through_130 : decode c_Mo_through 130 = .ok (.getfield 34, 3) := by decide +kernel
theorem d_Mo_through_133 : decode c_Mo_through 133 = .ok (.iload_n 1, 1) := by decide +kernel
theorem d_Mo_through_134 : decode c_Mo_through 134 = .ok (.iaload, 1) := by decide +kernel
theorem d_Mo_through_135 : decode c_Mo_through 135 = .ok (.imul, 1) := by decide +kernel
theorem d_Mo_through_136 : decode c_Mo_through 136 = .ok (.ireturn, 1) := by decide +kernel
theorem d_Mo_through_137 : decode c_Mo_through 137 = .ok (.aload_n 0, 1) := by decide +kernel
theorem d_Mo_through_138 : decode c_Mo_through 138 = .ok (.dup, 1) := by decide +kernel
theorem d_Mo_through_139 : decode c_Mo_through 139 = .ok (.getfield 130, 3) := by decide +kernel
theorem d_Mo_through_142 : decode c_Mo_through 142 = .ok (.iconst 1, 1) := by decide +kernel
theorem d_Mo_through_143 : decode c_Mo_through 143 = .ok (.isub, 1) := by decide +kernel
theorem d_Mo_through_144 : decode c_Mo_through 144 = .ok (.putfield 130, 3) := by decide +kernel
theorem d_Mo_through_147 : decode c_Mo_through 147 = .ok (.aload_n 0, 1) := by decide +kernel
theorem d_Mo_through_148 : decode c_Mo_through 148 = .ok (.getfield 47, 3) := by decide +kernel
theorem d_Mo_through_151 : decode c_Mo_through 151 = .ok (.aload_n 0, 1) := by decide +kernel
theorem d_Mo_through_152 : decode c_Mo_through 152 = .ok (.getfield 130, 3) := by decide +kernel
theorem d_Mo_through_155 : decode c_Mo_through 155 = .ok (.iaload, 1) := by decide +kernel
theorem d_Mo_through_156 : decode c_Mo_through 156 = .ok (.ifCond .lt 23, 3) := by decide +kernel
theorem d_Mo_through_159 : decode c_Mo_through 159 = .ok (.aload_n 0, 1) := by decide +kernel
theorem d_Mo_through_160 : decode c_Mo_through 160 = .ok (.getfield 50, 3) := by decide +kernel
theorem d_Mo_through_163 : decode c_Mo_through 163 = .ok (.iload_n 1, 1) := by decide +kernel
theorem d_Mo_through_164 : decode c_Mo_through 164 = .ok (.bipush 16, 2) := by decide +kernel
theorem d_Mo_through_166 : decode c_Mo_through 166 = .ok (.idiv, 1) := by decide +kernel
theorem d_Mo_through_167 : decode c_Mo_through 167 = .ok (.iconst 0, 1) := by decide +kernel
theorem d_Mo_through_168 : decode c_Mo_through 168 = .ok (.bastore, 1) := by decide +kernel
theorem d_Mo_through_169 : decode c_Mo_through 169 = .ok (.aload_n 0, 1) := by decide +kernel
theorem d_Mo_through_170 : decode c_Mo_through 170 = .ok (.getfield 47, 3) := by decide +kernel
theorem d_Mo_through_173 : decode c_Mo_through 173 = .ok (.aload_n 0, 1) := by decide +kernel
theorem d_Mo_through_174 : decode c_Mo_through 174 = .ok (.getfield 130, 3) := by decide +kernel
theorem d_Mo_through_177 : decode c_Mo_through 177 = .ok (.iaload, 1) := by decide +kernel
theorem d_Mo_through_178 : decode c_Mo_through 178 = .ok (.ireturn, 1) := by decide +kernel
theorem d_Mo_through_179 : decode c_Mo_through 179 = .ok (.iload_n 1, 1) := by decide +kernel
theorem d_Mo_through_180 : decode c_Mo_through 180 = .ok (.iconst 1, 1) := by decide +kernel
theorem d_Mo_through_181 : decode c_Mo_through 181 = .ok (.iadd, 1) := by decide +kernel
theorem d_Mo_through_182 : decode c_Mo_through 182 = .ok (.ireturn, 1) := by decide +kernel
theorem d_Mo_checked_0 : decode c_Mo_checked 0 = .ok (.aload_n 0, 1) := by decide +kernel
theorem d_Mo_checked_1 : decode c_Mo_checked 1 = .ok (.iconst 0, 1) := by decide +kernel
theorem d_Mo_checked_2 : decode c_Mo_checked 2 = .ok (.putfield 40, 3) := by decide +kernel
theorem d_Mo_checked_5 : decode c_Mo_checked 5 = .ok (.aload_n 0, 1) := by decide +kernel
theorem d_Mo_checked_6 : decode c_Mo_checked 6 = .ok (.iconst 0, 1) := by decide +kernel
