theorem d_Mo_endObject_122 : decode c_Mo_endObject 122 = .ok (.iconst 1, 1) := by decide +kernel
theorem d_Mo_endObject_123 : decode c_Mo_endObject 123 = .ok (.iadd, 1) := by decide +kernel
theorem d_Mo_endObject_124 : decode c_Mo_endObject 124 = .ok (.iastore, 1) := by decide +kernel
theorem d_Mo_endObject_125 : decode c_Mo_endObject 125 = .ok (.iload_n 1, 1) := by decide +kernel
theorem d_Mo_endObject_126 : decode c_Mo_endObject 126 = .ok (.ireturn, 1) := by decide +kernel
theorem d_Mo_manyStep_0 : decode c_Mo_manyStep 0 = .ok (.iconst 4, 1) := by decide +kernel
theorem d_Mo_manyStep_1 : decode c_Mo_manyStep 1 = .ok (.aload_n 0, 1) := by decide +kernel
theorem d_Mo_manyStep_2 : decode c_Mo_manyStep 2 = .ok (.getfield 54, 3) := by decide +kernel
theorem d_Mo_manyStep_5 : decode c_Mo_manyStep 5 = .ok (.iload_n 1, 1) := by decide +kernel
theorem d_Mo_manyStep_6 : decode c_Mo_manyStep 6 = .ok (.iaload, 1) := by decide +kernel
theorem d_Mo_manyStep_7 : decode c_Mo_manyStep 7 = .ok (.imul, 1) := by decide +kernel
theorem d_Mo_manyStep_8 : decode c_Mo_manyStep 8 = .ok (.aload_n 0, 1) := by decide +kernel
theorem d_Mo_manyStep_9 : decode c_Mo_manyStep 9 = .ok (.getfield 66, 3) := by decide +kernel
theorem d_Mo_manyStep_12 : decode c_Mo_manyStep 12 = .ok (.aload_n 0, 1) := by decide +kernel
theorem d_Mo_manyStep_13 : decode c_Mo_manyStep 13 = .ok (.iload_n 1, 1) := by decide +kernel
theorem d_Mo_manyStep_14 : decode c_Mo_manyStep 14 = .ok (.invokevirtual 172, 3) := by decide +kernel
theorem d_Mo_manyStep_17 : decode c_Mo_manyStep 17 = .ok (.iaload, 1) := by decide +kernel
theorem d_Mo_manyStep_18 : decode c_Mo_manyStep 18 = .ok (.iadd, 1) := by decide +kernel
theorem d_Mo_manyStep_19 : decode c_Mo_manyStep 19 = .ok (.istore_n 2, 1) := by decide +kernel
theorem d_Mo_manyStep_20 : decode c_Mo_manyStep 20 = .ok (.aload_n 0, 1) := by decide +kernel
theorem d_Mo_manyStep_21 : decode c_Mo_manyStep 21 = .ok (.getfield 81, 3) := by decide +kernel
theorem d_Mo_manyStep_24 : decode c_Mo_manyStep 24 = .ok (.iload_n 1, 1) := by decide +kernel
theorem d_Mo_manyStep_25 : decode c_Mo_manyStep 25 = .ok (.iaload, 1) := by decide +kernel
theorem d_Mo_manyStep_26 : decode c_Mo_manyStep 26 = .ok (.aload_n 0, 1) := by decide +kernel
theorem d_Mo_manyStep_27 : decode c_Mo_manyStep 27 = .ok (.getfield 19, 3) := by decide +kernel
theorem d_Mo_manyStep_30 : decode c_Mo_manyStep 30 = .ok (.iload_n 2, 1) := by decide +kernel
theorem d_Mo_manyStep_31 : decode c_Mo_manyStep 31 = .ok (.iaload, 1) := by decide +kernel
theorem d_Mo_manyStep_32 : decode c_Mo_manyStep 32 = .ok (.if_icmp .ge 23, 3) := by decide +kernel
theorem d_Mo_manyStep_35 : decode c_Mo_manyStep 35 = .ok (.aload_n 0, 1) := by decide +kernel
theorem d_Mo_manyStep_36 : decode c_Mo_manyStep 36 = .ok (.aload_n 0, 1) := by decide +kernel
theorem d_Mo_manyStep_37 : decode c_Mo_manyStep 37 = .ok (.getfield 22, 3) := by decide +kernel
theorem d_Mo_manyStep_40 : decode c_Mo_manyStep 40 = .ok (.iconst 4, 1) := by decide +kernel
theorem d_Mo_manyStep_41 : decode c_Mo_manyStep 41 = .ok (.iload_n 2, 1) := by decide +kernel
theorem d_Mo_manyStep_42 : decode c_Mo_manyStep 42 = .ok (.imul, 1) := by decide +kernel
theorem d_Mo_manyStep_43 : decode c_Mo_manyStep 43 = .ok (.aload_n 0, 1) := by decide +kernel
theorem d_Mo_manyStep_44 : decode c_Mo_manyStep 44 = .ok (.getfield 81, 3) := by decide +kernel
theorem d_Mo_manyStep_47 : decode c_Mo_manyStep 47 = .ok (.iload_n 1, 1) := by decide +kernel
theorem d_Mo_manyStep_48 : decode c_Mo_manyStep 48 = .ok (.iaload, 1) := by decide +kernel
theorem d_Mo_manyStep_49 : decode c_Mo_manyStep 49 = .ok (.iadd, 1) := by decide +kernel
theorem d_Mo_manyStep_50 : decode c_Mo_manyStep 50 = .ok (.iaload, 1) := by decide +kernel
theorem d_Mo_manyStep_51 : decode c_Mo_manyStep 51 = .ok (.invokevirtual 188, 3) := by decide +kernel
theorem d_Mo_manyStep_54 : decode c_Mo_manyStep 54 = .ok (.ireturn, 1) := by decide +kernel
theorem d_Mo_manyStep_55 : decode c_Mo_manyStep 55 = .ok (.aload_n 0, 1) := by decide +kernel
theorem d_Mo_manyStep_56 : decode c_Mo_manyStep 56 = .ok (.getfield 81, 3) := by decide +kernel
theorem d_Mo_manyStep_59 : decode c_Mo_manyStep 59 = .ok (.iload_n 1, 1) := by decide +kernel
theorem d_Mo_manyStep_60 : decode c_Mo_manyStep 60 = .ok (.iconst (-1), 1) := by decide +kernel
theorem d_Mo_manyStep_61 : decode c_Mo_manyStep 61 = .ok (.iastore, 1) := by decide +kernel
theorem d_Mo_manyStep_62 : decode c_Mo_manyStep 62 = .ok (.aload_n 0, 1) := by decide +kernel
theorem d_Mo_manyStep_63 : decode c_Mo_manyStep 63 = .ok (.getfield 78, 3) := by decide +kernel
theorem d_Mo_manyStep_66 : decode c_Mo_manyStep 66 = .ok (.iload_n 1, 1) := by decide +kernel
theorem d_Mo_manyStep_67 : decode c_Mo_manyStep 67 = .ok (.dup2, 1) := by decide +kernel
theorem d_Mo_manyStep_68 : decode c_Mo_manyStep 68 = .ok (.iaload, 1) := by decide +kernel
theorem d_Mo_manyStep_69 : decode c_Mo_manyStep 69 = .ok (.iconst 1, 1) := by decide +kernel
theorem d_Mo_manyStep_70 : decode c_Mo_manyStep 70 = .ok (.iadd, 1) := by decide +kernel
theorem d_Mo_manyStep_71 : decode c_Mo_manyStep 71 = .ok (.iastore, 1) := by decide +kernel
theorem d_Mo_manyStep_72 : decode c_Mo_manyStep 72 = .ok (.aload_n 0, 1) := by decide +kernel
theorem d_Mo_manyStep_73 : decode c_Mo_manyStep 73 = .ok (.iconst 5, 1) := by decide +kernel
theorem d_Mo_manyStep_74 : decode c_Mo_manyStep 74 = .ok (.invokevirtual 166, 3) := by decide +kernel
theorem d_Mo_manyStep_77 : decode c_Mo_manyStep 77 = .ok (.ireturn, 1) := by decide +kernel
theorem d_Mo_plain_0 : decode c_Mo_plain 0 = .ok (.aload_n 0, 1) := by decide +kernel
theorem d_Mo_plain_1 : decode c_Mo_plain 1 = .ok (.getfield 78, 3) := by decide +kernel
theorem d_Mo_plain_4 : decode c_Mo_plain 4 = .ok (.iload_n 1, 1) := by decide +kernel
theorem d_Mo_plain_5 : decode c_Mo_plain 5 = .ok (.dup2, 1) := by decide +kernel
theorem d_Mo_plain_6 : decode c_Mo_plain 6 = .ok (.iaload, 1) := by decide +kernel
theorem d_Mo_plain_7 : decode c_Mo_plain 7 = .ok (.iconst 1, 1) := by decide +kernel
theorem d_Mo_plain_8 : decode c_Mo_plain 8 = .ok (.iadd, 1) := by decide +kernel
theorem d_Mo_plain_9 : decode c_Mo_plain 9 = .ok (.iastore, 1) := by decide +kernel
theorem d_Mo_plain_10 : decode c_Mo_plain 10 = .ok (.aload_n 0, 1) := by decide +kernel
theorem d_Mo_plain_11 : decode c_Mo_plain 11 = .ok (.iload_n 2, 1) := by decide +kernel
theorem d_Mo_plain_12 : decode c_Mo_plain 12 = .ok (.invokevirtual 166, 3) := by decide +kernel
theorem d_Mo_plain_15 : decode c_Mo_plain 15 = .ok (.ireturn, 1) := by decide +kernel
theorem d_Mo_step_0 : decode c_Mo_step 0 = .ok (.aload_n 0, 1) := by decide +kernel
theorem d_Mo_step_1 : decode c_Mo_step 1 = .ok (.getfield 157, 3) := by decide +kernel
theorem d_Mo_step_4 : decode c_Mo_step 4 = .ok (.iconst 1, 1) := by decide +kernel
theorem d_Mo_step_5 : decode c_Mo_step 5 = .ok (.isub, 1) := by decide +kernel
theorem d_Mo_step_6 : decode c_Mo_step 6 = .ok (.istore_n 1, 1) := by decide +kernel
theorem d_Mo_step_7 : decode c_Mo_step 7 = .ok (.aload_n 0, 1) := by decide +kernel
theorem d_Mo_step_8 : decode c_Mo_step 8 = .ok (.getfield 78, 3) := by decide +kernel
theorem d_Mo_step_11 : decode c_Mo_step 11 = .ok (.iload_n 1, 1) := by decide +kernel
theorem d_Mo_step_12 : decode c_Mo_step 12 = .ok (.iaload, 1) := by decide +kernel
theorem d_Mo_step_13 : decode c_Mo_step 13 = .ok (.aload_n 0, 1) := by decide +kernel
theorem d_Mo_step_14 : decode c_Mo_step 14 = .ok (.getfield 57, 3) := by decide +kernel
theorem d_Mo_step_17 : decode c_Mo_step 17 = .ok (.iload_n 1, 1) := by decide +kernel
theorem d_Mo_step_18 : decode c_Mo_step 18 = .ok (.iaload, 1) := by decide +kernel
theorem d_Mo_step_19 : decode c_Mo_step 19 = .ok (.if_icmp .ne 8, 3) := by decide +kernel
theorem d_Mo_step_22 : decode c_Mo_step 22 = .ok (.aload_n 0, 1) := by decide +kernel
theorem d_Mo_step_23 : decode c_Mo_step 23 = .ok (.invokevirtual 191, 3) := by decide +kernel
theorem d_Mo_step_26 : decode c_Mo_step 26 = .ok (.ireturn, 1) := by decide +kernel
theorem d_Mo_step_27 : decode c_Mo_step 27 = .ok (.aload_n 0, 1) := by decide +kernel
theorem d_Mo_step_28 : decode c_Mo_step 28 = .ok (.getfield 81, 3) := by decide +kernel
theorem d_Mo_step_31 : decode c_Mo_step 31 = .ok (.iload_n 1, 1) := by decide +kernel
theorem d_Mo_step_32 : decode c_Mo_step 32 = .ok (.iaload, 1) := by decide +kernel
theorem d_Mo_step_33 : decode c_Mo_step 33 = .ok (.ifCond .lt 9, 3) := by decide +kernel
theorem d_Mo_step_36 : decode c_Mo_step 36 = .ok (.aload_n 0, 1) := by decide +kernel
theorem d_Mo_step_37 : decode c_Mo_step 37 = .ok (.iload_n 1, 1) := by decide +kernel
theorem d_Mo_step_38 : decode c_Mo_step 38 = .ok (.invokevirtual 195, 3) := by decide +kernel
theorem d_Mo_step_41 : decode c_Mo_step 41 = .ok (.ireturn, 1) := by decide +kernel
theorem d_Mo_step_42 : decode c_Mo_step 42 = .ok (.aload_n 0, 1) := by decide +kernel
theorem d_Mo_step_43 : decode c_Mo_step 43 = .ok (.bipush 10, 2) := by decide +kernel
theorem d_Mo_step_45 : decode c_Mo_step 45 = .ok (.aload_n 0, 1) := by decide +kernel
theorem d_Mo_step_46 : decode c_Mo_step 46 = .ok (.getfield 60, 3) := by decide +kernel
theorem d_Mo_step_49 : decode c_Mo_step 49 = .ok (.aload_n 0, 1) := by decide +kernel
theorem d_Mo_step_50 : decode c_Mo_step 50 = .ok (.iload_n 1, 1) := by decide +kernel
theorem d_Mo_step_51 : decode c_Mo_step 51 = .ok (.invokevirtual 172, 3) := by decide +kernel
theorem d_Mo_step_54 : decode c_Mo_step 54 = .ok (.iaload, 1) := by decide +kernel
theorem d_Mo_step_55 : decode c_Mo_step 55 = .ok (.iadd, 1) := by decide +kernel
theorem d_Mo_step_56 : decode c_Mo_step 56 = .ok (.invokevirtual 166, 3) := by decide +kernel
theorem d_Mo_step_59 : decode c_Mo_step 59 = .ok (.istore_n 2, 1) := by decide +kernel
theorem d_Mo_step_60 : decode c_Mo_step 60 = .ok (.iload_n 2, 1) := by decide +kernel
theorem d_Mo_step_61 : decode c_Mo_step 61 = .ok (.ifCond .eq 5, 3) := by decide +kernel
theorem d_Mo_step_64 : decode c_Mo_step 64 = .ok (.iload_n 2, 1) := by decide +kernel
theorem d_Mo_step_65 : decode c_Mo_step 65 = .ok (.ireturn, 1) := by decide +kernel
theorem d_Mo_step_66 : decode c_Mo_step 66 = .ok (.aload_n 0, 1) := by decide +kernel
theorem d_Mo_step_67 : decode c_Mo_step 67 = .ok (.getfield 63, 3) := by decide +kernel
theorem d_Mo_step_70 : decode c_Mo_step 70 = .ok (.aload_n 0, 1) := by decide +kernel
theorem d_Mo_step_71 : decode c_Mo_step 71 = .ok (.iload_n 1, 1) := by decide +kernel
theorem d_Mo_step_72 : decode c_Mo_step 72 = .ok (.invokevirtual 172, 3) := by decide +kernel
theorem d_Mo_step_75 : decode c_Mo_step 75 = .ok (.iaload, 1) := by decide +kernel
theorem d_Mo_step_76 : decode c_Mo_step 76 = .ok (.iconst 2, 1) := by decide +kernel
theorem d_Mo_step_77 : decode c_Mo_step 77 = .ok (.if_icmp .ne 24, 3) := by decide +kernel
theorem d_Mo_step_80 : decode c_Mo_step 80 = .ok (.aload_n 0, 1) := by decide +kernel
theorem d_Mo_step_81 : decode c_Mo_step 81 = .ok (.iload_n 1, 1) := by decide +kernel
theorem d_Mo_step_82 : decode c_Mo_step 82 = .ok (.sipush 2000, 3) := by decide +kernel
theorem d_Mo_step_85 : decode c_Mo_step 85 = .ok (.aload_n 0, 1) := by decide +kernel
theorem d_Mo_step_86 : decode c_Mo_step 86 = .ok (.getfield 16, 3) := by decide +kernel
theorem d_Mo_step_89 : decode c_Mo_step 89 = .ok (.aload_n 0, 1) := by decide +kernel
theorem d_Mo_step_90 : decode c_Mo_step 90 = .ok (.getfield 54, 3) := by decide +kernel
theorem d_Mo_step_93 : decode c_Mo_step 93 = .ok (.iload_n 1, 1) := by decide +kernel
theorem d_Mo_step_94 : decode c_Mo_step 94 = .ok (.iaload, 1) := by decide +kernel
theorem d_Mo_step_95 : decode c_Mo_step 95 = .ok (.iaload, 1) := by decide +kernel
theorem d_Mo_step_96 : decode c_Mo_step 96 = .ok (.iadd, 1) := by decide +kernel
theorem d_Mo_step_97 : decode c_Mo_step 97 = .ok (.invokevirtual 198, 3) := by decide +kernel
theorem d_Mo_step_100 : decode c_Mo_step 100 = .ok (.ireturn, 1) := by decide +kernel
theorem d_Mo_step_101 : decode c_Mo_step 101 = .ok (.iconst 4, 1) := by decide +kernel
theorem d_Mo_step_102 : decode c_Mo_step 102 = .ok (.aload_n 0, 1) := by decide +kernel
theorem d_Mo_step_103 : decode c_Mo_step 103 = .ok (.getfield 54, 3) := by decide +kernel
theorem d_Mo_step_106 : decode c_Mo_step 106 = .ok (.iload_n 1, 1) := by decide +kernel
theorem d_Mo_step_107 : decode c_Mo_step 107 = .ok (.iaload, 1) := by decide +kernel
theorem d_Mo_step_108 : decode c_Mo_step 108 = .ok (.imul, 1) := by decide +kernel
theorem d_Mo_step_109 : decode c_Mo_step 109 = .ok (.aload_n 0, 1) := by decide +kernel
theorem d_Mo_step_110 : decode c_Mo_step 110 = .ok (.getfield 66, 3) := by decide +kernel
theorem d_Mo_step_113 : decode c_Mo_step 113 = .ok (.aload_n 0, 1) := by decide +kernel
theorem d_Mo_step_114 : decode c_Mo_step 114 = .ok (.iload_n 1, 1) := by decide +kernel
theorem d_Mo_step_115 : decode c_Mo_step 115 = .ok (.invokevirtual 172, 3) := by decide +kernel
theorem d_Mo_step_118 : decode c_Mo_step 118 = .ok (.iaload, 1) := by decide +kernel
theorem d_Mo_step_119 : decode c_Mo_step 119 = .ok (.iadd, 1) := by decide +kernel
theorem d_Mo_step_120 : decode c_Mo_step 120 = .ok (.istore_n 3, 1) := by decide +kernel
theorem d_Mo_step_121 : decode c_Mo_step 121 = .ok (.aload_n 0, 1) := by decide +kernel
theorem d_Mo_step_122 : decode c_Mo_step 122 = .ok (.iload_n 1, 1) := by decide +kernel
theorem d_Mo_step_123 : decode c_Mo_step 123 = .ok (.invokevirtual 178, 3) := by decide +kernel
theorem d_Mo_step_126 : decode c_Mo_step 126 = .ok (.iconst 2, 1) := by decide +kernel
theorem d_Mo_step_127 : decode c_Mo_step 127 = .ok (.if_icmp .ne 16, 3) := by decide +kernel
theorem d_Mo_step_130 : decode c_Mo_step 130 = .ok (.aload_n 0, 1) := by decide +kernel
theorem d_Mo_step_131 : decode c_Mo_step 131 = .ok (.getfield 81, 3) := by decide +kernel
theorem d_Mo_step_134 : decode c_Mo_step 134 = .ok (.iload_n 1, 1) := by decide +kernel
theorem d_Mo_step_135 : decode c_Mo_step 135 = .ok (.iconst 0, 1) := by decide +kernel
theorem d_Mo_step_136 : decode c_Mo_step 136 = .ok (.iastore, 1) := by decide +kernel
theorem d_Mo_step_137 : decode c_Mo_step 137 = .ok (.aload_n 0, 1) := by decide +kernel
theorem d_Mo_step_138 : decode c_Mo_step 138 = .ok (.iconst 4, 1) := by decide +kernel
theorem d_Mo_step_139 : decode c_Mo_step 139 = .ok (.invokevirtual 166, 3) := by decide +kernel
theorem d_Mo_step_142 : decode c_Mo_step 142 = .ok (.ireturn, 1) := by decide +kernel
theorem d_Mo_step_143 : decode c_Mo_step 143 = .ok (.aload_n 0, 1) := by decide +kernel
theorem d_Mo_step_144 : decode c_Mo_step 144 = .ok (.getfield 19, 3) := by decide +kernel
theorem d_Mo_step_147 : decode c_Mo_step 147 = .ok (.iload_n 3, 1) := by decide +kernel
theorem d_Mo_step_148 : decode c_Mo_step 148 = .ok (.iaload, 1) := by decide +kernel
theorem d_Mo_step_149 : decode c_Mo_step 149 = .ok (.ifCond .ne 16, 3) := by decide +kernel
theorem d_Mo_step_152 : decode c_Mo_step 152 = .ok (.aload_n 0, 1) := by decide +kernel
theorem d_Mo_step_153 : decode c_Mo_step 153 = .ok (.iload_n 1, 1) := by decide +kernel
theorem d_Mo_step_154 : decode c_Mo_step 154 = .ok (.iconst 1, 1) := by decide +kernel
theorem d_Mo_step_155 : decode c_Mo_step 155 = .ok (.invokevirtual 184, 3) := by decide +kernel
theorem d_Mo_step_158 : decode c_Mo_step 158 = .ok (.aload_n 0, 1) := by decide +kernel
theorem d_Mo_step_159 : decode c_Mo_step 159 = .ok (.iload_n 1, 1) := by decide +kernel
theorem d_Mo_step_160 : decode c_Mo_step 160 = .ok (.iconst 1, 1) := by decide +kernel
theorem d_Mo_step_161 : decode c_Mo_step 161 = .ok (.invokevirtual 198, 3) := by decide +kernel
theorem d_Mo_step_164 : decode c_Mo_step 164 = .ok (.ireturn, 1) := by decide +kernel
theorem d_Mo_step_165 : decode c_Mo_step 165 = .ok (.aload_n 0, 1) := by decide +kernel
theorem d_Mo_step_166 : decode c_Mo_step 166 = .ok (.iload_n 1, 1) := by decide +kernel
theorem d_Mo_step_167 : decode c_Mo_step 167 = .ok (.invokevirtual 178, 3) := by decide +kernel
theorem d_Mo_step_170 : decode c_Mo_step 170 = .ok (.ifCond .ne 23, 3) := by decide +kernel
theorem d_Mo_step_173 : decode c_Mo_step 173 = .ok (.aload_n 0, 1) := by decide +kernel
theorem d_Mo_step_174 : decode c_Mo_step 174 = .ok (.iload_n 1, 1) := by decide +kernel
theorem d_Mo_step_175 : decode c_Mo_step 175 = .ok (.sipush 1000, 3) := by decide +kernel
theorem d_Mo_step_178 : decode c_Mo_step 178 = .ok (.aload_n 0, 1) := by decide +kernel
theorem d_Mo_step_179 : decode c_Mo_step 179 = .ok (.getfield 22, 3) := by decide +kernel
theorem d_Mo_step_182 : decode c_Mo_step 182 = .ok (.iconst 4, 1) := by decide +kernel
theorem d_Mo_step_183 : decode c_Mo_step 183 = .ok (.iload_n 3, 1) := by decide +kernel
theorem d_Mo_step_184 : decode c_Mo_step 184 = .ok (.imul, 1) := by decide +kernel
theorem d_Mo_step_185 : decode c_Mo_step 185 = .ok (.iaload, 1) := by decide +kernel
theorem d_Mo_step_186 : decode c_Mo_step 186 = .ok (.iadd, 1) := by decide +kernel
theorem d_Mo_step_187 : decode c_Mo_step 187 = .ok (.invokevirtual 198, 3) := by decide +kernel
theorem d_Mo_step_190 : decode c_Mo_step 190 = .ok (.goto 15, 3) := by decide +kernel
theorem d_Mo_step_193 : decode c_Mo_step 193 = .ok (.aload_n 0, 1) := by decide +kernel
theorem d_Mo_step_194 : decode c_Mo_step 194 = .ok (.aload_n 0, 1) := by decide +kernel
theorem d_Mo_step_195 : decode c_Mo_step 195 = .ok (.getfield 22, 3) := by decide +kernel
theorem d_Mo_step_198 : decode c_Mo_step 198 = .ok (.iconst 4, 1) := by decide +kernel
theorem d_Mo_step_199 : decode c_Mo_step 199 = .ok (.iload_n 3, 1) := by decide +kernel
theorem d_Mo_step_200 : decode c_Mo_step 200 = .ok (.imul, 1) := by decide +kernel
theorem d_Mo_step_201 : decode c_Mo_step 201 = .ok (.iaload, 1) := by decide +kernel
theorem d_Mo_step_202 : decode c_Mo_step 202 = .ok (.invokevirtual 188, 3) := by decide +kernel
theorem d_Mo_step_205 : decode c_Mo_step 205 = .ok (.ireturn, 1) := by decide +kernel
theorem d_Mo_ask_0 : decode c_Mo_ask 0 = .ok (.iload_n 1, 1) := by decide +kernel
theorem d_Mo_ask_1 : decode c_Mo_ask 1 = .ok (.iconst 1, 1) := by decide +kernel
theorem d_Mo_ask_2 : decode c_Mo_ask 2 = .ok (.aload_n 0, 1) := by decide +kernel
theorem d_Mo_ask_3 : decode c_Mo_ask 3 = .ok (.getfield 102, 3) := by decide +kernel
theorem d_Mo_ask_6 : decode c_Mo_ask 6 = .ok (.invokestatic 105, 3) := by decide +kernel
theorem d_Mo_ask_9 : decode c_Mo_ask 9 = .ok (.ifCond .ne 5, 3) := by decide +kernel
theorem d_Mo_ask_12 : decode c_Mo_ask 12 = .ok (.iconst (-1), 1) := by decide +kernel
theorem d_Mo_ask_13 : decode c_Mo_ask 13 = .ok (.ireturn, 1) := by decide +kernel
theorem d_Mo_ask_14 : decode c_Mo_ask 14 = .ok (.aload_n 0, 1) := by decide +kernel
theorem d_Mo_ask_15 : decode c_Mo_ask 15 = .ok (.iconst 0, 1) := by decide +kernel
theorem d_Mo_ask_16 : decode c_Mo_ask 16 = .ok (.putfield 160, 3) := by decide +kernel
theorem d_Mo_ask_19 : decode c_Mo_ask 19 = .ok (.aload_n 0, 1) := by decide +kernel
theorem d_Mo_ask_20 : decode c_Mo_ask 20 = .ok (.iconst 0, 1) := by decide +kernel
theorem d_Mo_ask_21 : decode c_Mo_ask 21 = .ok (.putfield 175, 3) := by decide +kernel
theorem d_Mo_ask_24 : decode c_Mo_ask 24 = .ok (.aload_n 0, 1) := by decide +kernel
theorem d_Mo_ask_25 : decode c_Mo_ask 25 = .ok (.iconst 0, 1) := by decide +kernel
theorem d_Mo_ask_26 : decode c_Mo_ask 26 = .ok (.putfield 169, 3) := by decide +kernel
theorem d_Mo_ask_29 : decode c_Mo_ask 29 = .ok (.aload_n 0, 1) := by decide +kernel
theorem d_Mo_ask_30 : decode c_Mo_ask 30 = .ok (.iconst 0, 1) := by decide +kernel
theorem d_Mo_ask_31 : decode c_Mo_ask 31 = .ok (.putfield 157, 3) := by decide +kernel
theorem d_Mo_ask_34 : decode c_Mo_ask 34 = .ok (.aload_n 0, 1) := by decide +kernel
theorem d_Mo_ask_35 : decode c_Mo_ask 35 = .ok (.aload_n 0, 1) := by decide +kernel
theorem d_Mo_ask_36 : decode c_Mo_ask 36 = .ok (.getfield 16, 3) := by decide +kernel
theorem d_Mo_ask_39 : decode c_Mo_ask 39 = .ok (.iload_n 1, 1) := by decide +kernel
theorem d_Mo_ask_40 : decode c_Mo_ask 40 = .ok (.iaload, 1) := by decide +kernel
theorem d_Mo_ask_41 : decode c_Mo_ask 41 = .ok (.invokevirtual 144, 3) := by decide +kernel
theorem d_Mo_ask_44 : decode c_Mo_ask 44 = .ok (.ifCond .ne 6, 3) := by decide +kernel
theorem d_Mo_ask_47 : decode c_Mo_ask 47 = .ok (.bipush (-3), 2) := by decide +kernel
theorem d_Mo_ask_49 : decode c_Mo_ask 49 = .ok (.ireturn, 1) := by decide +kernel
theorem d_Mo_ask_50 : decode c_Mo_ask 50 = .ok (.aload_n 0, 1) := by decide +kernel
theorem d_Mo_ask_51 : decode c_Mo_ask 51 = .ok (.iload_n 1, 1) := by decide +kernel
theorem d_Mo_ask_52 : decode c_Mo_ask 52 = .ok (.invokevirtual 188, 3) := by decide +kernel
theorem d_Mo_ask_55 : decode c_Mo_ask 55 = .ok (.istore_n 2, 1) := by decide +kernel
theorem d_Mo_ask_56 : decode c_Mo_ask 56 = .ok (.iload_n 2, 1) := by decide +kernel
theorem d_Mo_ask_57 : decode c_Mo_ask 57 = .ok (.ifCond .ne 18, 3) := by decide +kernel
theorem d_Mo_ask_60 : decode c_Mo_ask 60 = .ok (.aload_n 0, 1) := by decide +kernel
theorem d_Mo_ask_61 : decode c_Mo_ask 61 = .ok (.getfield 157, 3) := by decide +kernel
theorem d_Mo_ask_64 : decode c_Mo_ask 64 = .ok (.ifCond .le 11, 3) := by decide +kernel
theorem d_Mo_ask_67 : decode c_Mo_ask 67 = .ok (.aload_n 0, 1) := by decide +kernel
theorem d_Mo_ask_68 : decode c_Mo_ask 68 = .ok (.invokevirtual 202, 3) := by decide +kernel
theorem d_Mo_ask_71 : decode c_Mo_ask 71 = .ok (.istore_n 2, 1) := by decide +kernel
theorem d_Mo_ask_72 : decode c_Mo_ask 72 = .ok (.goto (-16), 3) := by decide +kernel
theorem d_Mo_ask_75 : decode c_Mo_ask 75 = .ok (.iload_n 2, 1) := by decide +kernel
theorem d_Mo_ask_76 : decode c_Mo_ask 76 = .ok (.ifCond .ne 8, 3) := by decide +kernel
theorem d_Mo_ask_79 : decode c_Mo_ask 79 = .ok (.aload_n 0, 1) := by decide +kernel
theorem d_Mo_ask_80 : decode c_Mo_ask 80 = .ok (.getfield 160, 3) := by decide +kernel
theorem d_Mo_ask_83 : decode c_Mo_ask 83 = .ok (.ireturn, 1) := by decide +kernel
theorem d_Mo_ask_84 : decode c_Mo_ask 84 = .ok (.aload_n 0, 1) := by decide +kernel
theorem d_Mo_ask_85 : decode c_Mo_ask 85 = .ok (.iconst 0, 1) := by decide +kernel
theorem d_Mo_ask_86 : decode c_Mo_ask 86 = .ok (.putfield 160, 3) := by decide +kernel
theorem d_Mo_ask_89 : decode c_Mo_ask 89 = .ok (.aload_n 0, 1) := by decide +kernel
theorem d_Mo_ask_90 : decode c_Mo_ask 90 = .ok (.iconst 0, 1) := by decide +kernel
theorem d_Mo_ask_91 : decode c_Mo_ask 91 = .ok (.putfield 175, 3) := by decide +kernel
theorem d_Mo_ask_94 : decode c_Mo_ask 94 = .ok (.iload_n 2, 1) := by decide +kernel
theorem d_Mo_ask_95 : decode c_Mo_ask 95 = .ok (.ireturn, 1) := by decide +kernel
theorem d_Mo_code_0 : decode c_Mo_code 0 = .ok (.iload_n 1, 1) := by decide +kernel
theorem d_Mo_code_1 : decode c_Mo_code 1 = .ok (.iconst 0, 1) := by decide +kernel
theorem d_Mo_code_2 : decode c_Mo_code 2 = .ok (.aload_n 0, 1) := by decide +kernel
theorem d_Mo_code_3 : decode c_Mo_code 3 = .ok (.getfield 160, 3) := by decide +kernel
theorem d_Mo_code_6 : decode c_Mo_code 6 = .ok (.iconst 1, 1) := by decide +kernel
theorem d_Mo_code_7 : decode c_Mo_code 7 = .ok (.isub, 1) := by decide +kernel
theorem d_Mo_code_8 : decode c_Mo_code 8 = .ok (.invokestatic 105, 3) := by decide +kernel
theorem d_Mo_code_11 : decode c_Mo_code 11 = .ok (.ifCond .eq 12, 3) := by decide +kernel
theorem d_Mo_code_14 : decode c_Mo_code 14 = .ok (.aload_n 0, 1) := by decide +kernel
theorem d_Mo_code_15 : decode c_Mo_code 15 = .ok (.getfield 90, 3) := by decide +kernel
theorem d_Mo_code_18 : decode c_Mo_code 18 = .ok (.iload_n 1, 1) := by decide +kernel
theorem d_Mo_code_19 : decode c_Mo_code 19 = .ok (.iaload, 1) := by decide +kernel
theorem d_Mo_code_20 : decode c_Mo_code 20 = .ok (.goto 4, 3) := by decide +kernel
theorem d_Mo_code_23 : decode c_Mo_code 23 = .ok (.iconst (-1), 1) := by decide +kernel
theorem d_Mo_code_24 : decode c_Mo_code 24 = .ok (.ireturn, 1) := by decide +kernel
theorem d_Mo_missing_0 : decode c_Mo_missing 0 = .ok (.iload_n 1, 1) := by decide +kernel
theorem d_Mo_missing_1 : decode c_Mo_missing 1 = .ok (.iconst 0, 1) := by decide +kernel
theorem d_Mo_missing_2 : decode c_Mo_missing 2 = .ok (.aload_n 0, 1) := by decide +kernel
theorem d_Mo_missing_3 : decode c_Mo_missing 3 = .ok (.getfield 175, 3) := by decide +kernel
theorem d_Mo_missing_6 : decode c_Mo_missing 6 = .ok (.iconst 1, 1) := by decide +kernel
theorem d_Mo_missing_7 : decode c_Mo_missing 7 = .ok (.isub, 1) := by decide +kernel
theorem d_Mo_missing_8 : decode c_Mo_missing 8 = .ok (.invokestatic 105, 3) := by decide +kernel
theorem d_Mo_missing_11 : decode c_Mo_missing 11 = .ok (.ifCond .eq 7, 3) := by decide +kernel
theorem d_Mo_missing_14 : decode c_Mo_missing 14 = .ok (.iload_n 2, 1) := by decide +kernel
theorem d_Mo_missing_15 : decode c_Mo_missing 15 = .ok (.ifCond .ge 5, 3) := by decide +kernel
theorem d_Mo_missing_18 : decode c_Mo_missing 18 = .ok (.iconst (-1), 1) := by decide +kernel
theorem d_Mo_missing_19 : decode c_Mo_missing 19 = .ok (.ireturn, 1) := by decide +kernel
theorem d_Mo_missing_20 : decode c_Mo_missing 20 = .ok (.iload_n 1, 1) := by decide +kernel
theorem d_Mo_missing_21 : decode c_Mo_missing 21 = .ok (.ifCond .ne 7, 3) := by decide +kernel
theorem d_Mo_missing_24 : decode c_Mo_missing 24 = .ok (.iconst 0, 1) := by decide +kernel
theorem d_Mo_missing_25 : decode c_Mo_missing 25 = .ok (.goto 11, 3) := by decide +kernel
theorem d_Mo_missing_28 : decode c_Mo_missing 28 = .ok (.aload_n 0, 1) := by decide +kernel
theorem d_Mo_missing_29 : decode c_Mo_missing 29 = .ok (.getfield 93, 3) := by decide +kernel
theorem d_Mo_missing_32 : decode c_Mo_missing 32 = .ok (.iload_n 1, 1) := by decide +kernel
theorem d_Mo_missing_33 : decode c_Mo_missing 33 = .ok (.iconst 1, 1) := by decide +kernel
theorem d_Mo_missing_34 : decode c_Mo_missing 34 = .ok (.isub, 1) := by decide +kernel
theorem d_Mo_missing_35 : decode c_Mo_missing 35 = .ok (.iaload, 1) := by decide +kernel
theorem d_Mo_missing_36 : decode c_Mo_missing 36 = .ok (.istore_n 3, 1) := by decide +kernel
theorem d_Mo_missing_37 : decode c_Mo_missing 37 = .ok (.iload_n 2, 1) := by decide +kernel
theorem d_Mo_missing_38 : decode c_Mo_missing 38 = .ok (.aload_n 0, 1) := by decide +kernel
theorem d_Mo_missing_39 : decode c_Mo_missing 39 = .ok (.getfield 93, 3) := by decide +kernel
theorem d_Mo_missing_42 : decode c_Mo_missing 42 = .ok (.iload_n 1, 1) := by decide +kernel
theorem d_Mo_missing_43 : decode c_Mo_missing 43 = .ok (.iaload, 1) := by decide +kernel
theorem d_Mo_missing_44 : decode c_Mo_missing 44 = .ok (.iload_n 3, 1) := by decide +kernel
theorem d_Mo_missing_45 : decode c_Mo_missing 45 = .ok (.isub, 1) := by decide +kernel
theorem d_Mo_missing_46 : decode c_Mo_missing 46 = .ok (.if_icmp .ge 14, 3) := by decide +kernel
theorem d_Mo_missing_49 : decode c_Mo_missing 49 = .ok (.aload_n 0, 1) := by decide +kernel
theorem d_Mo_missing_50 : decode c_Mo_missing 50 = .ok (.getfield 96, 3) := by decide +kernel
theorem d_Mo_missing_53 : decode c_Mo_missing 53 = .ok (.iload_n 3, 1) := by decide +kernel
theorem d_Mo_missing_54 : decode c_Mo_missing 54 = .ok (.iload_n 2, 1) := by decide +kernel
theorem d_Mo_missing_55 : decode c_Mo_missing 55 = .ok (.iadd, 1) := by decide +kernel
theorem d_Mo_missing_56 : decode c_Mo_missing 56 = .ok (.iaload, 1) := by decide +kernel
theorem d_Mo_missing_57 : decode c_Mo_missing 57 = .ok (.goto 4, 3) := by decide +kernel
theorem d_Mo_missing_60 : decode c_Mo_missing 60 = .ok (.iconst (-1), 1) := by decide +kernel
theorem d_Mo_missing_61 : decode c_Mo_missing 61 = .ok (.ireturn, 1) := by decide +kernel
theorem d_Mo_count_0 : decode c_Mo_count 0 = .ok (.iload_n 1, 1) := by decide +kernel
theorem d_Mo_count_1 : decode c_Mo_count 1 = .ok (.iconst 0, 1) := by decide +kernel
theorem d_Mo_count_2 : decode c_Mo_count 2 = .ok (.iconst 1, 1) := by decide +kernel
theorem d_Mo_count_3 : decode c_Mo_count 3 = .ok (.invokestatic 105, 3) := by decide +kernel
theorem d_Mo_count_6 : decode c_Mo_count 6 = .ok (.ifCond .eq 19, 3) := by decide +kernel
theorem d_Mo_count_9 : decode c_Mo_count 9 = .ok (.iload_n 1, 1) := by decide +kernel
theorem d_Mo_count_10 : decode c_Mo_count 10 = .ok (.ifCond .ne 10, 3) := by decide +kernel
theorem d_Mo_count_13 : decode c_Mo_count 13 = .ok (.aload_n 0, 1) := by decide +kernel
theorem d_Mo_count_14 : decode c_Mo_count 14 = .ok (.getfield 99, 3) := by decide +kernel
theorem d_Mo_count_17 : decode c_Mo_count 17 = .ok (.goto 7, 3) := by decide +kernel
theorem d_Mo_count_20 : decode c_Mo_count 20 = .ok (.aload_n 0, 1) := by decide +kernel
theorem d_Mo_count_21 : decode c_Mo_count 21 = .ok (.getfield 102, 3) := by decide +kernel
theorem d_Mo_count_24 : decode c_Mo_count 24 = .ok (.ireturn, 1) := by decide +kernel
theorem d_Mo_count_25 : decode c_Mo_count 25 = .ok (.iload_n 1, 1) := by decide +kernel
theorem d_Mo_count_26 : decode c_Mo_count 26 = .ok (.iconst 2, 1) := by decide +kernel
theorem d_Mo_count_27 : decode c_Mo_count 27 = .ok (.iconst 3, 1) := by decide +kernel
theorem d_Mo_count_28 : decode c_Mo_count 28 = .ok (.invokestatic 105, 3) := by decide +kernel
theorem d_Mo_count_31 : decode c_Mo_count 31 = .ok (.ifCond .eq 20, 3) := by decide +kernel
theorem d_Mo_count_34 : decode c_Mo_count 34 = .ok (.iload_n 1, 1) := by decide +kernel
theorem d_Mo_count_35 : decode c_Mo_count 35 = .ok (.iconst 2, 1) := by decide +kernel
theorem d_Mo_count_36 : decode c_Mo_count 36 = .ok (.if_icmp .ne 10, 3) := by decide +kernel
theorem d_Mo_count_39 : decode c_Mo_count 39 = .ok (.aload_n 0, 1) := by decide +kernel
theorem d_Mo_count_40 : decode c_Mo_count 40 = .ok (.getfield 160, 3) := by decide +kernel
theorem d_Mo_count_43 : decode c_Mo_count 43 = .ok (.goto 7, 3) := by decide +kernel
theorem d_Mo_count_46 : decode c_Mo_count 46 = .ok (.aload_n 0, 1) := by decide +kernel
theorem d_Mo_count_47 : decode c_Mo_count 47 = .ok (.getfield 175, 3) := by decide +kernel
theorem d_Mo_count_50 : decode c_Mo_count 50 = .ok (.ireturn, 1) := by decide +kernel
theorem d_Mo_count_51 : decode c_Mo_count 51 = .ok (.iload_n 1, 1) := by decide +kernel
theorem d_Mo_count_52 : decode c_Mo_count 52 = .ok (.iconst 4, 1) := by decide +kernel
theorem d_Mo_count_53 : decode c_Mo_count 53 = .ok (.bipush 7, 2) := by decide +kernel
theorem d_Mo_count_55 : decode c_Mo_count 55 = .ok (.invokestatic 105, 3) := by decide +kernel
theorem d_Mo_count_58 : decode c_Mo_count 58 = .ok (.ifCond .eq 14, 3) := by decide +kernel
theorem d_Mo_count_61 : decode c_Mo_count 61 = .ok (.aload_n 0, 1) := by decide +kernel
theorem d_Mo_count_62 : decode c_Mo_count 62 = .ok (.getfield 28, 3) := by decide +kernel
theorem d_Mo_count_65 : decode c_Mo_count 65 = .ok (.iload_n 1, 1) := by decide +kernel
theorem d_Mo_count_66 : decode c_Mo_count 66 = .ok (.iconst 4, 1) := by decide +kernel
theorem d_Mo_count_67 : decode c_Mo_count 67 = .ok (.isub, 1) := by decide +kernel
theorem d_Mo_count_68 : decode c_Mo_count 68 = .ok (.iaload, 1) := by decide +kernel
theorem d_Mo_count_69 : decode c_Mo_count 69 = .ok (.goto 4, 3) := by decide +kernel
theorem d_Mo_count_72 : decode c_Mo_count 72 = .ok (.iconst (-1), 1) := by decide +kernel
theorem d_Mo_count_73 : decode c_Mo_count 73 = .ok (.ireturn, 1) := by decide +kernel
theorem d_As_init_0 : decode c_As_init 0 = .ok (.aload_n 0, 1) := by decide +kernel
theorem d_As_init_1 : decode c_As_init 1 = .ok (.invokespecial 3, 3) := by decide +kernel
theorem d_As_init_4 : decode c_As_init 4 = .ok (.aload_n 0, 1) := by decide +kernel
theorem d_As_init_5 : decode c_As_init 5 = .ok (.new 9, 3) := by decide +kernel
theorem d_As_init_8 : decode c_As_init 8 = .ok (.dup, 1) := by decide +kernel
theorem d_As_init_9 : decode c_As_init 9 = .ok (.invokespecial 11, 3) := by decide +kernel
theorem d_As_init_12 : decode c_As_init 12 = .ok (.putfield 12, 3) := by decide +kernel
theorem d_As_init_15 : decode c_As_init 15 = .ok (.aload_n 0, 1) := by decide +kernel
theorem d_As_init_16 : decode c_As_init 16 = .ok (.bipush 120, 2) := by decide +kernel
theorem d_As_init_18 : decode c_As_init 18 = .ok (.newarray .int, 2) := by decide +kernel
theorem d_As_init_20 : decode c_As_init 20 = .ok (.putfield 18, 3) := by decide +kernel
theorem d_As_init_23 : decode c_As_init 23 = .ok (.aload_n 0, 1) := by decide +kernel
theorem d_As_init_24 : decode c_As_init 24 = .ok (.aload_n 1, 1) := by decide +kernel
theorem d_As_init_25 : decode c_As_init 25 = .ok (.putfield 22, 3) := by decide +kernel
theorem d_As_init_28 : decode c_As_init 28 = .ok (.aload_n 0, 1) := by decide +kernel
theorem d_As_init_29 : decode c_As_init 29 = .ok (.aload_n 2, 1) := by decide +kernel
theorem d_As_init_30 : decode c_As_init 30 = .ok (.putfield 26, 3) := by decide +kernel
theorem d_As_init_33 : decode c_As_init 33 = .ok (.return_, 1) := by decide +kernel
theorem d_As_forget_0 : decode c_As_forget 0 = .ok (.aload_n 0, 1) := by decide +kernel
theorem d_As_forget_1 : decode c_As_forget 1 = .ok (.iconst 0, 1) := by decide +kernel
theorem d_As_forget_2 : decode c_As_forget 2 = .ok (.putfield 30, 3) := by decide +kernel
theorem d_As_forget_5 : decode c_As_forget 5 = .ok (.aload_n 0, 1) := by decide +kernel
theorem d_As_forget_6 : decode c_As_forget 6 = .ok (.getfield 12, 3) := by decide +kernel
theorem d_As_forget_9 : decode c_As_forget 9 = .ok (.invokevirtual 34, 3) := by decide +kernel
theorem d_As_forget_12 : decode c_As_forget 12 = .ok (.return_, 1) := by decide +kernel
theorem d_As_answer_0 : decode c_As_answer 0 = .ok (.aload_n 0, 1) := by decide +kernel
theorem d_As_answer_1 : decode c_As_answer 1 = .ok (.invokevirtual 37, 3) := by decide +kernel
theorem d_As_answer_4 : decode c_As_answer 4 = .ok (.aload_n 0, 1) := by decide +kernel
theorem d_As_answer_5 : decode c_As_answer 5 = .ok (.iconst 0, 1) := by decide +kernel
theorem d_As_answer_6 : decode c_As_answer 6 = .ok (.putfield 40, 3) := by decide +kernel
theorem d_As_answer_9 : decode c_As_answer 9 = .ok (.aload_n 0, 1) := by decide +kernel
theorem d_As_answer_10 : decode c_As_answer 10 = .ok (.iconst 0, 1) := by decide +kernel
theorem d_As_answer_11 : decode c_As_answer 11 = .ok (.putfield 43, 3) := by decide +kernel
theorem d_As_answer_14 : decode c_As_answer 14 = .ok (.aload_n 0, 1) := by decide +kernel
theorem d_As_answer_15 : decode c_As_answer 15 = .ok (.iload_n 1, 1) := by decide +kernel
theorem d_As_answer_16 : decode c_As_answer 16 = .ok (.aload_n 2, 1) := by decide +kernel
theorem d_As_answer_17 : decode c_As_answer 17 = .ok (.iconst 1, 1) := by decide +kernel
theorem d_As_answer_18 : decode c_As_answer 18 = .ok (.invokevirtual 46, 3) := by decide +kernel
theorem d_As_answer_21 : decode c_As_answer 21 = .ok (.pop, 1) := by decide +kernel
theorem d_As_answer_22 : decode c_As_answer 22 = .ok (.aload_n 0, 1) := by decide +kernel
theorem d_As_answer_23 : decode c_As_answer 23 = .ok (.getfield 43, 3) := by decide +kernel
theorem d_As_answer_26 : decode c_As_answer 26 = .ok (.ifCond .eq 12, 3) := by decide +kernel
theorem d_As_answer_29 : decode c_As_answer 29 = .ok (.aload_n 0, 1) := by decide +kernel
theorem d_As_answer_30 : decode c_As_answer 30 = .ok (.invokevirtual 37, 3) := by decide +kernel
theorem d_As_answer_33 : decode c_As_answer 33 = .ok (.aload_n 0, 1) := by decide +kernel
theorem d_As_answer_34 : decode c_As_answer 34 = .ok (.getfield 43, 3) := by decide +kernel
theorem d_As_answer_37 : decode c_As_answer 37 = .ok (.ireturn, 1) := by decide +kernel
theorem d_As_answer_38 : decode c_As_answer 38 = .ok (.aload_n 0, 1) := by decide +kernel
theorem d_As_answer_39 : decode c_As_answer 39 = .ok (.getfield 30, 3) := by decide +kernel
theorem d_As_answer_42 : decode c_As_answer 42 = .ok (.ireturn, 1) := by decide +kernel
theorem d_As_workOutObject_0 : decode c_As_workOutObject 0 = .ok (.aload_n 0, 1) := by decide +kernel
theorem d_As_workOutObject_1 : decode c_As_workOutObject 1 = .ok (.iload_n 1, 1) := by decide +kernel
theorem d_As_workOutObject_2 : decode c_As_workOutObject 2 = .ok (.aload_n 2, 1) := by decide +kernel
theorem d_As_workOutObject_3 : decode c_As_workOutObject 3 = .ok (.iload_n 3, 1) := by decide +kernel
theorem d_As_workOutObject_4 : decode c_As_workOutObject 4 = .ok (.invokevirtual 50, 3) := by decide +kernel
theorem d_As_workOutObject_7 : decode c_As_workOutObject 7 = .ok (.astore 4, 2) := by decide +kernel
theorem d_As_workOutObject_9 : decode c_As_workOutObject 9 = .ok (.aload_n 0, 1) := by decide +kernel
theorem d_As_workOutObject_10 : decode c_As_workOutObject 10 = .ok (.getfield 30, 3) := by decide +kernel
theorem d_As_workOutObject_13 : decode c_As_workOutObject 13 = .ok (.istore 5, 2) := by decide +kernel
theorem d_As_workOutObject_15 : decode c_As_workOutObject 15 = .ok (.iconst 1, 1) := by decide +kernel
theorem d_As_workOutObject_16 : decode c_As_workOutObject 16 = .ok (.istore 6, 2) := by decide +kernel
theorem d_As_workOutObject_18 : decode c_As_workOutObject 18 = .ok (.aload_n 0, 1) := by decide +kernel
theorem d_As_workOutObject_19 : decode c_As_workOutObject 19 = .ok (.iconst 2, 1) := by decide +kernel
theorem d_As_workOutObject_20 : decode c_As_workOutObject 20 = .ok (.invokevirtual 54, 3) := by decide +kernel
theorem d_As_workOutObject_23 : decode c_As_workOutObject 23 = .ok (.aload 4, 2) := by decide +kernel
theorem d_As_workOutObject_25 : decode c_As_workOutObject 25 = .ok (.astore 7, 2) := by decide +kernel
theorem d_As_workOutObject_27 : decode c_As_workOutObject 27 = .ok (.aload 7, 2) := by decide +kernel
theorem d_As_workOutObject_29 : decode c_As_workOutObject 29 = .ok (.ifnull 74, 3) := by decide +kernel
theorem d_As_workOutObject_32 : decode c_As_workOutObject 32 = .ok (.aload_n 0, 1) := by decide +kernel
theorem d_As_workOutObject_33 : decode c_As_workOutObject 33 = .ok (.getfield 43, 3) := by decide +kernel
theorem d_As_workOutObject_36 : decode c_As_workOutObject 36 = .ok (.ifCond .ne 67, 3) := by decide +kernel
theorem d_As_workOutObject_39 : decode c_As_workOutObject 39 = .ok (.aload_n 0, 1) := by decide +kernel
theorem d_As_workOutObject_40 : decode c_As_workOutObject 40 = .ok (.bipush 10, 2) := by decide +kernel
theorem d_As_workOutObject_42 : decode c_As_workOutObject 42 = .ok (.aload 7, 2) := by decide +kernel
theorem d_As_workOutObject_44 : decode c_As_workOutObject 44 = .ok (.getfield 58, 3) := by decide +kernel
theorem d_As_workOutObject_47 : decode c_As_workOutObject 47 = .ok (.iadd, 1) := by decide +kernel
theorem d_As_workOutObject_48 : decode c_As_workOutObject 48 = .ok (.invokevirtual 54, 3) := by decide +kernel
theorem d_As_workOutObject_51 : decode c_As_workOutObject 51 = .ok (.aload_n 0, 1) := by decide +kernel
theorem d_As_workOutObject_52 : decode c_As_workOutObject 52 = .ok (.getfield 12, 3) := by decide +kernel
theorem d_As_workOutObject_55 : decode c_As_workOutObject 55 = .ok (.aload 7, 2) := by decide +kernel
theorem d_As_workOutObject_57 : decode c_As_workOutObject 57 = .ok (.getfield 58, 3) := by decide +kernel
theorem d_As_workOutObject_60 : decode c_As_workOutObject 60 = .ok (.invokevirtual 63, 3) := by decide +kernel
theorem d_As_workOutObject_63 : decode c_As_workOutObject 63 = .ok (.aload_n 0, 1) := by decide +kernel
theorem d_As_workOutObject_64 : decode c_As_workOutObject 64 = .ok (.iload_n 1, 1) := by decide +kernel
theorem d_As_workOutObject_65 : decode c_As_workOutObject 65 = .ok (.aload 7, 2) := by decide +kernel
theorem d_As_workOutObject_67 : decode c_As_workOutObject 67 = .ok (.iload_n 3, 1) := by decide +kernel
theorem d_As_workOutObject_68 : decode c_As_workOutObject 68 = .ok (.invokevirtual 66, 3) := by decide +kernel
theorem d_As_workOutObject_71 : decode c_As_workOutObject 71 = .ok (.ifCond .eq 12, 3) := by decide +kernel
theorem d_As_workOutObject_74 : decode c_As_workOutObject 74 = .ok (.iload 6, 2) := by decide +kernel
theorem d_As_workOutObject_76 : decode c_As_workOutObject 76 = .ok (.ifCond .eq 7, 3) := by decide +kernel
theorem d_As_workOutObject_79 : decode c_As_workOutObject 79 = .ok (.iconst 1, 1) := by decide +kernel
theorem d_As_workOutObject_80 : decode c_As_workOutObject 80 = .ok (.goto 4, 3) := by decide +kernel
theorem d_As_workOutObject_83 : decode c_As_workOutObject 83 = .ok (.iconst 0, 1) := by decide +kernel
theorem d_As_workOutObject_84 : decode c_As_workOutObject 84 = .ok (.istore 6, 2) := by decide +kernel
theorem d_As_workOutObject_86 : decode c_As_workOutObject 86 = .ok (.aload_n 0, 1) := by decide +kernel
theorem d_As_workOutObject_87 : decode c_As_workOutObject 87 = .ok (.getfield 12, 3) := by decide +kernel
theorem d_As_workOutObject_90 : decode c_As_workOutObject 90 = .ok (.invokevirtual 69, 3) := by decide +kernel
theorem d_As_workOutObject_93 : decode c_As_workOutObject 93 = .ok (.aload 7, 2) := by decide +kernel
theorem d_As_workOutObject_95 : decode c_As_workOutObject 95 = .ok (.getfield 72, 3) := by decide +kernel
theorem d_As_workOutObject_98 : decode c_As_workOutObject 98 = .ok (.astore 7, 2) := by decide +kernel
theorem d_As_workOutObject_100 : decode c_As_workOutObject 100 = .ok (.goto (-73), 3) := by decide +kernel
theorem d_As_workOutObject_103 : decode c_As_workOutObject 103 = .ok (.aload_n 0, 1) := by decide +kernel
theorem d_As_workOutObject_104 : decode c_As_workOutObject 104 = .ok (.iconst 3, 1) := by decide +kernel
theorem d_As_workOutObject_105 : decode c_As_workOutObject 105 = .ok (.invokevirtual 54, 3) := by decide +kernel
theorem d_As_workOutObject_108 : decode c_As_workOutObject 108 = .ok (.iload 6, 2) := by decide +kernel
theorem d_As_workOutObject_110 : decode c_As_workOutObject 110 = .ok (.ifCond .ne 16, 3) := by decide +kernel
theorem d_As_workOutObject_113 : decode c_As_workOutObject 113 = .ok (.aload_n 0, 1) := by decide +kernel
theorem d_As_workOutObject_114 : decode c_As_workOutObject 114 = .ok (.getfield 43, 3) := by decide +kernel
theorem d_As_workOutObject_117 : decode c_As_workOutObject 117 = .ok (.ifCond .ne 9, 3) := by decide +kernel
theorem d_As_workOutObject_120 : decode c_As_workOutObject 120 = .ok (.aload_n 0, 1) := by decide +kernel
theorem d_As_workOutObject_121 : decode c_As_workOutObject 121 = .ok (.iload 5, 2) := by decide +kernel
theorem d_As_workOutObject_123 : decode c_As_workOutObject 123 = .ok (.invokevirtual 76, 3) := by decide +kernel
theorem d_As_workOutObject_126 : decode c_As_workOutObject 126 = .ok (.iload 6, 2) := by decide +kernel
theorem d_As_workOutObject_128 : decode c_As_workOutObject 128 = .ok (.ireturn, 1) := by decide +kernel
theorem d_As_collectEntries_0 : decode c_As_collectEntries 0 = .ok (.iload_n 3, 1) := by decide +kernel
theorem d_As_collectEntries_1 : decode c_As_collectEntries 1 = .ok (.bipush 13, 2) := by decide +kernel
theorem d_As_collectEntries_3 : decode c_As_collectEntries 3 = .ok (.if_icmp .le 9, 3) := by decide +kernel
theorem d_As_collectEntries_6 : decode c_As_collectEntries 6 = .ok (.aload_n 0, 1) := by decide +kernel
theorem d_As_collectEntries_7 : decode c_As_collectEntries 7 = .ok (.bipush (-5), 2) := by decide +kernel
theorem d_As_collectEntries_9 : decode c_As_collectEntries 9 = .ok (.putfield 43, 3) := by decide +kernel
theorem d_As_collectEntries_12 : decode c_As_collectEntries 12 = .ok (.aload_n 0, 1) := by decide +kernel
theorem d_As_collectEntries_13 : decode c_As_collectEntries 13 = .ok (.getfield 43, 3) := by decide +kernel
theorem d_As_collectEntries_16 : decode c_As_collectEntries 16 = .ok (.ifCond .eq 5, 3) := by decide +kernel
theorem d_As_collectEntries_19 : decode c_As_collectEntries 19 = .ok (.aconst_null, 1) := by decide +kernel
theorem d_As_collectEntries_20 : decode c_As_collectEntries 20 = .ok (.areturn, 1) := by decide +kernel
theorem d_As_collectEntries_21 : decode c_As_collectEntries 21 = .ok (.aload_n 0, 1) := by decide +kernel
theorem d_As_collectEntries_22 : decode c_As_collectEntries 22 = .ok (.getfield 26, 3) := by decide +kernel
theorem d_As_collectEntries_25 : decode c_As_collectEntries 25 = .ok (.aload_n 0, 1) := by decide +kernel
theorem d_As_collectEntries_26 : decode c_As_collectEntries 26 = .ok (.getfield 22, 3) := by decide +kernel
theorem d_As_collectEntries_29 : decode c_As_collectEntries 29 = .ok (.iload_n 1, 1) := by decide +kernel
theorem d_As_collectEntries_30 : decode c_As_collectEntries 30 = .ok (.invokevirtual 79, 3) := by decide +kernel
theorem d_As_collectEntries_33 : decode c_As_collectEntries 33 = .ok (.aload_n 2, 1) := by decide +kernel
theorem d_As_collectEntries_34 : decode c_As_collectEntries 34 = .ok (.invokevirtual 85, 3) := by decide +kernel
theorem d_As_collectEntries_37 : decode c_As_collectEntries 37 = .ok (.astore 4, 2) := by decide +kernel
theorem d_As_collectEntries_39 : decode c_As_collectEntries 39 = .ok (.aload_n 0, 1) := by decide +kernel
theorem d_As_collectEntries_40 : decode c_As_collectEntries 40 = .ok (.getfield 26, 3) := by decide +kernel
theorem d_As_collectEntries_43 : decode c_As_collectEntries 43 = .ok (.getfield 91, 3) := by decide +kernel
theorem d_As_collectEntries_46 : decode c_As_collectEntries 46 = .ok (.ifCond .eq 9, 3) := by decide +kernel
theorem d_As_collectEntries_49 : decode c_As_collectEntries 49 = .ok (.aload_n 0, 1) := by decide +kernel
theorem d_As_collectEntries_50 : decode c_As_collectEntries 50 = .ok (.bipush (-4), 2) := by decide +kernel
theorem d_As_collectEntries_52 : decode c_As_collectEntries 52 = .ok (.putfield 43, 3) := by decide +kernel
theorem d_As_collectEntries_55 : decode c_As_collectEntries 55 = .ok (.aload 4, 2) := by decide +kernel
theorem d_As_collectEntries_57 : decode c_As_collectEntries 57 = .ok (.areturn, 1) := by decide +kernel
theorem d_As_workOutValue_0 : decode c_As_workOutValue 0 = .ok (.aload_n 2, 1) := by decide +kernel
theorem d_As_workOutValue_1 : decode c_As_workOutValue 1 = .ok (.getfield 95, 3) := by decide +kernel
theorem d_As_workOutValue_4 : decode c_As_workOutValue 4 = .ok (.iconst 2, 1) := by decide +kernel
theorem d_As_workOutValue_5 : decode c_As_workOutValue 5 = .ok (.if_icmp .ne 21, 3) := by decide +kernel
theorem d_As_workOutValue_8 : decode c_As_workOutValue 8 = .ok (.aload_n 0, 1) := by decide +kernel
theorem d_As_workOutValue_9 : decode c_As_workOutValue 9 = .ok (.sipush 2000, 3) := by decide +kernel
theorem d_As_workOutValue_12 : decode c_As_workOutValue 12 = .ok (.aload_n 0, 1) := by decide +kernel
theorem d_As_workOutValue_13 : decode c_As_workOutValue 13 = .ok (.getfield 22, 3) := by decide +kernel
theorem d_As_workOutValue_16 : decode c_As_workOutValue 16 = .ok (.iload_n 1, 1) := by decide +kernel
theorem d_As_workOutValue_17 : decode c_As_workOutValue 17 = .ok (.invokevirtual 79, 3) := by decide +kernel
theorem d_As_workOutValue_20 : decode c_As_workOutValue 20 = .ok (.iadd, 1) := by decide +kernel
theorem d_As_workOutValue_21 : decode c_As_workOutValue 21 = .ok (.invokevirtual 54, 3) := by decide +kernel
theorem d_As_workOutValue_24 : decode c_As_workOutValue 24 = .ok (.iconst 1, 1) := by decide +kernel
theorem d_As_workOutValue_25 : decode c_As_workOutValue 25 = .ok (.ireturn, 1) := by decide +kernel
theorem d_As_workOutValue_26 : decode c_As_workOutValue 26 = .ok (.aload_n 2, 1) := by decide +kernel
theorem d_As_workOutValue_27 : decode c_As_workOutValue 27 = .ok (.getfield 98, 3) := by decide +kernel
theorem d_As_workOutValue_30 : decode c_As_workOutValue 30 = .ok (.lookupswitch 42 #[(1, 26), (2, 34)], 26) := by decide +kernel
theorem d_As_workOutValue_56 : decode c_As_workOutValue 56 = .ok (.aload_n 0, 1) := by decide +kernel
theorem d_As_workOutValue_57 : decode c_As_workOutValue 57 = .ok (.iload_n 1, 1) := by decide +kernel
theorem d_As_workOutValue_58 : decode c_As_workOutValue 58 = .ok (.aload_n 2, 1) := by decide +kernel
theorem d_As_workOutValue_59 : decode c_As_workOutValue 59 = .ok (.iload_n 3, 1) := by decide +kernel
theorem d_As_workOutValue_60 : decode c_As_workOutValue 60 = .ok (.invokevirtual 101, 3) := by decide +kernel
theorem d_As_workOutValue_63 : decode c_As_workOutValue 63 = .ok (.ireturn, 1) := by decide +kernel
theorem d_As_workOutValue_64 : decode c_As_workOutValue 64 = .ok (.aload_n 0, 1) := by decide +kernel
theorem d_As_workOutValue_65 : decode c_As_workOutValue 65 = .ok (.iload_n 1, 1) := by decide +kernel
theorem d_As_workOutValue_66 : decode c_As_workOutValue 66 = .ok (.aload_n 2, 1) := by decide +kernel
theorem d_As_workOutValue_67 : decode c_As_workOutValue 67 = .ok (.iload_n 3, 1) := by decide +kernel
theorem d_As_workOutValue_68 : decode c_As_workOutValue 68 = .ok (.invokevirtual 104, 3) := by decide +kernel
theorem d_As_workOutValue_71 : decode c_As_workOutValue 71 = .ok (.ireturn, 1) := by decide +kernel
theorem d_As_workOutValue_72 : decode c_As_workOutValue 72 = .ok (.aload_n 0, 1) := by decide +kernel
theorem d_As_workOutValue_73 : decode c_As_workOutValue 73 = .ok (.iload_n 1, 1) := by decide +kernel
theorem d_As_workOutValue_74 : decode c_As_workOutValue 74 = .ok (.aload_n 2, 1) := by decide +kernel
theorem d_As_workOutValue_75 : decode c_As_workOutValue 75 = .ok (.invokevirtual 107, 3) := by decide +kernel
theorem d_As_workOutValue_78 : decode c_As_workOutValue 78 = .ok (.ireturn, 1) := by decide +kernel
theorem d_As_workOutNumber_0 : decode c_As_workOutNumber 0 = .ok (.aload_n 0, 1) := by decide +kernel
theorem d_As_workOutNumber_1 : decode c_As_workOutNumber 1 = .ok (.getfield 22, 3) := by decide +kernel
theorem d_As_workOutNumber_4 : decode c_As_workOutNumber 4 = .ok (.iload_n 1, 1) := by decide +kernel
theorem d_As_workOutNumber_5 : decode c_As_workOutNumber 5 = .ok (.aload_n 2, 1) := by decide +kernel
theorem d_As_workOutNumber_6 : decode c_As_workOutNumber 6 = .ok (.getfield 111, 3) := by decide +kernel
theorem d_As_workOutNumber_9 : decode c_As_workOutNumber 9 = .ok (.invokevirtual 114, 3) := by decide +kernel
theorem d_As_workOutNumber_12 : decode c_As_workOutNumber 12 = .ok (.istore_n 3, 1) := by decide +kernel
theorem d_As_workOutNumber_13 : decode c_As_workOutNumber 13 = .ok (.iload_n 3, 1) := by decide +kernel
theorem d_As_workOutNumber_14 : decode c_As_workOutNumber 14 = .ok (.iconst (-1), 1) := by decide +kernel
theorem d_As_workOutNumber_15 : decode c_As_workOutNumber 15 = .ok (.if_icmp .ne 9, 3) := by decide +kernel
theorem d_As_workOutNumber_18 : decode c_As_workOutNumber 18 = .ok (.aload_n 0, 1) := by decide +kernel
theorem d_As_workOutNumber_19 : decode c_As_workOutNumber 19 = .ok (.aload_n 2, 1) := by decide +kernel
theorem d_As_workOutNumber_20 : decode c_As_workOutNumber 20 = .ok (.invokevirtual 118, 3) := by decide +kernel
theorem d_As_workOutNumber_23 : decode c_As_workOutNumber 23 = .ok (.ireturn, 1) := by decide +kernel
theorem d_As_workOutNumber_24 : decode c_As_workOutNumber 24 = .ok (.aload_n 0, 1) := by decide +kernel
theorem d_As_workOutNumber_25 : decode c_As_workOutNumber 25 = .ok (.sipush 1000, 3) := by decide +kernel
theorem d_As_workOutNumber_28 : decode c_As_workOutNumber 28 = .ok (.iload_n 3, 1) := by decide +kernel
theorem d_As_workOutNumber_29 : decode c_As_workOutNumber 29 = .ok (.iadd, 1) := by decide +kernel
theorem d_As_workOutNumber_30 : decode c_As_workOutNumber 30 = .ok (.invokevirtual 54, 3) := by decide +kernel
theorem d_As_workOutNumber_33 : decode c_As_workOutNumber 33 = .ok (.iconst 1, 1) := by decide +kernel
theorem d_As_workOutNumber_34 : decode c_As_workOutNumber 34 = .ok (.ireturn, 1) := by decide +kernel
theorem d_As_workOutLink_0 : decode c_As_workOutLink 0 = .ok (.aload_n 0, 1) := by decide +kernel
theorem d_As_workOutLink_1 : decode c_As_workOutLink 1 = .ok (.getfield 22, 3) := by decide +kernel
theorem d_As_workOutLink_4 : decode c_As_workOutLink 4 = .ok (.iload_n 1, 1) := by decide +kernel
theorem d_As_workOutLink_5 : decode c_As_workOutLink 5 = .ok (.aload_n 2, 1) := by decide +kernel
theorem d_As_workOutLink_6 : decode c_As_workOutLink 6 = .ok (.getfield 111, 3) := by decide +kernel
theorem d_As_workOutLink_9 : decode c_As_workOutLink 9 = .ok (.invokevirtual 122, 3) := by decide +kernel
theorem d_As_workOutLink_12 : decode c_As_workOutLink 12 = .ok (.ifCond .ne 9, 3) := by decide +kernel
theorem d_As_workOutLink_15 : decode c_As_workOutLink 15 = .ok (.aload_n 0, 1) := by decide +kernel
theorem d_As_workOutLink_16 : decode c_As_workOutLink 16 = .ok (.aload_n 2, 1) := by decide +kernel
theorem d_As_workOutLink_17 : decode c_As_workOutLink 17 = .ok (.invokevirtual 118, 3) := by decide +kernel
theorem d_As_workOutLink_20 : decode c_As_workOutLink 20 = .ok (.ireturn, 1) := by decide +kernel
theorem d_As_workOutLink_21 : decode c_As_workOutLink 21 = .ok (.aload_n 0, 1) := by decide +kernel
theorem d_As_workOutLink_22 : decode c_As_workOutLink 22 = .ok (.aload_n 0, 1) := by decide +kernel
theorem d_As_workOutLink_23 : decode c_As_workOutLink 23 = .ok (.getfield 22, 3) := by decide +kernel
theorem d_As_workOutLink_26 : decode c_As_workOutLink 26 = .ok (.iload_n 1, 1) := by decide +kernel
theorem d_As_workOutLink_27 : decode c_As_workOutLink 27 = .ok (.aload_n 2, 1) := by decide +kernel
theorem d_As_workOutLink_28 : decode c_As_workOutLink 28 = .ok (.getfield 111, 3) := by decide +kernel
theorem d_As_workOutLink_31 : decode c_As_workOutLink 31 = .ok (.iconst 0, 1) := by decide +kernel
theorem d_As_workOutLink_32 : decode c_As_workOutLink 32 = .ok (.invokevirtual 125, 3) := by decide +kernel
theorem d_As_workOutLink_35 : decode c_As_workOutLink 35 = .ok (.aload_n 2, 1) := by decide +kernel
theorem d_As_workOutLink_36 : decode c_As_workOutLink 36 = .ok (.iload_n 3, 1) := by decide +kernel
theorem d_As_workOutLink_37 : decode c_As_workOutLink 37 = .ok (.iconst 1, 1) := by decide +kernel
theorem d_As_workOutLink_38 : decode c_As_workOutLink 38 = .ok (.iadd, 1) := by decide +kernel
theorem d_As_workOutLink_39 : decode c_As_workOutLink 39 = .ok (.invokevirtual 46, 3) := by decide +kernel
theorem d_As_workOutLink_42 : decode c_As_workOutLink 42 = .ok (.istore 4, 2) := by decide +kernel
theorem d_As_workOutLink_44 : decode c_As_workOutLink 44 = .ok (.iload 4, 2) := by decide +kernel
theorem d_As_workOutLink_46 : decode c_As_workOutLink 46 = .ok (.ifCond .ne 10, 3) := by decide +kernel
theorem d_As_workOutLink_49 : decode c_As_workOutLink 49 = .ok (.aload_n 2, 1) := by decide +kernel
theorem d_As_workOutLink_50 : decode c_As_workOutLink 50 = .ok (.getfield 129, 3) := by decide +kernel
theorem d_As_workOutLink_53 : decode c_As_workOutLink 53 = .ok (.ifCond .ne 7, 3) := by decide +kernel
theorem d_As_workOutLink_56 : decode c_As_workOutLink 56 = .ok (.iconst 1, 1) := by decide +kernel
theorem d_As_workOutLink_57 : decode c_As_workOutLink 57 = .ok (.goto 4, 3) := by decide +kernel
theorem d_As_workOutLink_60 : decode c_As_workOutLink 60 = .ok (.iconst 0, 1) := by decide +kernel
theorem d_As_workOutLink_61 : decode c_As_workOutLink 61 = .ok (.ireturn, 1) := by decide +kernel
theorem d_As_workOutMany_0 : decode c_As_workOutMany 0 = .ok (.iconst 1, 1) := by decide +kernel
theorem d_As_workOutMany_1 : decode c_As_workOutMany 1 = .ok (.istore 4, 2) := by decide +kernel
theorem d_As_workOutMany_3 : decode c_As_workOutMany 3 = .ok (.aload_n 0, 1) := by decide +kernel
theorem d_As_workOutMany_4 : decode c_As_workOutMany 4 = .ok (.iconst 4, 1) := by decide +kernel
theorem d_As_workOutMany_5 : decode c_As_workOutMany 5 = .ok (.invokevirtual 54, 3) := by decide +kernel
theorem d_As_workOutMany_8 : decode c_As_workOutMany 8 = .ok (.iconst 0, 1) := by decide +kernel
theorem d_As_workOutMany_9 : decode c_As_workOutMany 9 = .ok (.istore 5, 2) := by decide +kernel
theorem d_As_workOutMany_11 : decode c_As_workOutMany 11 = .ok (.iload 5, 2) := by decide +kernel
theorem d_As_workOutMany_13 : decode c_As_workOutMany 13 = .ok (.aload_n 0, 1) := by decide +kernel
theorem d_As_workOutMany_14 : decode c_As_workOutMany 14 = .ok (.getfield 22, 3) := by decide +kernel
theorem d_As_workOutMany_17 : decode c_As_workOutMany 17 = .ok (.iload_n 1, 1) := by decide +kernel
theorem d_As_workOutMany_18 : decode c_As_workOutMany 18 = .ok (.aload_n 2, 1) := by decide +kernel
theorem d_As_workOutMany_19 : decode c_As_workOutMany 19 = .ok (.getfield 111, 3) := by decide +kernel
theorem d_As_workOutMany_22 : decode c_As_workOutMany 22 = .ok (.invokevirtual 122, 3) := by decide +kernel
theorem d_As_workOutMany_25 : decode c_As_workOutMany 25 = .ok (.if_icmp .ge 72, 3) := by decide +kernel
theorem d_As_workOutMany_28 : decode c_As_workOutMany 28 = .ok (.aload_n 0, 1) := by decide +kernel
theorem d_As_workOutMany_29 : decode c_As_workOutMany 29 = .ok (.getfield 43, 3) := by decide +kernel
theorem d_As_workOutMany_32 : decode c_As_workOutMany 32 = .ok (.ifCond .ne 65, 3) := by decide +kernel
theorem d_As_workOutMany_35 : decode c_As_workOutMany 35 = .ok (.aload_n 0, 1) := by decide +kernel
theorem d_As_workOutMany_36 : decode c_As_workOutMany 36 = .ok (.getfield 12, 3) := by decide +kernel
theorem d_As_workOutMany_39 : decode c_As_workOutMany 39 = .ok (.bipush 10, 2) := by decide +kernel
theorem d_As_workOutMany_41 : decode c_As_workOutMany 41 = .ok (.iload 5, 2) := by decide +kernel
theorem d_As_workOutMany_43 : decode c_As_workOutMany 43 = .ok (.iadd, 1) := by decide +kernel
theorem d_As_workOutMany_44 : decode c_As_workOutMany 44 = .ok (.invokevirtual 63, 3) := by decide +kernel
theorem d_As_workOutMany_47 : decode c_As_workOutMany 47 = .ok (.aload_n 0, 1) := by decide +kernel
theorem d_As_workOutMany_48 : decode c_As_workOutMany 48 = .ok (.aload_n 0, 1) := by decide +kernel
theorem d_As_workOutMany_49 : decode c_As_workOutMany 49 = .ok (.getfield 22, 3) := by decide +kernel
theorem d_As_workOutMany_52 : decode c_As_workOutMany 52 = .ok (.iload_n 1, 1) := by decide +kernel
theorem d_As_workOutMany_53 : decode c_As_workOutMany 53 = .ok (.aload_n 2, 1) := by decide +kernel
theorem d_As_workOutMany_54 : decode c_As_workOutMany 54 = .ok (.getfield 111, 3) := by decide +kernel
theorem d_As_workOutMany_57 : decode c_As_workOutMany 57 = .ok (.iload 5, 2) := by decide +kernel
theorem d_As_workOutMany_59 : decode c_As_workOutMany 59 = .ok (.invokevirtual 125, 3) := by decide +kernel
theorem d_As_workOutMany_62 : decode c_As_workOutMany 62 = .ok (.aload_n 2, 1) := by decide +kernel
theorem d_As_workOutMany_63 : decode c_As_workOutMany 63 = .ok (.iload_n 3, 1) := by decide +kernel
theorem d_As_workOutMany_64 : decode c_As_workOutMany 64 = .ok (.iconst 1, 1) := by decide +kernel
theorem d_As_workOutMany_65 : decode c_As_workOutMany 65 = .ok (.iadd, 1) := by decide +kernel
theorem d_As_workOutMany_66 : decode c_As_workOutMany 66 = .ok (.invokevirtual 46, 3) := by decide +kernel
theorem d_As_workOutMany_69 : decode c_As_workOutMany 69 = .ok (.ifCond .eq 12, 3) := by decide +kernel
theorem d_As_workOutMany_72 : decode c_As_workOutMany 72 = .ok (.iload 4, 2) := by decide +kernel
theorem d_As_workOutMany_74 : decode c_As_workOutMany 74 = .ok (.ifCond .eq 7, 3) := by decide +kernel
theorem d_As_workOutMany_77 : decode c_As_workOutMany 77 = .ok (.iconst 1, 1) := by decide +kernel
theorem d_As_workOutMany_78 : decode c_As_workOutMany 78 = .ok (.goto 4, 3) := by decide +kernel
theorem d_As_workOutMany_81 : decode c_As_workOutMany 81 = .ok (.iconst 0, 1) := by decide +kernel
theorem d_As_workOutMany_82 : decode c_As_workOutMany 82 = .ok (.istore 4, 2) := by decide +kernel
theorem d_As_workOutMany_84 : decode c_As_workOutMany 84 = .ok (.aload_n 0, 1) := by decide +kernel
theorem d_As_workOutMany_85 : decode c_As_workOutMany 85 = .ok (.getfield 12, 3) := by decide +kernel
theorem d_As_workOutMany_88 : decode c_As_workOutMany 88 = .ok (.invokevirtual 69, 3) := by decide +kernel
theorem d_As_workOutMany_91 : decode c_As_workOutMany 91 = .ok (.iinc 5 1, 3) := by decide +kernel
theorem d_As_workOutMany_94 : decode c_As_workOutMany 94 = .ok (.goto (-83), 3) := by decide +kernel
theorem d_As_workOutMany_97 : decode c_As_workOutMany 97 = .ok (.aload_n 0, 1) := by decide +kernel
theorem d_As_workOutMany_98 : decode c_As_workOutMany 98 = .ok (.iconst 5, 1) := by decide +kernel
theorem d_As_workOutMany_99 : decode c_As_workOutMany 99 = .ok (.invokevirtual 54, 3) := by decide +kernel
theorem d_As_workOutMany_102 : decode c_As_workOutMany 102 = .ok (.iload 4, 2) := by decide +kernel
theorem d_As_workOutMany_104 : decode c_As_workOutMany 104 = .ok (.ifCond .ne 10, 3) := by decide +kernel
theorem d_As_workOutMany_107 : decode c_As_workOutMany 107 = .ok (.aload_n 2, 1) := by decide +kernel
theorem d_As_workOutMany_108 : decode c_As_workOutMany 108 = .ok (.getfield 129, 3) := by decide +kernel
theorem d_As_workOutMany_111 : decode c_As_workOutMany 111 = .ok (.ifCond .ne 7, 3) := by decide +kernel
theorem d_As_workOutMany_114 : decode c_As_workOutMany 114 = .ok (.iconst 1, 1) := by decide +kernel
theorem d_As_workOutMany_115 : decode c_As_workOutMany 115 = .ok (.goto 4, 3) := by decide +kernel
theorem d_As_workOutMany_118 : decode c_As_workOutMany 118 = .ok (.iconst 0, 1) := by decide +kernel
theorem d_As_workOutMany_119 : decode c_As_workOutMany 119 = .ok (.ireturn, 1) := by decide +kernel
theorem d_As_workOutNothing_0 : decode c_As_workOutNothing 0 = .ok (.aload_n 0, 1) := by decide +kernel
theorem d_As_workOutNothing_1 : decode c_As_workOutNothing 1 = .ok (.iconst 1, 1) := by decide +kernel
theorem d_As_workOutNothing_2 : decode c_As_workOutNothing 2 = .ok (.invokevirtual 54, 3) := by decide +kernel
theorem d_As_workOutNothing_5 : decode c_As_workOutNothing 5 = .ok (.aload_n 1, 1) := by decide +kernel
theorem d_As_workOutNothing_6 : decode c_As_workOutNothing 6 = .ok (.getfield 129, 3) := by decide +kernel
theorem d_As_workOutNothing_9 : decode c_As_workOutNothing 9 = .ok (.ifCond .ne 5, 3) := by decide +kernel
theorem d_As_workOutNothing_12 : decode c_As_workOutNothing 12 = .ok (.iconst 1, 1) := by decide +kernel
theorem d_As_workOutNothing_13 : decode c_As_workOutNothing 13 = .ok (.ireturn, 1) := by decide +kernel
theorem d_As_workOutNothing_14 : decode c_As_workOutNothing 14 = .ok (.aload_n 0, 1) := by decide +kernel
theorem d_As_workOutNothing_15 : decode c_As_workOutNothing 15 = .ok (.getfield 12, 3) := by decide +kernel
theorem d_As_workOutNothing_18 : decode c_As_workOutNothing 18 = .ok (.invokevirtual 132, 3) := by decide +kernel
theorem d_As_workOutNothing_21 : decode c_As_workOutNothing 21 = .ok (.iconst 0, 1) := by decide +kernel
theorem d_As_workOutNothing_22 : decode c_As_workOutNothing 22 = .ok (.ireturn, 1) := by decide +kernel
theorem d_As_addCode_0 : decode c_As_addCode 0 = .ok (.aload_n 0, 1) := by decide +kernel
theorem d_As_addCode_1 : decode c_As_addCode 1 = .ok (.getfield 43, 3) := by decide +kernel
theorem d_As_addCode_4 : decode c_As_addCode 4 = .ok (.ifCond .eq 4, 3) := by decide +kernel
theorem d_As_addCode_7 : decode c_As_addCode 7 = .ok (.return_, 1) := by decide +kernel
theorem d_As_addCode_8 : decode c_As_addCode 8 = .ok (.aload_n 0, 1) := by decide +kernel
theorem d_As_addCode_9 : decode c_As_addCode 9 = .ok (.getfield 40, 3) := by decide +kernel
theorem d_As_addCode_12 : decode c_As_addCode 12 = .ok (.bipush 120, 2) := by decide +kernel
theorem d_As_addCode_14 : decode c_As_addCode 14 = .ok (.if_icmp .lt 10, 3) := by decide +kernel
theorem d_As_addCode_17 : decode c_As_addCode 17 = .ok (.aload_n 0, 1) := by decide +kernel
theorem d_As_addCode_18 : decode c_As_addCode 18 = .ok (.bipush (-5), 2) := by decide +kernel
theorem d_As_addCode_20 : decode c_As_addCode 20 = .ok (.putfield 43, 3) := by decide +kernel
theorem d_As_addCode_23 : decode c_As_addCode 23 = .ok (.return_, 1) := by decide +kernel
theorem d_As_addCode_24 : decode c_As_addCode 24 = .ok (.aload_n 0, 1) := by decide +kernel
theorem d_As_addCode_25 : decode c_As_addCode 25 = .ok (.dup, 1) := by decide +kernel
theorem d_As_addCode_26 : decode c_As_addCode 26 = .ok (.getfield 40, 3) := by decide +kernel
theorem d_As_addCode_29 : decode c_As_addCode 29 = .ok (.iconst 1, 1) := by decide +kernel
theorem d_As_addCode_30 : decode c_As_addCode 30 = .ok (.iadd, 1) := by decide +kernel
theorem d_As_addCode_31 : decode c_As_addCode 31 = .ok (.putfield 40, 3) := by decide +kernel
theorem d_As_addCode_34 : decode c_As_addCode 34 = .ok (.aload_n 0, 1) := by decide +kernel
theorem d_As_addCode_35 : decode c_As_addCode 35 = .ok (.getfield 18, 3) := by decide +kernel
theorem d_As_addCode_38 : decode c_As_addCode 38 = .ok (.aload_n 0, 1) := by decide +kernel
theorem d_As_addCode_39 : decode c_As_addCode 39 = .ok (.getfield 30, 3) := by decide +kernel
theorem d_As_addCode_42 : decode c_As_addCode 42 = .ok (.iload_n 1, 1) := by decide +kernel
theorem d_As_addCode_43 : decode c_As_addCode 43 = .ok (.iastore, 1) := by decide +kernel
theorem d_As_addCode_44 : decode c_As_addCode 44 = .ok (.aload_n 0, 1) := by decide +kernel
theorem d_As_addCode_45 : decode c_As_addCode 45 = .ok (.dup, 1) := by decide +kernel
theorem d_As_addCode_46 : decode c_As_addCode 46 = .ok (.getfield 30, 3) := by decide +kernel
theorem d_As_addCode_49 : decode c_As_addCode 49 = .ok (.iconst 1, 1) := by decide +kernel
theorem d_As_addCode_50 : decode c_As_addCode 50 = .ok (.iadd, 1) := by decide +kernel
theorem d_As_addCode_51 : decode c_As_addCode 51 = .ok (.putfield 30, 3) := by decide +kernel
theorem d_As_addCode_54 : decode c_As_addCode 54 = .ok (.return_, 1) := by decide +kernel
theorem d_As_cutBack_0 : decode c_As_cutBack 0 = .ok (.aload_n 0, 1) := by decide +kernel
theorem d_As_cutBack_1 : decode c_As_cutBack 1 = .ok (.getfield 18, 3) := by decide +kernel
theorem d_As_cutBack_4 : decode c_As_cutBack 4 = .ok (.iload_n 1, 1) := by decide +kernel
theorem d_As_cutBack_5 : decode c_As_cutBack 5 = .ok (.iconst 1, 1) := by decide +kernel
theorem d_As_cutBack_6 : decode c_As_cutBack 6 = .ok (.iastore, 1) := by decide +kernel
theorem d_As_cutBack_7 : decode c_As_cutBack 7 = .ok (.aload_n 0, 1) := by decide +kernel
theorem d_As_cutBack_8 : decode c_As_cutBack 8 = .ok (.iload_n 1, 1) := by decide +kernel
theorem d_As_cutBack_9 : decode c_As_cutBack 9 = .ok (.iconst 1, 1) := by decide +kernel
theorem d_As_cutBack_10 : decode c_As_cutBack 10 = .ok (.iadd, 1) := by decide +kernel
theorem d_As_cutBack_11 : decode c_As_cutBack 11 = .ok (.putfield 30, 3) := by decide +kernel
theorem d_As_cutBack_14 : decode c_As_cutBack 14 = .ok (.return_, 1) := by decide +kernel
theorem d_Co_init_0 : decode c_Co_init 0 = .ok (.aload_n 0, 1) := by decide +kernel
