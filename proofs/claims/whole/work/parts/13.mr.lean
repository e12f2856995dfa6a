theorem d_Mg_understand_0 : decode prog_5_method_12_code 0 = .ok (.aload_n 1, 1) := by decide +kernel
theorem d_Mg_understand_1 : decode prog_5_method_12_code 1 = .ok (.iconst 0, 1) := by decide +kernel
theorem d_Mg_understand_2 : decode prog_5_method_12_code 2 = .ok (.iconst 1, 1) := by decide +kernel
theorem d_Mg_understand_3 : decode prog_5_method_12_code 3 = .ok (.invokevirtual 32, 3) := by decide +kernel
theorem d_Mg_understand_6 : decode prog_5_method_12_code 6 = .ok (.istore_n 2, 1) := by decide +kernel
theorem d_Mg_understand_7 : decode prog_5_method_12_code 7 = .ok (.aload_n 1, 1) := by decide +kernel
theorem d_Mg_understand_8 : decode prog_5_method_12_code 8 = .ok (.iconst 0, 1) := by decide +kernel
theorem d_Mg_understand_9 : decode prog_5_method_12_code 9 = .ok (.iconst 2, 1) := by decide +kernel
theorem d_Mg_understand_10 : decode prog_5_method_12_code 10 = .ok (.invokevirtual 32, 3) := by decide +kernel
theorem d_Mg_understand_13 : decode prog_5_method_12_code 13 = .ok (.istore_n 3, 1) := by decide +kernel
theorem d_Mg_understand_14 : decode prog_5_method_12_code 14 = .ok (.aload_n 1, 1) := by decide +kernel
theorem d_Mg_understand_15 : decode prog_5_method_12_code 15 = .ok (.iconst 0, 1) := by decide +kernel
theorem d_Mg_understand_16 : decode prog_5_method_12_code 16 = .ok (.iconst 3, 1) := by decide +kernel
theorem d_Mg_understand_17 : decode prog_5_method_12_code 17 = .ok (.invokevirtual 32, 3) := by decide +kernel
theorem d_Mg_understand_20 : decode prog_5_method_12_code 20 = .ok (.istore 4, 2) := by decide +kernel
theorem d_Mg_understand_22 : decode prog_5_method_12_code 22 = .ok (.iload_n 2, 1) := by decide +kernel
theorem d_Mg_understand_23 : decode prog_5_method_12_code 23 = .ok (.iconst (-1), 1) := by decide +kernel
theorem d_Mg_understand_24 : decode prog_5_method_12_code 24 = .ok (.if_icmp .eq 14, 3) := by decide +kernel
theorem d_Mg_understand_27 : decode prog_5_method_12_code 27 = .ok (.iload_n 3, 1) := by decide +kernel
theorem d_Mg_understand_28 : decode prog_5_method_12_code 28 = .ok (.iconst (-1), 1) := by decide +kernel
theorem d_Mg_understand_29 : decode prog_5_method_12_code 29 = .ok (.if_icmp .eq 9, 3) := by decide +kernel
theorem d_Mg_understand_32 : decode prog_5_method_12_code 32 = .ok (.iload 4, 2) := by decide +kernel
theorem d_Mg_understand_34 : decode prog_5_method_12_code 34 = .ok (.iconst (-1), 1) := by decide +kernel
theorem d_Mg_understand_35 : decode prog_5_method_12_code 35 = .ok (.if_icmp .ne 5, 3) := by decide +kernel
theorem d_Mg_understand_38 : decode prog_5_method_12_code 38 = .ok (.iconst 0, 1) := by decide +kernel
theorem d_Mg_understand_39 : decode prog_5_method_12_code 39 = .ok (.ireturn, 1) := by decide +kernel
theorem d_Mg_understand_40 : decode prog_5_method_12_code 40 = .ok (.aload_n 0, 1) := by decide +kernel
theorem d_Mg_understand_41 : decode prog_5_method_12_code 41 = .ok (.aload_n 1, 1) := by decide +kernel
theorem d_Mg_understand_42 : decode prog_5_method_12_code 42 = .ok (.iload_n 2, 1) := by decide +kernel
theorem d_Mg_understand_43 : decode prog_5_method_12_code 43 = .ok (.invokevirtual 38, 3) := by decide +kernel
theorem d_Mg_understand_46 : decode prog_5_method_12_code 46 = .ok (.putfield 18, 3) := by decide +kernel
theorem d_Mg_understand_49 : decode prog_5_method_12_code 49 = .ok (.aload_n 0, 1) := by decide +kernel
theorem d_Mg_understand_50 : decode prog_5_method_12_code 50 = .ok (.aload_n 1, 1) := by decide +kernel
theorem d_Mg_understand_51 : decode prog_5_method_12_code 51 = .ok (.iload_n 3, 1) := by decide +kernel
theorem d_Mg_understand_52 : decode prog_5_method_12_code 52 = .ok (.invokevirtual 38, 3) := by decide +kernel
theorem d_Mg_understand_55 : decode prog_5_method_12_code 55 = .ok (.putfield 21, 3) := by decide +kernel
theorem d_Mg_understand_58 : decode prog_5_method_12_code 58 = .ok (.aload_n 1, 1) := by decide +kernel
theorem d_Mg_understand_59 : decode prog_5_method_12_code 59 = .ok (.iload 4, 2) := by decide +kernel
theorem d_Mg_understand_61 : decode prog_5_method_12_code 61 = .ok (.invokevirtual 38, 3) := by decide +kernel
theorem d_Mg_understand_64 : decode prog_5_method_12_code 64 = .ok (.istore 5, 2) := by decide +kernel
theorem d_Mg_understand_66 : decode prog_5_method_12_code 66 = .ok (.aload_n 0, 1) := by decide +kernel
theorem d_Mg_understand_67 : decode prog_5_method_12_code 67 = .ok (.iload 5, 2) := by decide +kernel
theorem d_Mg_understand_69 : decode prog_5_method_12_code 69 = .ok (.iconst 1, 1) := by decide +kernel
theorem d_Mg_understand_70 : decode prog_5_method_12_code 70 = .ok (.if_icmp .ne 7, 3) := by decide +kernel
theorem d_Mg_understand_73 : decode prog_5_method_12_code 73 = .ok (.iconst 1, 1) := by decide +kernel
theorem d_Mg_understand_74 : decode prog_5_method_12_code 74 = .ok (.goto 4, 3) := by decide +kernel
theorem d_Mg_understand_77 : decode prog_5_method_12_code 77 = .ok (.iconst 0, 1) := by decide +kernel
theorem d_Mg_understand_78 : decode prog_5_method_12_code 78 = .ok (.putfield 24, 3) := by decide +kernel
theorem d_Mg_understand_81 : decode prog_5_method_12_code 81 = .ok (.aload_n 0, 1) := by decide +kernel
theorem d_Mg_understand_82 : decode prog_5_method_12_code 82 = .ok (.aload_n 0, 1) := by decide +kernel
theorem d_Mg_understand_83 : decode prog_5_method_12_code 83 = .ok (.getfield 24, 3) := by decide +kernel
theorem d_Mg_understand_86 : decode prog_5_method_12_code 86 = .ok (.ifCond .eq 7, 3) := by decide +kernel
theorem d_Mg_understand_89 : decode prog_5_method_12_code 89 = .ok (.iconst 2, 1) := by decide +kernel
theorem d_Mg_understand_90 : decode prog_5_method_12_code 90 = .ok (.goto 4, 3) := by decide +kernel
theorem d_Mg_understand_93 : decode prog_5_method_12_code 93 = .ok (.iconst 3, 1) := by decide +kernel
theorem d_Mg_understand_94 : decode prog_5_method_12_code 94 = .ok (.putfield 11, 3) := by decide +kernel
theorem d_Mg_understand_97 : decode prog_5_method_12_code 97 = .ok (.aload_n 0, 1) := by decide +kernel
theorem d_Mg_understand_98 : decode prog_5_method_12_code 98 = .ok (.getfield 18, 3) := by decide +kernel
theorem d_Mg_understand_101 : decode prog_5_method_12_code 101 = .ok (.iconst 1, 1) := by decide +kernel
theorem d_Mg_understand_102 : decode prog_5_method_12_code 102 = .ok (.if_icmp .lt 26, 3) := by decide +kernel
theorem d_Mg_understand_105 : decode prog_5_method_12_code 105 = .ok (.aload_n 0, 1) := by decide +kernel
theorem d_Mg_understand_106 : decode prog_5_method_12_code 106 = .ok (.getfield 18, 3) := by decide +kernel
theorem d_Mg_understand_109 : decode prog_5_method_12_code 109 = .ok (.iconst 3, 1) := by decide +kernel
theorem d_Mg_understand_110 : decode prog_5_method_12_code 110 = .ok (.if_icmp .gt 18, 3) := by decide +kernel
theorem d_Mg_understand_113 : decode prog_5_method_12_code 113 = .ok (.iload 5, 2) := by decide +kernel
theorem d_Mg_understand_115 : decode prog_5_method_12_code 115 = .ok (.ifCond .eq 9, 3) := by decide +kernel
theorem d_Mg_understand_118 : decode prog_5_method_12_code 118 = .ok (.iload 5, 2) := by decide +kernel
theorem d_Mg_understand_120 : decode prog_5_method_12_code 120 = .ok (.iconst 1, 1) := by decide +kernel
theorem d_Mg_understand_121 : decode prog_5_method_12_code 121 = .ok (.if_icmp .ne 7, 3) := by decide +kernel
theorem d_Mg_understand_124 : decode prog_5_method_12_code 124 = .ok (.iconst 1, 1) := by decide +kernel
theorem d_Mg_understand_125 : decode prog_5_method_12_code 125 = .ok (.goto 4, 3) := by decide +kernel
theorem d_Mg_understand_128 : decode prog_5_method_12_code 128 = .ok (.iconst 0, 1) := by decide +kernel
theorem d_Mg_understand_129 : decode prog_5_method_12_code 129 = .ok (.ireturn, 1) := by decide +kernel
theorem d_Mr_textFits_0 : decode prog_4_method_4_code 0 = .ok (.aload_n 1, 1) := by decide +kernel
theorem d_Mr_textFits_1 : decode prog_4_method_4_code 1 = .ok (.iload_n 2, 1) := by decide +kernel
theorem d_Mr_textFits_2 : decode prog_4_method_4_code 2 = .ok (.invokevirtual 45, 3) := by decide +kernel
theorem d_Mr_textFits_5 : decode prog_4_method_4_code 5 = .ok (.istore 5, 2) := by decide +kernel
theorem d_Mr_textFits_7 : decode prog_4_method_4_code 7 = .ok (.bipush 16, 2) := by decide +kernel
theorem d_Mr_textFits_9 : decode prog_4_method_4_code 9 = .ok (.aload_n 3, 1) := by decide +kernel
theorem d_Mr_textFits_10 : decode prog_4_method_4_code 10 = .ok (.iload 4, 2) := by decide +kernel
theorem d_Mr_textFits_12 : decode prog_4_method_4_code 12 = .ok (.invokevirtual 45, 3) := by decide +kernel
theorem d_Mr_textFits_15 : decode prog_4_method_4_code 15 = .ok (.invokestatic 48, 3) := by decide +kernel
theorem d_Mr_textFits_18 : decode prog_4_method_4_code 18 = .ok (.istore 6, 2) := by decide +kernel
theorem d_Mr_textFits_20 : decode prog_4_method_4_code 20 = .ok (.iload 5, 2) := by decide +kernel
theorem d_Mr_textFits_22 : decode prog_4_method_4_code 22 = .ok (.ifCond .ne 5, 3) := by decide +kernel
theorem d_Mr_textFits_25 : decode prog_4_method_4_code 25 = .ok (.iconst 1, 1) := by decide +kernel
theorem d_Mr_textFits_26 : decode prog_4_method_4_code 26 = .ok (.ireturn, 1) := by decide +kernel
theorem d_Mr_textFits_27 : decode prog_4_method_4_code 27 = .ok (.iconst 0, 1) := by decide +kernel
theorem d_Mr_textFits_28 : decode prog_4_method_4_code 28 = .ok (.istore 7, 2) := by decide +kernel
theorem d_Mr_textFits_30 : decode prog_4_method_4_code 30 = .ok (.iload 7, 2) := by decide +kernel
theorem d_Mr_textFits_32 : decode prog_4_method_4_code 32 = .ok (.iload 6, 2) := by decide +kernel
theorem d_Mr_textFits_34 : decode prog_4_method_4_code 34 = .ok (.if_icmp .gt 26, 3) := by decide +kernel
theorem d_Mr_textFits_37 : decode prog_4_method_4_code 37 = .ok (.aload_n 0, 1) := by decide +kernel
theorem d_Mr_textFits_38 : decode prog_4_method_4_code 38 = .ok (.getfield 9, 3) := by decide +kernel
theorem d_Mr_textFits_41 : decode prog_4_method_4_code 41 = .ok (.iload 7, 2) := by decide +kernel
theorem d_Mr_textFits_43 : decode prog_4_method_4_code 43 = .ok (.iload 7, 2) := by decide +kernel
theorem d_Mr_textFits_45 : decode prog_4_method_4_code 45 = .ok (.ifCond .ne 7, 3) := by decide +kernel
theorem d_Mr_textFits_48 : decode prog_4_method_4_code 48 = .ok (.iconst 1, 1) := by decide +kernel
theorem d_Mr_textFits_49 : decode prog_4_method_4_code 49 = .ok (.goto 4, 3) := by decide +kernel
theorem d_Mr_textFits_52 : decode prog_4_method_4_code 52 = .ok (.iconst 0, 1) := by decide +kernel
theorem d_Mr_textFits_53 : decode prog_4_method_4_code 53 = .ok (.bastore, 1) := by decide +kernel
theorem d_Mr_textFits_54 : decode prog_4_method_4_code 54 = .ok (.iinc 7 1, 3) := by decide +kernel
theorem d_Mr_textFits_57 : decode prog_4_method_4_code 57 = .ok (.goto (-27), 3) := by decide +kernel
theorem d_Mr_textFits_60 : decode prog_4_method_4_code 60 = .ok (.iconst 0, 1) := by decide +kernel
theorem d_Mr_textFits_61 : decode prog_4_method_4_code 61 = .ok (.istore 7, 2) := by decide +kernel
theorem d_Mr_textFits_63 : decode prog_4_method_4_code 63 = .ok (.iload 7, 2) := by decide +kernel
theorem d_Mr_textFits_65 : decode prog_4_method_4_code 65 = .ok (.iload 5, 2) := by decide +kernel
theorem d_Mr_textFits_67 : decode prog_4_method_4_code 67 = .ok (.if_icmp .ge 158, 3) := by decide +kernel
theorem d_Mr_textFits_70 : decode prog_4_method_4_code 70 = .ok (.aload_n 1, 1) := by decide +kernel
theorem d_Mr_textFits_71 : decode prog_4_method_4_code 71 = .ok (.iload_n 2, 1) := by decide +kernel
theorem d_Mr_textFits_72 : decode prog_4_method_4_code 72 = .ok (.iload 7, 2) := by decide +kernel
theorem d_Mr_textFits_74 : decode prog_4_method_4_code 74 = .ok (.invokevirtual 53, 3) := by decide +kernel
theorem d_Mr_textFits_77 : decode prog_4_method_4_code 77 = .ok (.istore 8, 2) := by decide +kernel
theorem d_Mr_textFits_79 : decode prog_4_method_4_code 79 = .ok (.iload 8, 2) := by decide +kernel
theorem d_Mr_textFits_81 : decode prog_4_method_4_code 81 = .ok (.bipush 42, 2) := by decide +kernel
theorem d_Mr_textFits_83 : decode prog_4_method_4_code 83 = .ok (.if_icmp .ne 56, 3) := by decide +kernel
theorem d_Mr_textFits_86 : decode prog_4_method_4_code 86 = .ok (.iconst 1, 1) := by decide +kernel
theorem d_Mr_textFits_87 : decode prog_4_method_4_code 87 = .ok (.istore 9, 2) := by decide +kernel
theorem d_Mr_textFits_89 : decode prog_4_method_4_code 89 = .ok (.iload 9, 2) := by decide +kernel
theorem d_Mr_textFits_91 : decode prog_4_method_4_code 91 = .ok (.iload 6, 2) := by decide +kernel
theorem d_Mr_textFits_93 : decode prog_4_method_4_code 93 = .ok (.if_icmp .gt 43, 3) := by decide +kernel
theorem d_Mr_textFits_96 : decode prog_4_method_4_code 96 = .ok (.aload_n 0, 1) := by decide +kernel
theorem d_Mr_textFits_97 : decode prog_4_method_4_code 97 = .ok (.getfield 9, 3) := by decide +kernel
theorem d_Mr_textFits_100 : decode prog_4_method_4_code 100 = .ok (.iload 9, 2) := by decide +kernel
theorem d_Mr_textFits_102 : decode prog_4_method_4_code 102 = .ok (.aload_n 0, 1) := by decide +kernel
theorem d_Mr_textFits_103 : decode prog_4_method_4_code 103 = .ok (.getfield 9, 3) := by decide +kernel
theorem d_Mr_textFits_106 : decode prog_4_method_4_code 106 = .ok (.iload 9, 2) := by decide +kernel
theorem d_Mr_textFits_108 : decode prog_4_method_4_code 108 = .ok (.baload, 1) := by decide +kernel
theorem d_Mr_textFits_109 : decode prog_4_method_4_code 109 = .ok (.ifCond .ne 15, 3) := by decide +kernel
theorem d_Mr_textFits_112 : decode prog_4_method_4_code 112 = .ok (.aload_n 0, 1) := by decide +kernel
theorem d_Mr_textFits_113 : decode prog_4_method_4_code 113 = .ok (.getfield 9, 3) := by decide +kernel
theorem d_Mr_textFits_116 : decode prog_4_method_4_code 116 = .ok (.iload 9, 2) := by decide +kernel
theorem d_Mr_textFits_118 : decode prog_4_method_4_code 118 = .ok (.iconst 1, 1) := by decide +kernel
theorem d_Mr_textFits_119 : decode prog_4_method_4_code 119 = .ok (.isub, 1) := by decide +kernel
theorem d_Mr_textFits_120 : decode prog_4_method_4_code 120 = .ok (.baload, 1) := by decide +kernel
theorem d_Mr_textFits_121 : decode prog_4_method_4_code 121 = .ok (.ifCond .eq 7, 3) := by decide +kernel
theorem d_Mr_textFits_124 : decode prog_4_method_4_code 124 = .ok (.iconst 1, 1) := by decide +kernel
theorem d_Mr_textFits_125 : decode prog_4_method_4_code 125 = .ok (.goto 4, 3) := by decide +kernel
theorem d_Mr_textFits_128 : decode prog_4_method_4_code 128 = .ok (.iconst 0, 1) := by decide +kernel
theorem d_Mr_textFits_129 : decode prog_4_method_4_code 129 = .ok (.bastore, 1) := by decide +kernel
theorem d_Mr_textFits_130 : decode prog_4_method_4_code 130 = .ok (.iinc 9 1, 3) := by decide +kernel
theorem d_Mr_textFits_133 : decode prog_4_method_4_code 133 = .ok (.goto (-44), 3) := by decide +kernel
theorem d_Mr_textFits_136 : decode prog_4_method_4_code 136 = .ok (.goto 83, 3) := by decide +kernel
theorem d_Mr_textFits_139 : decode prog_4_method_4_code 139 = .ok (.iload 6, 2) := by decide +kernel
theorem d_Mr_textFits_141 : decode prog_4_method_4_code 141 = .ok (.istore 9, 2) := by decide +kernel
theorem d_Mr_textFits_143 : decode prog_4_method_4_code 143 = .ok (.iload 9, 2) := by decide +kernel
theorem d_Mr_textFits_145 : decode prog_4_method_4_code 145 = .ok (.ifCond .le 67, 3) := by decide +kernel
theorem d_Mr_textFits_148 : decode prog_4_method_4_code 148 = .ok (.iload 8, 2) := by decide +kernel
theorem d_Mr_textFits_150 : decode prog_4_method_4_code 150 = .ok (.bipush 63, 2) := by decide +kernel
theorem d_Mr_textFits_152 : decode prog_4_method_4_code 152 = .ok (.if_icmp .eq 18, 3) := by decide +kernel
theorem d_Mr_textFits_155 : decode prog_4_method_4_code 155 = .ok (.iload 8, 2) := by decide +kernel
theorem d_Mr_textFits_157 : decode prog_4_method_4_code 157 = .ok (.aload_n 3, 1) := by decide +kernel
theorem d_Mr_textFits_158 : decode prog_4_method_4_code 158 = .ok (.iload 4, 2) := by decide +kernel
theorem d_Mr_textFits_160 : decode prog_4_method_4_code 160 = .ok (.iload 9, 2) := by decide +kernel
theorem d_Mr_textFits_162 : decode prog_4_method_4_code 162 = .ok (.iconst 1, 1) := by decide +kernel
theorem d_Mr_textFits_163 : decode prog_4_method_4_code 163 = .ok (.isub, 1) := by decide +kernel
theorem d_Mr_textFits_164 : decode prog_4_method_4_code 164 = .ok (.invokevirtual 53, 3) := by decide +kernel
theorem d_Mr_textFits_167 : decode prog_4_method_4_code 167 = .ok (.if_icmp .ne 7, 3) := by decide +kernel
theorem d_Mr_textFits_170 : decode prog_4_method_4_code 170 = .ok (.iconst 1, 1) := by decide +kernel
theorem d_Mr_textFits_171 : decode prog_4_method_4_code 171 = .ok (.goto 4, 3) := by decide +kernel
theorem d_Mr_textFits_174 : decode prog_4_method_4_code 174 = .ok (.iconst 0, 1) := by decide +kernel
theorem d_Mr_textFits_175 : decode prog_4_method_4_code 175 = .ok (.istore 10, 2) := by decide +kernel
theorem d_Mr_textFits_177 : decode prog_4_method_4_code 177 = .ok (.aload_n 0, 1) := by decide +kernel
theorem d_Mr_textFits_178 : decode prog_4_method_4_code 178 = .ok (.getfield 9, 3) := by decide +kernel
theorem d_Mr_textFits_181 : decode prog_4_method_4_code 181 = .ok (.iload 9, 2) := by decide +kernel
theorem d_Mr_textFits_183 : decode prog_4_method_4_code 183 = .ok (.iload 10, 2) := by decide +kernel
theorem d_Mr_textFits_185 : decode prog_4_method_4_code 185 = .ok (.ifCond .eq 19, 3) := by decide +kernel
theorem d_Mr_textFits_188 : decode prog_4_method_4_code 188 = .ok (.aload_n 0, 1) := by decide +kernel
theorem d_Mr_textFits_189 : decode prog_4_method_4_code 189 = .ok (.getfield 9, 3) := by decide +kernel
theorem d_Mr_textFits_192 : decode prog_4_method_4_code 192 = .ok (.iload 9, 2) := by decide +kernel
theorem d_Mr_textFits_194 : decode prog_4_method_4_code 194 = .ok (.iconst 1, 1) := by decide +kernel
theorem d_Mr_textFits_195 : decode prog_4_method_4_code 195 = .ok (.isub, 1) := by decide +kernel
theorem d_Mr_textFits_196 : decode prog_4_method_4_code 196 = .ok (.baload, 1) := by decide +kernel
theorem d_Mr_textFits_197 : decode prog_4_method_4_code 197 = .ok (.ifCond .eq 7, 3) := by decide +kernel
theorem d_Mr_textFits_200 : decode prog_4_method_4_code 200 = .ok (.iconst 1, 1) := by decide +kernel
theorem d_Mr_textFits_201 : decode prog_4_method_4_code 201 = .ok (.goto 4, 3) := by decide +kernel
theorem d_Mr_textFits_204 : decode prog_4_method_4_code 204 = .ok (.iconst 0, 1) := by decide +kernel
theorem d_Mr_textFits_205 : decode prog_4_method_4_code 205 = .ok (.bastore, 1) := by decide +kernel
theorem d_Mr_textFits_206 : decode prog_4_method_4_code 206 = .ok (.iinc 9 (-1), 3) := by decide +kernel
theorem d_Mr_textFits_209 : decode prog_4_method_4_code 209 = .ok (.goto (-66), 3) := by decide +kernel
theorem d_Mr_textFits_212 : decode prog_4_method_4_code 212 = .ok (.aload_n 0, 1) := by decide +kernel
theorem d_Mr_textFits_213 : decode prog_4_method_4_code 213 = .ok (.getfield 9, 3) := by decide +kernel
theorem d_Mr_textFits_216 : decode prog_4_method_4_code 216 = .ok (.iconst 0, 1) := by decide +kernel
theorem d_Mr_textFits_217 : decode prog_4_method_4_code 217 = .ok (.iconst 0, 1) := by decide +kernel
theorem d_Mr_textFits_218 : decode prog_4_method_4_code 218 = .ok (.bastore, 1) := by decide +kernel
theorem d_Mr_textFits_219 : decode prog_4_method_4_code 219 = .ok (.iinc 7 1, 3) := by decide +kernel
theorem d_Mr_textFits_222 : decode prog_4_method_4_code 222 = .ok (.goto (-159), 3) := by decide +kernel
theorem d_Mr_textFits_225 : decode prog_4_method_4_code 225 = .ok (.aload_n 0, 1) := by decide +kernel
theorem d_Mr_textFits_226 : decode prog_4_method_4_code 226 = .ok (.getfield 9, 3) := by decide +kernel
theorem d_Mr_textFits_229 : decode prog_4_method_4_code 229 = .ok (.iload 6, 2) := by decide +kernel
theorem d_Mr_textFits_231 : decode prog_4_method_4_code 231 = .ok (.baload, 1) := by decide +kernel
theorem d_Mr_textFits_232 : decode prog_4_method_4_code 232 = .ok (.ireturn, 1) := by decide +kernel
theorem d_Mr_fits_0 : decode prog_4_method_3_code 0 = .ok (.aload_n 1, 1) := by decide +kernel
theorem d_Mr_fits_1 : decode prog_4_method_3_code 1 = .ok (.iload_n 2, 1) := by decide +kernel
theorem d_Mr_fits_2 : decode prog_4_method_3_code 2 = .ok (.invokevirtual 21, 3) := by decide +kernel
theorem d_Mr_fits_5 : decode prog_4_method_3_code 5 = .ok (.invokestatic 32, 3) := by decide +kernel
theorem d_Mr_fits_8 : decode prog_4_method_3_code 8 = .ok (.istore 6, 2) := by decide +kernel
theorem d_Mr_fits_10 : decode prog_4_method_3_code 10 = .ok (.iload 6, 2) := by decide +kernel
theorem d_Mr_fits_12 : decode prog_4_method_3_code 12 = .ok (.iconst 1, 1) := by decide +kernel
theorem d_Mr_fits_13 : decode prog_4_method_3_code 13 = .ok (.if_icmp .ne 23, 3) := by decide +kernel
theorem d_Mr_fits_16 : decode prog_4_method_3_code 16 = .ok (.aload_n 1, 1) := by decide +kernel
theorem d_Mr_fits_17 : decode prog_4_method_3_code 17 = .ok (.iload_n 2, 1) := by decide +kernel
theorem d_Mr_fits_18 : decode prog_4_method_3_code 18 = .ok (.invokevirtual 35, 3) := by decide +kernel
theorem d_Mr_fits_21 : decode prog_4_method_3_code 21 = .ok (.aload_n 3, 1) := by decide +kernel
theorem d_Mr_fits_22 : decode prog_4_method_3_code 22 = .ok (.iload 4, 2) := by decide +kernel
theorem d_Mr_fits_24 : decode prog_4_method_3_code 24 = .ok (.invokevirtual 35, 3) := by decide +kernel
theorem d_Mr_fits_27 : decode prog_4_method_3_code 27 = .ok (.if_icmp .ne 7, 3) := by decide +kernel
theorem d_Mr_fits_30 : decode prog_4_method_3_code 30 = .ok (.iconst 1, 1) := by decide +kernel
theorem d_Mr_fits_31 : decode prog_4_method_3_code 31 = .ok (.goto 4, 3) := by decide +kernel
theorem d_Mr_fits_34 : decode prog_4_method_3_code 34 = .ok (.iconst 0, 1) := by decide +kernel
theorem d_Mr_fits_35 : decode prog_4_method_3_code 35 = .ok (.ireturn, 1) := by decide +kernel
theorem d_Mr_fits_36 : decode prog_4_method_3_code 36 = .ok (.iload 6, 2) := by decide +kernel
theorem d_Mr_fits_38 : decode prog_4_method_3_code 38 = .ok (.iconst 2, 1) := by decide +kernel
theorem d_Mr_fits_39 : decode prog_4_method_3_code 39 = .ok (.if_icmp .ne 13, 3) := by decide +kernel
theorem d_Mr_fits_42 : decode prog_4_method_3_code 42 = .ok (.aload_n 0, 1) := by decide +kernel
theorem d_Mr_fits_43 : decode prog_4_method_3_code 43 = .ok (.aload_n 1, 1) := by decide +kernel
theorem d_Mr_fits_44 : decode prog_4_method_3_code 44 = .ok (.iload_n 2, 1) := by decide +kernel
theorem d_Mr_fits_45 : decode prog_4_method_3_code 45 = .ok (.aload_n 3, 1) := by decide +kernel
theorem d_Mr_fits_46 : decode prog_4_method_3_code 46 = .ok (.iload 4, 2) := by decide +kernel
theorem d_Mr_fits_48 : decode prog_4_method_3_code 48 = .ok (.invokevirtual 38, 3) := by decide +kernel
theorem d_Mr_fits_51 : decode prog_4_method_3_code 51 = .ok (.ireturn, 1) := by decide +kernel
theorem d_Mr_fits_52 : decode prog_4_method_3_code 52 = .ok (.iload_n 2, 1) := by decide +kernel
theorem d_Mr_fits_53 : decode prog_4_method_3_code 53 = .ok (.iconst 1, 1) := by decide +kernel
theorem d_Mr_fits_54 : decode prog_4_method_3_code 54 = .ok (.iadd, 1) := by decide +kernel
theorem d_Mr_fits_55 : decode prog_4_method_3_code 55 = .ok (.istore 7, 2) := by decide +kernel
theorem d_Mr_fits_57 : decode prog_4_method_3_code 57 = .ok (.iload 7, 2) := by decide +kernel
theorem d_Mr_fits_59 : decode prog_4_method_3_code 59 = .ok (.aload_n 1, 1) := by decide +kernel
theorem d_Mr_fits_60 : decode prog_4_method_3_code 60 = .ok (.iload_n 2, 1) := by decide +kernel
theorem d_Mr_fits_61 : decode prog_4_method_3_code 61 = .ok (.invokevirtual 15, 3) := by decide +kernel
theorem d_Mr_fits_64 : decode prog_4_method_3_code 64 = .ok (.if_icmp .ne 5, 3) := by decide +kernel
theorem d_Mr_fits_67 : decode prog_4_method_3_code 67 = .ok (.iconst 1, 1) := by decide +kernel
theorem d_Mr_fits_68 : decode prog_4_method_3_code 68 = .ok (.ireturn, 1) := by decide +kernel
theorem d_Mr_fits_69 : decode prog_4_method_3_code 69 = .ok (.iload 4, 2) := by decide +kernel
theorem d_Mr_fits_71 : decode prog_4_method_3_code 71 = .ok (.iconst 1, 1) := by decide +kernel
theorem d_Mr_fits_72 : decode prog_4_method_3_code 72 = .ok (.iadd, 1) := by decide +kernel
theorem d_Mr_fits_73 : decode prog_4_method_3_code 73 = .ok (.istore 8, 2) := by decide +kernel
theorem d_Mr_fits_75 : decode prog_4_method_3_code 75 = .ok (.iconst 0, 1) := by decide +kernel
theorem d_Mr_fits_76 : decode prog_4_method_3_code 76 = .ok (.istore 9, 2) := by decide +kernel
theorem d_Mr_fits_78 : decode prog_4_method_3_code 78 = .ok (.iconst 0, 1) := by decide +kernel
theorem d_Mr_fits_79 : decode prog_4_method_3_code 79 = .ok (.istore 10, 2) := by decide +kernel
theorem d_Mr_fits_81 : decode prog_4_method_3_code 81 = .ok (.iload 10, 2) := by decide +kernel
theorem d_Mr_fits_83 : decode prog_4_method_3_code 83 = .ok (.iconst 4, 1) := by decide +kernel
theorem d_Mr_fits_84 : decode prog_4_method_3_code 84 = .ok (.if_icmp .ge 63, 3) := by decide +kernel
theorem d_Mr_fits_87 : decode prog_4_method_3_code 87 = .ok (.iload 8, 2) := by decide +kernel
theorem d_Mr_fits_89 : decode prog_4_method_3_code 89 = .ok (.aload_n 3, 1) := by decide +kernel
theorem d_Mr_fits_90 : decode prog_4_method_3_code 90 = .ok (.iload 4, 2) := by decide +kernel
theorem d_Mr_fits_92 : decode prog_4_method_3_code 92 = .ok (.invokevirtual 15, 3) := by decide +kernel
theorem d_Mr_fits_95 : decode prog_4_method_3_code 95 = .ok (.if_icmp .ge 52, 3) := by decide +kernel
theorem d_Mr_fits_98 : decode prog_4_method_3_code 98 = .ok (.iload 9, 2) := by decide +kernel
theorem d_Mr_fits_100 : decode prog_4_method_3_code 100 = .ok (.ifCond .ne 47, 3) := by decide +kernel
theorem d_Mr_fits_103 : decode prog_4_method_3_code 103 = .ok (.iload 5, 2) := by decide +kernel
theorem d_Mr_fits_105 : decode prog_4_method_3_code 105 = .ok (.iconst 2, 1) := by decide +kernel
theorem d_Mr_fits_106 : decode prog_4_method_3_code 106 = .ok (.if_icmp .ge 24, 3) := by decide +kernel
theorem d_Mr_fits_109 : decode prog_4_method_3_code 109 = .ok (.aload_n 0, 1) := by decide +kernel
theorem d_Mr_fits_110 : decode prog_4_method_3_code 110 = .ok (.aload_n 1, 1) := by decide +kernel
theorem d_Mr_fits_111 : decode prog_4_method_3_code 111 = .ok (.iload 7, 2) := by decide +kernel
theorem d_Mr_fits_113 : decode prog_4_method_3_code 113 = .ok (.aload_n 3, 1) := by decide +kernel
theorem d_Mr_fits_114 : decode prog_4_method_3_code 114 = .ok (.iload 8, 2) := by decide +kernel
theorem d_Mr_fits_116 : decode prog_4_method_3_code 116 = .ok (.iload 5, 2) := by decide +kernel
theorem d_Mr_fits_118 : decode prog_4_method_3_code 118 = .ok (.iconst 1, 1) := by decide +kernel
theorem d_Mr_fits_119 : decode prog_4_method_3_code 119 = .ok (.iadd, 1) := by decide +kernel
theorem d_Mr_fits_120 : decode prog_4_method_3_code 120 = .ok (.invokevirtual 42, 3) := by decide +kernel
theorem d_Mr_fits_123 : decode prog_4_method_3_code 123 = .ok (.ifCond .eq 7, 3) := by decide +kernel
theorem d_Mr_fits_126 : decode prog_4_method_3_code 126 = .ok (.iconst 1, 1) := by decide +kernel
theorem d_Mr_fits_127 : decode prog_4_method_3_code 127 = .ok (.goto 4, 3) := by decide +kernel
theorem d_Mr_fits_130 : decode prog_4_method_3_code 130 = .ok (.iconst 0, 1) := by decide +kernel
theorem d_Mr_fits_131 : decode prog_4_method_3_code 131 = .ok (.istore 9, 2) := by decide +kernel
theorem d_Mr_fits_133 : decode prog_4_method_3_code 133 = .ok (.aload_n 3, 1) := by decide +kernel
theorem d_Mr_fits_134 : decode prog_4_method_3_code 134 = .ok (.iload 8, 2) := by decide +kernel
theorem d_Mr_fits_136 : decode prog_4_method_3_code 136 = .ok (.invokevirtual 15, 3) := by decide +kernel
theorem d_Mr_fits_139 : decode prog_4_method_3_code 139 = .ok (.istore 8, 2) := by decide +kernel
theorem d_Mr_fits_141 : decode prog_4_method_3_code 141 = .ok (.iinc 10 1, 3) := by decide +kernel
theorem d_Mr_fits_144 : decode prog_4_method_3_code 144 = .ok (.goto (-63), 3) := by decide +kernel
theorem d_Mr_fits_147 : decode prog_4_method_3_code 147 = .ok (.iload 9, 2) := by decide +kernel
theorem d_Mr_fits_149 : decode prog_4_method_3_code 149 = .ok (.ireturn, 1) := by decide +kernel
theorem d_Mr_matches_0 : decode prog_4_method_2_code 0 = .ok (.iload_n 2, 1) := by decide +kernel
theorem d_Mr_matches_1 : decode prog_4_method_2_code 1 = .ok (.iconst 1, 1) := by decide +kernel
theorem d_Mr_matches_2 : decode prog_4_method_2_code 2 = .ok (.iadd, 1) := by decide +kernel
theorem d_Mr_matches_3 : decode prog_4_method_2_code 3 = .ok (.istore 6, 2) := by decide +kernel
theorem d_Mr_matches_5 : decode prog_4_method_2_code 5 = .ok (.iconst 0, 1) := by decide +kernel
theorem d_Mr_matches_6 : decode prog_4_method_2_code 6 = .ok (.istore 7, 2) := by decide +kernel
theorem d_Mr_matches_8 : decode prog_4_method_2_code 8 = .ok (.iload 7, 2) := by decide +kernel
theorem d_Mr_matches_10 : decode prog_4_method_2_code 10 = .ok (.bipush 10, 2) := by decide +kernel
theorem d_Mr_matches_12 : decode prog_4_method_2_code 12 = .ok (.if_icmp .ge 64, 3) := by decide +kernel
theorem d_Mr_matches_15 : decode prog_4_method_2_code 15 = .ok (.iload 6, 2) := by decide +kernel
theorem d_Mr_matches_17 : decode prog_4_method_2_code 17 = .ok (.aload_n 1, 1) := by decide +kernel
theorem d_Mr_matches_18 : decode prog_4_method_2_code 18 = .ok (.iload_n 2, 1) := by decide +kernel
theorem d_Mr_matches_19 : decode prog_4_method_2_code 19 = .ok (.invokevirtual 15, 3) := by decide +kernel
theorem d_Mr_matches_22 : decode prog_4_method_2_code 22 = .ok (.if_icmp .ge 54, 3) := by decide +kernel
theorem d_Mr_matches_25 : decode prog_4_method_2_code 25 = .ok (.aload_n 3, 1) := by decide +kernel
theorem d_Mr_matches_26 : decode prog_4_method_2_code 26 = .ok (.iload 4, 2) := by decide +kernel
theorem d_Mr_matches_28 : decode prog_4_method_2_code 28 = .ok (.aload_n 1, 1) := by decide +kernel
theorem d_Mr_matches_29 : decode prog_4_method_2_code 29 = .ok (.iload 6, 2) := by decide +kernel
theorem d_Mr_matches_31 : decode prog_4_method_2_code 31 = .ok (.invokevirtual 21, 3) := by decide +kernel
theorem d_Mr_matches_34 : decode prog_4_method_2_code 34 = .ok (.invokevirtual 24, 3) := by decide +kernel
theorem d_Mr_matches_37 : decode prog_4_method_2_code 37 = .ok (.istore 8, 2) := by decide +kernel
theorem d_Mr_matches_39 : decode prog_4_method_2_code 39 = .ok (.iload 8, 2) := by decide +kernel
theorem d_Mr_matches_41 : decode prog_4_method_2_code 41 = .ok (.iconst (-1), 1) := by decide +kernel
theorem d_Mr_matches_42 : decode prog_4_method_2_code 42 = .ok (.if_icmp .eq 18, 3) := by decide +kernel
theorem d_Mr_matches_45 : decode prog_4_method_2_code 45 = .ok (.aload_n 0, 1) := by decide +kernel
theorem d_Mr_matches_46 : decode prog_4_method_2_code 46 = .ok (.aload_n 1, 1) := by decide +kernel
theorem d_Mr_matches_47 : decode prog_4_method_2_code 47 = .ok (.iload 6, 2) := by decide +kernel
theorem d_Mr_matches_49 : decode prog_4_method_2_code 49 = .ok (.aload_n 3, 1) := by decide +kernel
theorem d_Mr_matches_50 : decode prog_4_method_2_code 50 = .ok (.iload 8, 2) := by decide +kernel
theorem d_Mr_matches_52 : decode prog_4_method_2_code 52 = .ok (.iload 5, 2) := by decide +kernel
theorem d_Mr_matches_54 : decode prog_4_method_2_code 54 = .ok (.invokevirtual 28, 3) := by decide +kernel
theorem d_Mr_matches_57 : decode prog_4_method_2_code 57 = .ok (.ifCond .ne 5, 3) := by decide +kernel
theorem d_Mr_matches_60 : decode prog_4_method_2_code 60 = .ok (.iconst 0, 1) := by decide +kernel
theorem d_Mr_matches_61 : decode prog_4_method_2_code 61 = .ok (.ireturn, 1) := by decide +kernel
theorem d_Mr_matches_62 : decode prog_4_method_2_code 62 = .ok (.aload_n 1, 1) := by decide +kernel
theorem d_Mr_matches_63 : decode prog_4_method_2_code 63 = .ok (.iload 6, 2) := by decide +kernel
theorem d_Mr_matches_65 : decode prog_4_method_2_code 65 = .ok (.invokevirtual 15, 3) := by decide +kernel
theorem d_Mr_matches_68 : decode prog_4_method_2_code 68 = .ok (.istore 6, 2) := by decide +kernel
theorem d_Mr_matches_70 : decode prog_4_method_2_code 70 = .ok (.iinc 7 1, 3) := by decide +kernel
theorem d_Mr_matches_73 : decode prog_4_method_2_code 73 = .ok (.goto (-65), 3) := by decide +kernel
theorem d_Mr_matches_76 : decode prog_4_method_2_code 76 = .ok (.iconst 1, 1) := by decide +kernel
theorem d_Mr_matches_77 : decode prog_4_method_2_code 77 = .ok (.ireturn, 1) := by decide +kernel
def ws_Mg_understand : List Cond := .code y_Mg_understand prog_5_method_12_code 6 (some .boolean) :: TB
def B_Mg_understand_38 (s1 : S_Tr) (s0 : S_Mg) : Option (Int32 × S_Mg) :=
  some ((0 : Int32), s0)
def B_Mg_understand_129 (s1 : S_Tr) (s0 : S_Mg) (y0 : Int32) : Option (Int32 × S_Mg) :=
  (if y0 = 0 ∨ y0 = 1 then some (y0, s0) else none)
def B_Mg_understand_128 (s1 : S_Tr) (s0 : S_Mg) : Option (Int32 × S_Mg) :=
  (B_Mg_understand_129 s1 s0 (0 : Int32))
def B_Mg_understand_124 (s1 : S_Tr) (s0 : S_Mg) : Option (Int32 × S_Mg) :=
  (B_Mg_understand_129 s1 s0 (1 : Int32))
def B_Mg_understand_118 (s1 : S_Tr) (s0 : S_Mg) (x5 : Int32) : Option (Int32 × S_Mg) :=
  (if x5 = (1 : Int32) then (B_Mg_understand_124 s1 s0) else (B_Mg_understand_128 s1 s0))
def B_Mg_understand_113 (s1 : S_Tr) (s0 : S_Mg) (x5 : Int32) : Option (Int32 × S_Mg) :=
  (if x5 = 0 then (B_Mg_understand_124 s1 s0) else (B_Mg_understand_118 s1 s0 x5))
def B_Mg_understand_105 (s1 : S_Tr) (s0 : S_Mg) (x5 : Int32) : Option (Int32 × S_Mg) :=
  (if (3 : Int32) < (Mg_kind s0) then (B_Mg_understand_128 s1 s0) else (B_Mg_understand_113 s1 s0 x5))
def B_Mg_understand_94 (s1 : S_Tr) (s0 : S_Mg) (x5 : Int32) (y0 : Int32) : Option (Int32 × S_Mg) :=
  (if (Mg_kind (Mg_set_stage s0 y0)) < (1 : Int32) then (B_Mg_understand_128 s1 (Mg_set_stage s0 y0)) else (B_Mg_understand_105 s1 (Mg_set_stage s0 y0) x5))
def B_Mg_understand_93 (s1 : S_Tr) (s0 : S_Mg) (x5 : Int32) : Option (Int32 × S_Mg) :=
  (B_Mg_understand_94 s1 s0 x5 (3 : Int32))
def B_Mg_understand_89 (s1 : S_Tr) (s0 : S_Mg) (x5 : Int32) : Option (Int32 × S_Mg) :=
  (B_Mg_understand_94 s1 s0 x5 (2 : Int32))
def B_Mg_understand_78 (s1 : S_Tr) (s0 : S_Mg) (x5 : Int32) (y0 : Int32) : Option (Int32 × S_Mg) :=
  (if y0 = 0 ∨ y0 = 1 then (if (Mg_hasSet (Mg_set_hasSet s0 y0)) = 0 then (B_Mg_understand_93 s1 (Mg_set_hasSet s0 y0) x5) else (B_Mg_understand_89 s1 (Mg_set_hasSet s0 y0) x5)) else none)
def B_Mg_understand_77 (s1 : S_Tr) (s0 : S_Mg) (x5 : Int32) : Option (Int32 × S_Mg) :=
  (B_Mg_understand_78 s1 s0 x5 (0 : Int32))
def B_Mg_understand_73 (s1 : S_Tr) (s0 : S_Mg) (x5 : Int32) : Option (Int32 × S_Mg) :=
  (B_Mg_understand_78 s1 s0 x5 (1 : Int32))
def B_Mg_understand_40 (s1 : S_Tr) (s0 : S_Mg) (x2 : Int32) (x3 : Int32) (x4 : Int32) : Option (Int32 × S_Mg) :=
  ((F_Tr_number s1 x2).bind fun o1 => ((F_Tr_number s1 x3).bind fun o3 => ((F_Tr_number s1 x4).bind fun o5 => (if o5 = (1 : Int32) then (B_Mg_understand_73 s1 (Mg_set_number (Mg_set_kind s0 o1) o3) o5) else (B_Mg_understand_77 s1 (Mg_set_number (Mg_set_kind s0 o1) o3) o5)))))
def B_Mg_understand_32 (s1 : S_Tr) (s0 : S_Mg) (x2 : Int32) (x3 : Int32) (x4 : Int32) : Option (Int32 × S_Mg) :=
  (if x4 = ((-1) : Int32) then (B_Mg_understand_38 s1 s0) else (B_Mg_understand_40 s1 s0 x2 x3 x4))
def B_Mg_understand_27 (s1 : S_Tr) (s0 : S_Mg) (x2 : Int32) (x3 : Int32) (x4 : Int32) : Option (Int32 × S_Mg) :=
  (if x3 = ((-1) : Int32) then (B_Mg_understand_38 s1 s0) else (B_Mg_understand_32 s1 s0 x2 x3 x4))
def B_Mg_understand_0 (s1 : S_Tr) (s0 : S_Mg) : Option (Int32 × S_Mg) :=
  ((F_Tr_find s1 (0 : Int32) (1 : Int32)).bind fun o1 => ((F_Tr_find s1 (0 : Int32) (2 : Int32)).bind fun o3 => ((F_Tr_find s1 (0 : Int32) (3 : Int32)).bind fun o5 => (if o1 = ((-1) : Int32) then (B_Mg_understand_38 s1 s0) else (B_Mg_understand_27 s1 s0 o1 o3 o5)))))
def F_Mg_understand (s0 : S_Mg) (s1 : S_Tr) : Option (Int32 × S_Mg) := B_Mg_understand_0 s1 s0
set_option maxRecDepth 100000 in
set_option maxHeartbeats 4000000 in
theorem t_Mg_understand_38 {p : Program} {l : Launch} {e : Env} {s : State} {m : MethodId} {args : Array Value} {below : List Frame} {meth : Method} {c : Code} {D : va_G} {A : Nat → Prop} {g : Nat → ClassId} {rest : va_W} {a0 : Nat → Nat} {a1 : Nat → Nat} {ls : Array Slot} {H : Heap} {locs : List Loc} {s1 : S_Tr} {s0 : S_Mg} {out : Int32 × S_Mg} (X : Cx p s m args meth c prog_5_method_12_code 6 ws_Mg_understand R_Mg (some .boolean) D g) (hl : lv_has ls 6 []) (hI : Iw D A (w_Mg g a0 s0 ++ (w_Tr g a1 s1 ++ (rest))) H) (hS : va_S A s.heap H locs) (h : B_Mg_understand_38  s1 s0 = some out) : W p l e (headSpec ws_Mg_understand { frames := 2, cells := 0, slots := 0, locals := 46 }).room s m args below meth c H locs 0 0 (MQ below (QcI D A g out.1 (fun (_ : Unit) => w_Mg g a0 out.2 ++ (w_Tr g a1 s1 ++ (rest)))) args s 0 0 A) (F0 m 38 ls []) := by
  have X1 := X
  obtain ⟨hx, hb, hml, hown, hts, hr, hlocks, hKK⟩ := X1
  have ht : ∀ w ∈ TB, w.before args s = true := fun w h => hts w (List.mem_cons_of_mem _ h)
  have hK := hKK.1
  unfold B_Mg_understand_38 at h
  refine lv_iconst (v := 0) hx hb d_Mg_understand_38 (by decide) ?_
  have h9 := Option.some.inj h
  subst h9
  exact W.zret (v := (0 : Int32)) hx hb hr rfl (fun t ht hW => ⟨⟨_, (), rfl, rfl, ⟨by rw [ht]; exact hI, hKK.moved hW⟩⟩, hS.F ht⟩) hS.2.2 d_Mg_understand_39
set_option maxRecDepth 100000 in
set_option maxHeartbeats 4000000 in
theorem t_Mg_understand_129 {p : Program} {l : Launch} {e : Env} {s : State} {m : MethodId} {args : Array Value} {below : List Frame} {meth : Method} {c : Code} {D : va_G} {A : Nat → Prop} {g : Nat → ClassId} {rest : va_W} {a0 : Nat → Nat} {a1 : Nat → Nat} {ls : Array Slot} {H : Heap} {locs : List Loc} {s1 : S_Tr} {s0 : S_Mg} {y0 : Int32} {out : Int32 × S_Mg} (X : Cx p s m args meth c prog_5_method_12_code 6 ws_Mg_understand R_Mg (some .boolean) D g) (hl : lv_has ls 6 []) (hI : Iw D A (w_Mg g a0 s0 ++ (w_Tr g a1 s1 ++ (rest))) H) (hS : va_S A s.heap H locs) (h : B_Mg_understand_129  s1 s0 y0 = some out) : W p l e (headSpec ws_Mg_understand { frames := 2, cells := 0, slots := 0, locals := 46 }).room s m args below meth c H locs 0 0 (MQ below (QcI D A g out.1 (fun (_ : Unit) => w_Mg g a0 out.2 ++ (w_Tr g a1 s1 ++ (rest)))) args s 0 0 A) (F0 m 129 ls [.int y0]) := by
  have X1 := X
  obtain ⟨hx, hb, hml, hown, hts, hr, hlocks, hKK⟩ := X1
  have ht : ∀ w ∈ TB, w.before args s = true := fun w h => hts w (List.mem_cons_of_mem _ h)
  have hK := hKK.1
  unfold B_Mg_understand_129 at h
  have hc1 : y0 = 0 ∨ y0 = 1 := by
    by_cases z : y0 = 0 ∨ y0 = 1
    · exact z
    · exact no_s (it_f h z)
  have h := it_t h hc1
  have h9 := Option.some.inj h
  subst h9
  exact W.zret (v := y0) hx hb hr (by rcases hc1 with z | z <;> rw [z] <;> rfl) (fun t ht hW => ⟨⟨_, (), rfl, rfl, ⟨by rw [ht]; exact hI, hKK.moved hW⟩⟩, hS.F ht⟩) hS.2.2 d_Mg_understand_129
set_option maxRecDepth 100000 in
set_option maxHeartbeats 4000000 in
theorem t_Mg_understand_128 {p : Program} {l : Launch} {e : Env} {s : State} {m : MethodId} {args : Array Value} {below : List Frame} {meth : Method} {c : Code} {D : va_G} {A : Nat → Prop} {g : Nat → ClassId} {rest : va_W} {a0 : Nat → Nat} {a1 : Nat → Nat} {ls : Array Slot} {H : Heap} {locs : List Loc} {s1 : S_Tr} {s0 : S_Mg} {out : Int32 × S_Mg} (X : Cx p s m args meth c prog_5_method_12_code 6 ws_Mg_understand R_Mg (some .boolean) D g) (hl : lv_has ls 6 []) (hI : Iw D A (w_Mg g a0 s0 ++ (w_Tr g a1 s1 ++ (rest))) H) (hS : va_S A s.heap H locs) (h : B_Mg_understand_128  s1 s0 = some out) : W p l e (headSpec ws_Mg_understand { frames := 2, cells := 0, slots := 0, locals := 46 }).room s m args below meth c H locs 0 0 (MQ below (QcI D A g out.1 (fun (_ : Unit) => w_Mg g a0 out.2 ++ (w_Tr g a1 s1 ++ (rest)))) args s 0 0 A) (F0 m 128 ls []) := by
  have X1 := X
  obtain ⟨hx, hb, hml, hown, hts, hr, hlocks, hKK⟩ := X1
  have ht : ∀ w ∈ TB, w.before args s = true := fun w h => hts w (List.mem_cons_of_mem _ h)
  have hK := hKK.1
  unfold B_Mg_understand_128 at h
  refine lv_iconst (v := 0) hx hb d_Mg_understand_128 (by decide) ?_
  exact t_Mg_understand_129 X (lv_sub hl [] rfl) hI hS h
set_option maxRecDepth 100000 in
set_option maxHeartbeats 4000000 in
theorem t_Mg_understand_124 {p : Program} {l : Launch} {e : Env} {s : State} {m : MethodId} {args : Array Value} {below : List Frame} {meth : Method} {c : Code} {D : va_G} {A : Nat → Prop} {g : Nat → ClassId} {rest : va_W} {a0 : Nat → Nat} {a1 : Nat → Nat} {ls : Array Slot} {H : Heap} {locs : List Loc} {s1 : S_Tr} {s0 : S_Mg} {out : Int32 × S_Mg} (X : Cx p s m args meth c prog_5_method_12_code 6 ws_Mg_understand R_Mg (some .boolean) D g) (hl : lv_has ls 6 []) (hI : Iw D A (w_Mg g a0 s0 ++ (w_Tr g a1 s1 ++ (rest))) H) (hS : va_S A s.heap H locs) (h : B_Mg_understand_124  s1 s0 = some out) : W p l e (headSpec ws_Mg_understand { frames := 2, cells := 0, slots := 0, locals := 46 }).room s m args below meth c H locs 0 0 (MQ below (QcI D A g out.1 (fun (_ : Unit) => w_Mg g a0 out.2 ++ (w_Tr g a1 s1 ++ (rest)))) args s 0 0 A) (F0 m 124 ls []) := by
  have X1 := X
  obtain ⟨hx, hb, hml, hown, hts, hr, hlocks, hKK⟩ := X1
  have ht : ∀ w ∈ TB, w.before args s = true := fun w h => hts w (List.mem_cons_of_mem _ h)
  have hK := hKK.1
  unfold B_Mg_understand_124 at h
  refine lv_iconst (v := 1) hx hb d_Mg_understand_124 (by decide) ?_
  refine lv_goto (tgt := 129) hx hb d_Mg_understand_125 (by decide) ?_
  exact t_Mg_understand_129 X (lv_sub hl [] rfl) hI hS h
set_option maxRecDepth 100000 in
set_option maxHeartbeats 4000000 in
theorem t_Mg_understand_118 {p : Program} {l : Launch} {e : Env} {s : State} {m : MethodId} {args : Array Value} {below : List Frame} {meth : Method} {c : Code} {D : va_G} {A : Nat → Prop} {g : Nat → ClassId} {rest : va_W} {a0 : Nat → Nat} {a1 : Nat → Nat} {ls : Array Slot} {H : Heap} {locs : List Loc} {s1 : S_Tr} {s0 : S_Mg} {x5 : Int32} {out : Int32 × S_Mg} (X : Cx p s m args meth c prog_5_method_12_code 6 ws_Mg_understand R_Mg (some .boolean) D g) (hl : lv_has ls 6 [(5, .int x5)]) (hI : Iw D A (w_Mg g a0 s0 ++ (w_Tr g a1 s1 ++ (rest))) H) (hS : va_S A s.heap H locs) (h : B_Mg_understand_118  s1 s0 x5 = some out) : W p l e (headSpec ws_Mg_understand { frames := 2, cells := 0, slots := 0, locals := 46 }).room s m args below meth c H locs 0 0 (MQ below (QcI D A g out.1 (fun (_ : Unit) => w_Mg g a0 out.2 ++ (w_Tr g a1 s1 ++ (rest)))) args s 0 0 A) (F0 m 118 ls []) := by
  have X1 := X
  obtain ⟨hx, hb, hml, hown, hts, hr, hlocks, hKK⟩ := X1
  have ht : ∀ w ∈ TB, w.before args s = true := fun w h => hts w (List.mem_cons_of_mem _ h)
  have hK := hKK.1
  unfold B_Mg_understand_118 at h
  refine lv_iload hx hb d_Mg_understand_118 (lv_at hl 0 rfl) ?_
  refine lv_iconst (v := 1) hx hb d_Mg_understand_120 (by decide) ?_
  refine lv_icmp_ne (tgt := 128) hx hb d_Mg_understand_121 (by decide) (fun hc => ?_) (fun hc => ?_)
  · have h := it_f h hc
    exact t_Mg_understand_128 X (lv_sub hl [] rfl) hI hS h
  · have h := it_t h hc
    exact t_Mg_understand_124 X (lv_sub hl [] rfl) hI hS h
set_option maxRecDepth 100000 in
set_option maxHeartbeats 4000000 in
theorem t_Mg_understand_113 {p : Program} {l : Launch} {e : Env} {s : State} {m : MethodId} {args : Array Value} {below : List Frame} {meth : Method} {c : Code} {D : va_G} {A : Nat → Prop} {g : Nat → ClassId} {rest : va_W} {a0 : Nat → Nat} {a1 : Nat → Nat} {ls : Array Slot} {H : Heap} {locs : List Loc} {s1 : S_Tr} {s0 : S_Mg} {x5 : Int32} {out : Int32 × S_Mg} (X : Cx p s m args meth c prog_5_method_12_code 6 ws_Mg_understand R_Mg (some .boolean) D g) (hl : lv_has ls 6 [(5, .int x5)]) (hI : Iw D A (w_Mg g a0 s0 ++ (w_Tr g a1 s1 ++ (rest))) H) (hS : va_S A s.heap H locs) (h : B_Mg_understand_113  s1 s0 x5 = some out) : W p l e (headSpec ws_Mg_understand { frames := 2, cells := 0, slots := 0, locals := 46 }).room s m args below meth c H locs 0 0 (MQ below (QcI D A g out.1 (fun (_ : Unit) => w_Mg g a0 out.2 ++ (w_Tr g a1 s1 ++ (rest)))) args s 0 0 A) (F0 m 113 ls []) := by
  have X1 := X
  obtain ⟨hx, hb, hml, hown, hts, hr, hlocks, hKK⟩ := X1
  have ht : ∀ w ∈ TB, w.before args s = true := fun w h => hts w (List.mem_cons_of_mem _ h)
  have hK := hKK.1
  unfold B_Mg_understand_113 at h
  refine lv_iload hx hb d_Mg_understand_113 (lv_at hl 0 rfl) ?_
  refine lv_if_eq (tgt := 124) hx hb d_Mg_understand_115 (by decide) (fun hc => ?_) (fun hc => ?_)
  · have h := it_t h hc
    exact t_Mg_understand_124 X (lv_sub hl [] rfl) hI hS h
  · have h := it_f h hc
    exact t_Mg_understand_118 X (lv_sub hl [0] rfl) hI hS h
set_option maxRecDepth 100000 in
set_option maxHeartbeats 4000000 in
theorem t_Mg_understand_105 {p : Program} {l : Launch} {e : Env} {s : State} {m : MethodId} {args : Array Value} {below : List Frame} {meth : Method} {c : Code} {D : va_G} {A : Nat → Prop} {g : Nat → ClassId} {rest : va_W} {a0 : Nat → Nat} {a1 : Nat → Nat} {ls : Array Slot} {H : Heap} {locs : List Loc} {s1 : S_Tr} {s0 : S_Mg} {x5 : Int32} {out : Int32 × S_Mg} (X : Cx p s m args meth c prog_5_method_12_code 6 ws_Mg_understand R_Mg (some .boolean) D g) (hl : lv_has ls 6 [(0, .ref (a0 0)), (5, .int x5)]) (hI : Iw D A (w_Mg g a0 s0 ++ (w_Tr g a1 s1 ++ (rest))) H) (hS : va_S A s.heap H locs) (h : B_Mg_understand_105  s1 s0 x5 = some out) : W p l e (headSpec ws_Mg_understand { frames := 2, cells := 0, slots := 0, locals := 46 }).room s m args below meth c H locs 0 0 (MQ below (QcI D A g out.1 (fun (_ : Unit) => w_Mg g a0 out.2 ++ (w_Tr g a1 s1 ++ (rest)))) args s 0 0 A) (F0 m 105 ls []) := by
  have X1 := X
  obtain ⟨hx, hb, hml, hown, hts, hr, hlocks, hKK⟩ := X1
  have ht : ∀ w ∈ TB, w.before args s = true := fun w h => hts w (List.mem_cons_of_mem _ h)
  have hK := hKK.1
  unfold B_Mg_understand_105 at h
  refine lv_aload_n hx hb d_Mg_understand_105 rfl (lv_at hl 0 rfl) ?_
  refine va_get (D := D) (ci := 3) (v := .int (Mg_kind s0)) (C := R_Mg) (T := T_Mg) (N := 5) hx hb ht in_Mg hown hK hI.1 0 rfl rfl 2 (by decide) (ht _ m_83) (fun _ h9 => h9) rfl d_Mg_understand_106 ?_
  refine lv_iconst (v := 3) hx hb d_Mg_understand_109 (by decide) ?_
  refine lv_icmp_gt (tgt := 128) hx hb d_Mg_understand_110 (by decide) (fun hc => ?_) (fun hc => ?_)
  · have h := it_t h hc
    exact t_Mg_understand_128 X (lv_sub hl [] rfl) hI hS h
  · have h := it_f h hc
    exact t_Mg_understand_113 X (lv_sub hl [1] rfl) hI hS h
set_option maxRecDepth 100000 in
set_option maxHeartbeats 4000000 in
theorem t_Mg_understand_94 {p : Program} {l : Launch} {e : Env} {s : State} {m : MethodId} {args : Array Value} {below : List Frame} {meth : Method} {c : Code} {D : va_G} {A : Nat → Prop} {g : Nat → ClassId} {rest : va_W} {a0 : Nat → Nat} {a1 : Nat → Nat} {ls : Array Slot} {H : Heap} {locs : List Loc} {s1 : S_Tr} {s0 : S_Mg} {x5 : Int32} {y0 : Int32} {out : Int32 × S_Mg} (X : Cx p s m args meth c prog_5_method_12_code 6 ws_Mg_understand R_Mg (some .boolean) D g) (hl : lv_has ls 6 [(0, .ref (a0 0)), (5, .int x5)]) (hI : Iw D A (w_Mg g a0 s0 ++ (w_Tr g a1 s1 ++ (rest))) H) (hS : va_S A s.heap H locs) (h : B_Mg_understand_94  s1 s0 x5 y0 = some out) : W p l e (headSpec ws_Mg_understand { frames := 2, cells := 0, slots := 0, locals := 46 }).room s m args below meth c H locs 0 0 (MQ below (QcI D A g out.1 (fun (_ : Unit) => w_Mg g a0 out.2 ++ (w_Tr g a1 s1 ++ (rest)))) args s 0 0 A) (F0 m 94 ls [.int y0, .ref (a0 0)]) := by
  have X1 := X
  obtain ⟨hx, hb, hml, hown, hts, hr, hlocks, hKK⟩ := X1
  have ht : ∀ w ∈ TB, w.before args s = true := fun w h => hts w (List.mem_cons_of_mem _ h)
  have hK := hKK.1
  unfold B_Mg_understand_94 at h
  refine va_put (D := D) (ci := 3) (v := .int y0) (ty := .int) (C := R_Mg) (T := T_Mg) (N := 5) hx hb ht in_Mg ty_Mg tyok_Mg nm_Mg hown hK hI.1 hI.2 hS 0 rfl rfl 0 (by decide) (ht _ m_81) (fun _ h9 => h9) rfl (by decide +kernel) rfl rfl (Nat.le_of_ble_eq_true rfl) d_Mg_understand_94 (fun H locs hP hD hS => ?_)
  have hI : Iw D A (w_Mg g a0 (Mg_set_stage s0 y0) ++ (w_Tr g a1 s1 ++ (rest))) H := ⟨hP, hD⟩
  refine lv_aload_n hx hb d_Mg_understand_97 rfl (lv_at hl 0 rfl) ?_
  refine va_get (D := D) (ci := 3) (v := .int (Mg_kind (Mg_set_stage s0 y0))) (C := R_Mg) (T := T_Mg) (N := 5) hx hb ht in_Mg hown hK hI.1 0 rfl rfl 2 (by decide) (ht _ m_83) (fun _ h9 => h9) rfl d_Mg_understand_98 ?_
  refine lv_iconst (v := 1) hx hb d_Mg_understand_101 (by decide) ?_
  refine lv_icmp_lt (tgt := 128) hx hb d_Mg_understand_102 (by decide) (fun hc => ?_) (fun hc => ?_)
  · have h := it_t h hc
    exact t_Mg_understand_128 X (lv_sub hl [] rfl) hI hS h
  · have h := it_f h hc
    exact t_Mg_understand_105 X (lv_sub hl [0, 1] rfl) hI hS h
set_option maxRecDepth 100000 in
set_option maxHeartbeats 4000000 in
theorem t_Mg_understand_93 {p : Program} {l : Launch} {e : Env} {s : State} {m : MethodId} {args : Array Value} {below : List Frame} {meth : Method} {c : Code} {D : va_G} {A : Nat → Prop} {g : Nat → ClassId} {rest : va_W} {a0 : Nat → Nat} {a1 : Nat → Nat} {ls : Array Slot} {H : Heap} {locs : List Loc} {s1 : S_Tr} {s0 : S_Mg} {x5 : Int32} {out : Int32 × S_Mg} (X : Cx p s m args meth c prog_5_method_12_code 6 ws_Mg_understand R_Mg (some .boolean) D g) (hl : lv_has ls 6 [(0, .ref (a0 0)), (5, .int x5)]) (hI : Iw D A (w_Mg g a0 s0 ++ (w_Tr g a1 s1 ++ (rest))) H) (hS : va_S A s.heap H locs) (h : B_Mg_understand_93  s1 s0 x5 = some out) : W p l e (headSpec ws_Mg_understand { frames := 2, cells := 0, slots := 0, locals := 46 }).room s m args below meth c H locs 0 0 (MQ below (QcI D A g out.1 (fun (_ : Unit) => w_Mg g a0 out.2 ++ (w_Tr g a1 s1 ++ (rest)))) args s 0 0 A) (F0 m 93 ls [.ref (a0 0)]) := by
  have X1 := X
  obtain ⟨hx, hb, hml, hown, hts, hr, hlocks, hKK⟩ := X1
  have ht : ∀ w ∈ TB, w.before args s = true := fun w h => hts w (List.mem_cons_of_mem _ h)
  have hK := hKK.1
  unfold B_Mg_understand_93 at h
  refine lv_iconst (v := 3) hx hb d_Mg_understand_93 (by decide) ?_
  exact t_Mg_understand_94 X (lv_sub hl [0, 1] rfl) hI hS h
set_option maxRecDepth 100000 in
set_option maxHeartbeats 4000000 in
theorem t_Mg_understand_89 {p : Program} {l : Launch} {e : Env} {s : State} {m : MethodId} {args : Array Value} {below : List Frame} {meth : Method} {c : Code} {D : va_G} {A : Nat → Prop} {g : Nat → ClassId} {rest : va_W} {a0 : Nat → Nat} {a1 : Nat → Nat} {ls : Array Slot} {H : Heap} {locs : List Loc} {s1 : S_Tr} {s0 : S_Mg} {x5 : Int32} {out : Int32 × S_Mg} (X : Cx p s m args meth c prog_5_method_12_code 6 ws_Mg_understand R_Mg (some .boolean) D g) (hl : lv_has ls 6 [(0, .ref (a0 0)), (5, .int x5)]) (hI : Iw D A (w_Mg g a0 s0 ++ (w_Tr g a1 s1 ++ (rest))) H) (hS : va_S A s.heap H locs) (h : B_Mg_understand_89  s1 s0 x5 = some out) : W p l e (headSpec ws_Mg_understand { frames := 2, cells := 0, slots := 0, locals := 46 }).room s m args below meth c H locs 0 0 (MQ below (QcI D A g out.1 (fun (_ : Unit) => w_Mg g a0 out.2 ++ (w_Tr g a1 s1 ++ (rest)))) args s 0 0 A) (F0 m 89 ls [.ref (a0 0)]) := by
  have X1 := X
  obtain ⟨hx, hb, hml, hown, hts, hr, hlocks, hKK⟩ := X1
  have ht : ∀ w ∈ TB, w.before args s = true := fun w h => hts w (List.mem_cons_of_mem _ h)
  have hK := hKK.1
  unfold B_Mg_understand_89 at h
  refine lv_iconst (v := 2) hx hb d_Mg_understand_89 (by decide) ?_
  refine lv_goto (tgt := 94) hx hb d_Mg_understand_90 (by decide) ?_
  exact t_Mg_understand_94 X (lv_sub hl [0, 1] rfl) hI hS h
set_option maxRecDepth 100000 in
set_option maxHeartbeats 4000000 in
theorem t_Mg_understand_78 {p : Program} {l : Launch} {e : Env} {s : State} {m : MethodId} {args : Array Value} {below : List Frame} {meth : Method} {c : Code} {D : va_G} {A : Nat → Prop} {g : Nat → ClassId} {rest : va_W} {a0 : Nat → Nat} {a1 : Nat → Nat} {ls : Array Slot} {H : Heap} {locs : List Loc} {s1 : S_Tr} {s0 : S_Mg} {x5 : Int32} {y0 : Int32} {out : Int32 × S_Mg} (X : Cx p s m args meth c prog_5_method_12_code 6 ws_Mg_understand R_Mg (some .boolean) D g) (hl : lv_has ls 6 [(0, .ref (a0 0)), (5, .int x5)]) (hI : Iw D A (w_Mg g a0 s0 ++ (w_Tr g a1 s1 ++ (rest))) H) (hS : va_S A s.heap H locs) (h : B_Mg_understand_78  s1 s0 x5 y0 = some out) : W p l e (headSpec ws_Mg_understand { frames := 2, cells := 0, slots := 0, locals := 46 }).room s m args below meth c H locs 0 0 (MQ below (QcI D A g out.1 (fun (_ : Unit) => w_Mg g a0 out.2 ++ (w_Tr g a1 s1 ++ (rest)))) args s 0 0 A) (F0 m 78 ls [.int y0, .ref (a0 0)]) := by
  have X1 := X
  obtain ⟨hx, hb, hml, hown, hts, hr, hlocks, hKK⟩ := X1
  have ht : ∀ w ∈ TB, w.before args s = true := fun w h => hts w (List.mem_cons_of_mem _ h)
  have hK := hKK.1
  unfold B_Mg_understand_78 at h
  have hc1 : y0 = 0 ∨ y0 = 1 := by
    by_cases z : y0 = 0 ∨ y0 = 1
    · exact z
    · exact no_s (it_f h z)
  have h := it_t h hc1
  refine va_put (D := D) (ci := 3) (v := .int y0) (ty := .boolean) (C := R_Mg) (T := T_Mg) (N := 5) hx hb ht in_Mg ty_Mg tyok_Mg nm_Mg hown hK hI.1 hI.2 hS 0 rfl rfl 4 (by decide) (ht _ m_85) (fun _ h9 => h9) rfl (by decide +kernel) (by rcases hc1 with z | z <;> rw [z] <;> rfl) (by rcases hc1 with z | z <;> rw [z] <;> rfl) (Nat.le_of_ble_eq_true rfl) d_Mg_understand_78 (fun H locs hP hD hS => ?_)
  have hI : Iw D A (w_Mg g a0 (Mg_set_hasSet s0 y0) ++ (w_Tr g a1 s1 ++ (rest))) H := ⟨hP, hD⟩
  refine lv_aload_n hx hb d_Mg_understand_81 rfl (lv_at hl 0 rfl) ?_
  refine lv_aload_n hx hb d_Mg_understand_82 rfl (lv_at hl 0 rfl) ?_
  refine va_get (D := D) (ci := 3) (v := .int (Mg_hasSet (Mg_set_hasSet s0 y0))) (C := R_Mg) (T := T_Mg) (N := 5) hx hb ht in_Mg hown hK hI.1 0 rfl rfl 4 (by decide) (ht _ m_85) (fun _ h9 => h9) rfl d_Mg_understand_83 ?_
  refine lv_if_eq (tgt := 93) hx hb d_Mg_understand_86 (by decide) (fun hc => ?_) (fun hc => ?_)
  · have h := it_t h hc
    exact t_Mg_understand_93 X (lv_sub hl [0, 1] rfl) hI hS h
  · have h := it_f h hc
    exact t_Mg_understand_89 X (lv_sub hl [0, 1] rfl) hI hS h
set_option maxRecDepth 100000 in
set_option maxHeartbeats 4000000 in
theorem t_Mg_understand_77 {p : Program} {l : Launch} {e : Env} {s : State} {m : MethodId} {args : Array Value} {below : List Frame} {meth : Method} {c : Code} {D : va_G} {A : Nat → Prop} {g : Nat → ClassId} {rest : va_W} {a0 : Nat → Nat} {a1 : Nat → Nat} {ls : Array Slot} {H : Heap} {locs : List Loc} {s1 : S_Tr} {s0 : S_Mg} {x5 : Int32} {out : Int32 × S_Mg} (X : Cx p s m args meth c prog_5_method_12_code 6 ws_Mg_understand R_Mg (some .boolean) D g) (hl : lv_has ls 6 [(0, .ref (a0 0)), (5, .int x5)]) (hI : Iw D A (w_Mg g a0 s0 ++ (w_Tr g a1 s1 ++ (rest))) H) (hS : va_S A s.heap H locs) (h : B_Mg_understand_77  s1 s0 x5 = some out) : W p l e (headSpec ws_Mg_understand { frames := 2, cells := 0, slots := 0, locals := 46 }).room s m args below meth c H locs 0 0 (MQ below (QcI D A g out.1 (fun (_ : Unit) => w_Mg g a0 out.2 ++ (w_Tr g a1 s1 ++ (rest)))) args s 0 0 A) (F0 m 77 ls [.ref (a0 0)]) := by
  have X1 := X
  obtain ⟨hx, hb, hml, hown, hts, hr, hlocks, hKK⟩ := X1
  have ht : ∀ w ∈ TB, w.before args s = true := fun w h => hts w (List.mem_cons_of_mem _ h)
  have hK := hKK.1
  unfold B_Mg_understand_77 at h
  refine lv_iconst (v := 0) hx hb d_Mg_understand_77 (by decide) ?_
  exact t_Mg_understand_78 X (lv_sub hl [0, 1] rfl) hI hS h
set_option maxRecDepth 100000 in
set_option maxHeartbeats 4000000 in
theorem t_Mg_understand_73 {p : Program} {l : Launch} {e : Env} {s : State} {m : MethodId} {args : Array Value} {below : List Frame} {meth : Method} {c : Code} {D : va_G} {A : Nat → Prop} {g : Nat → ClassId} {rest : va_W} {a0 : Nat → Nat} {a1 : Nat → Nat} {ls : Array Slot} {H : Heap} {locs : List Loc} {s1 : S_Tr} {s0 : S_Mg} {x5 : Int32} {out : Int32 × S_Mg} (X : Cx p s m args meth c prog_5_method_12_code 6 ws_Mg_understand R_Mg (some .boolean) D g) (hl : lv_has ls 6 [(0, .ref (a0 0)), (5, .int x5)]) (hI : Iw D A (w_Mg g a0 s0 ++ (w_Tr g a1 s1 ++ (rest))) H) (hS : va_S A s.heap H locs) (h : B_Mg_understand_73  s1 s0 x5 = some out) : W p l e (headSpec ws_Mg_understand { frames := 2, cells := 0, slots := 0, locals := 46 }).room s m args below meth c H locs 0 0 (MQ below (QcI D A g out.1 (fun (_ : Unit) => w_Mg g a0 out.2 ++ (w_Tr g a1 s1 ++ (rest)))) args s 0 0 A) (F0 m 73 ls [.ref (a0 0)]) := by
  have X1 := X
  obtain ⟨hx, hb, hml, hown, hts, hr, hlocks, hKK⟩ := X1
  have ht : ∀ w ∈ TB, w.before args s = true := fun w h => hts w (List.mem_cons_of_mem _ h)
  have hK := hKK.1
  unfold B_Mg_understand_73 at h
  refine lv_iconst (v := 1) hx hb d_Mg_understand_73 (by decide) ?_
  refine lv_goto (tgt := 78) hx hb d_Mg_understand_74 (by decide) ?_
  exact t_Mg_understand_78 X (lv_sub hl [0, 1] rfl) hI hS h
set_option maxRecDepth 100000 in
set_option maxHeartbeats 4000000 in
theorem t_Mg_understand_40 {p : Program} {l : Launch} {e : Env} {s : State} {m : MethodId} {args : Array Value} {below : List Frame} {meth : Method} {c : Code} {D : va_G} {A : Nat → Prop} {g : Nat → ClassId} {rest : va_W} {a0 : Nat → Nat} {a1 : Nat → Nat} {ls : Array Slot} {H : Heap} {locs : List Loc} {s1 : S_Tr} {s0 : S_Mg} {x2 : Int32} {x3 : Int32} {x4 : Int32} {out : Int32 × S_Mg} (X : Cx p s m args meth c prog_5_method_12_code 6 ws_Mg_understand R_Mg (some .boolean) D g) (hl : lv_has ls 6 [(0, .ref (a0 0)), (1, .ref (a1 0)), (2, .int x2), (3, .int x3), (4, .int x4)]) (hI : Iw D A (w_Mg g a0 s0 ++ (w_Tr g a1 s1 ++ (rest))) H) (hS : va_S A s.heap H locs) (h : B_Mg_understand_40  s1 s0 x2 x3 x4 = some out) : W p l e (headSpec ws_Mg_understand { frames := 2, cells := 0, slots := 0, locals := 46 }).room s m args below meth c H locs 0 0 (MQ below (QcI D A g out.1 (fun (_ : Unit) => w_Mg g a0 out.2 ++ (w_Tr g a1 s1 ++ (rest)))) args s 0 0 A) (F0 m 40 ls []) := by
  have X1 := X
  obtain ⟨hx, hb, hml, hown, hts, hr, hlocks, hKK⟩ := X1
  have ht : ∀ w ∈ TB, w.before args s = true := fun w h => hts w (List.mem_cons_of_mem _ h)
  have hK := hKK.1
  unfold B_Mg_understand_40 at h
  refine lv_aload_n hx hb d_Mg_understand_40 rfl (lv_at hl 0 rfl) ?_
  refine lv_aload_n hx hb d_Mg_understand_41 rfl (lv_at hl 1 rfl) ?_
  refine lv_iload_n hx hb d_Mg_understand_42 rfl (lv_at hl 2 rfl) ?_
  obtain ⟨o1, ho2, h⟩ := bd_s h
  refine cl_i (W1 := fun (_ : Unit) => w_Mg g a0 s0 ++ (w_Tr g a1 s1 ++ (rest))) (va_runV (As := [.int x2]) (rest := [.ref (a0 0)]) ⟨hx, hb, hml, hown, ht⟩ (c_Tr_number (l := l) (D := D) (A := A) (g := g) (rest := w_Mg g a0 s0 ++ (rest)) (a0 := a1) ho2) (cwV 1 ht (gd_V m_515 m_516 m_517 m_9 m_518) rfl rfl rfl (by decide +kernel) ⟨(Nat.le_of_ble_eq_true rfl), (Nat.le_of_ble_eq_true rfl)⟩) (prV (ci := 7) (q0 := 0) hKK hI (mv_1) rfl rfl rfl) rfl rfl hl.1 rfl (lv_room (Nat.le_of_ble_eq_true rfl)) d_Mg_understand_43 ⟨(Nat.le_of_ble_eq_true rfl), (Nat.le_of_ble_eq_true rfl)⟩) hS (fun _ => ((mv_1)).symm) (fun _ H locs hI hS => ?_)
  have hI : Iw D A (w_Mg g a0 s0 ++ (w_Tr g a1 s1 ++ (rest))) H := hI
  refine va_put (D := D) (ci := 3) (v := .int o1) (ty := .int) (C := R_Mg) (T := T_Mg) (N := 5) hx hb ht in_Mg ty_Mg tyok_Mg nm_Mg hown hK hI.1 hI.2 hS 0 rfl rfl 2 (by decide) (ht _ m_83) (fun _ h9 => h9) rfl (by decide +kernel) rfl rfl (Nat.le_of_ble_eq_true rfl) d_Mg_understand_46 (fun H locs hP hD hS => ?_)
  have hI : Iw D A (w_Mg g a0 (Mg_set_kind s0 o1) ++ (w_Tr g a1 s1 ++ (rest))) H := ⟨hP, hD⟩
  refine lv_aload_n hx hb d_Mg_understand_49 rfl (lv_at hl 0 rfl) ?_
  refine lv_aload_n hx hb d_Mg_understand_50 rfl (lv_at hl 1 rfl) ?_
  refine lv_iload_n hx hb d_Mg_understand_51 rfl (lv_at hl 3 rfl) ?_
  obtain ⟨o3, ho4, h⟩ := bd_s h
  refine cl_i (W1 := fun (_ : Unit) => w_Mg g a0 (Mg_set_kind s0 o1) ++ (w_Tr g a1 s1 ++ (rest))) (va_runV (As := [.int x3]) (rest := [.ref (a0 0)]) ⟨hx, hb, hml, hown, ht⟩ (c_Tr_number (l := l) (D := D) (A := A) (g := g) (rest := w_Mg g a0 (Mg_set_kind s0 o1) ++ (rest)) (a0 := a1) ho4) (cwV 1 ht (gd_V m_515 m_516 m_517 m_9 m_518) rfl rfl rfl (by decide +kernel) ⟨(Nat.le_of_ble_eq_true rfl), (Nat.le_of_ble_eq_true rfl)⟩) (prV (ci := 7) (q0 := 0) hKK hI (mv_1) rfl rfl rfl) rfl rfl hl.1 rfl (lv_room (Nat.le_of_ble_eq_true rfl)) d_Mg_understand_52 ⟨(Nat.le_of_ble_eq_true rfl), (Nat.le_of_ble_eq_true rfl)⟩) hS (fun _ => ((mv_1)).symm) (fun _ H locs hI hS => ?_)
  have hI : Iw D A (w_Mg g a0 (Mg_set_kind s0 o1) ++ (w_Tr g a1 s1 ++ (rest))) H := hI
  refine va_put (D := D) (ci := 3) (v := .int o3) (ty := .int) (C := R_Mg) (T := T_Mg) (N := 5) hx hb ht in_Mg ty_Mg tyok_Mg nm_Mg hown hK hI.1 hI.2 hS 0 rfl rfl 3 (by decide) (ht _ m_84) (fun _ h9 => h9) rfl (by decide +kernel) rfl rfl (Nat.le_of_ble_eq_true rfl) d_Mg_understand_55 (fun H locs hP hD hS => ?_)
  have hI : Iw D A (w_Mg g a0 (Mg_set_number (Mg_set_kind s0 o1) o3) ++ (w_Tr g a1 s1 ++ (rest))) H := ⟨hP, hD⟩
  refine lv_aload_n hx hb d_Mg_understand_58 rfl (lv_at hl 1 rfl) ?_
  refine lv_iload hx hb d_Mg_understand_59 (lv_at hl 4 rfl) ?_
  obtain ⟨o5, ho6, h⟩ := bd_s h
  refine cl_i (W1 := fun (_ : Unit) => w_Mg g a0 (Mg_set_number (Mg_set_kind s0 o1) o3) ++ (w_Tr g a1 s1 ++ (rest))) (va_runV (As := [.int x4]) (rest := []) ⟨hx, hb, hml, hown, ht⟩ (c_Tr_number (l := l) (D := D) (A := A) (g := g) (rest := w_Mg g a0 (Mg_set_number (Mg_set_kind s0 o1) o3) ++ (rest)) (a0 := a1) ho6) (cwV 1 ht (gd_V m_515 m_516 m_517 m_9 m_518) rfl rfl rfl (by decide +kernel) ⟨(Nat.le_of_ble_eq_true rfl), (Nat.le_of_ble_eq_true rfl)⟩) (prV (ci := 7) (q0 := 0) hKK hI (mv_1) rfl rfl rfl) rfl rfl hl.1 rfl (lv_room (Nat.le_of_ble_eq_true rfl)) d_Mg_understand_61 ⟨(Nat.le_of_ble_eq_true rfl), (Nat.le_of_ble_eq_true rfl)⟩) hS (fun _ => ((mv_1)).symm) (fun _ H locs hI hS => ?_)
  have hI : Iw D A (w_Mg g a0 (Mg_set_number (Mg_set_kind s0 o1) o3) ++ (w_Tr g a1 s1 ++ (rest))) H := hI
  refine lv_istore hx hb d_Mg_understand_64 hl (Nat.le_of_ble_eq_true rfl) rfl (fun ls hl => ?_)
  have hl : lv_has ls 6 [(5, .int o5), (0, .ref (a0 0)), (1, .ref (a1 0)), (2, .int x2), (3, .int x3), (4, .int x4)] := hl
  refine lv_aload_n hx hb d_Mg_understand_66 rfl (lv_at hl 1 rfl) ?_
  refine lv_iload hx hb d_Mg_understand_67 (lv_at hl 0 rfl) ?_
  refine lv_iconst (v := 1) hx hb d_Mg_understand_69 (by decide) ?_
  refine lv_icmp_ne (tgt := 77) hx hb d_Mg_understand_70 (by decide) (fun hc => ?_) (fun hc => ?_)
  · have h := it_f h hc
    exact t_Mg_understand_77 X (lv_sub hl [1, 0] rfl) hI hS h
  · have h := it_t h hc
    exact t_Mg_understand_73 X (lv_sub hl [1, 0] rfl) hI hS h
set_option maxRecDepth 100000 in
set_option maxHeartbeats 4000000 in
theorem t_Mg_understand_32 {p : Program} {l : Launch} {e : Env} {s : State} {m : MethodId} {args : Array Value} {below : List Frame} {meth : Method} {c : Code} {D : va_G} {A : Nat → Prop} {g : Nat → ClassId} {rest : va_W} {a0 : Nat → Nat} {a1 : Nat → Nat} {ls : Array Slot} {H : Heap} {locs : List Loc} {s1 : S_Tr} {s0 : S_Mg} {x2 : Int32} {x3 : Int32} {x4 : Int32} {out : Int32 × S_Mg} (X : Cx p s m args meth c prog_5_method_12_code 6 ws_Mg_understand R_Mg (some .boolean) D g) (hl : lv_has ls 6 [(0, .ref (a0 0)), (1, .ref (a1 0)), (2, .int x2), (3, .int x3), (4, .int x4)]) (hI : Iw D A (w_Mg g a0 s0 ++ (w_Tr g a1 s1 ++ (rest))) H) (hS : va_S A s.heap H locs) (h : B_Mg_understand_32  s1 s0 x2 x3 x4 = some out) : W p l e (headSpec ws_Mg_understand { frames := 2, cells := 0, slots := 0, locals := 46 }).room s m args below meth c H locs 0 0 (MQ below (QcI D A g out.1 (fun (_ : Unit) => w_Mg g a0 out.2 ++ (w_Tr g a1 s1 ++ (rest)))) args s 0 0 A) (F0 m 32 ls []) := by
  have X1 := X
  obtain ⟨hx, hb, hml, hown, hts, hr, hlocks, hKK⟩ := X1
  have ht : ∀ w ∈ TB, w.before args s = true := fun w h => hts w (List.mem_cons_of_mem _ h)
  have hK := hKK.1
  unfold B_Mg_understand_32 at h
  refine lv_iload hx hb d_Mg_understand_32 (lv_at hl 4 rfl) ?_
  refine lv_iconst (v := (-1)) hx hb d_Mg_understand_34 (by decide) ?_
  refine lv_icmp_ne (tgt := 40) hx hb d_Mg_understand_35 (by decide) (fun hc => ?_) (fun hc => ?_)
  · have h := it_f h hc
    exact t_Mg_understand_40 X (lv_sub hl [0, 1, 2, 3, 4] rfl) hI hS h
  · have h := it_t h hc
    exact t_Mg_understand_38 X (lv_sub hl [] rfl) hI hS h
set_option maxRecDepth 100000 in
set_option maxHeartbeats 4000000 in
theorem t_Mg_understand_27 {p : Program} {l : Launch} {e : Env} {s : State} {m : MethodId} {args : Array Value} {below : List Frame} {meth : Method} {c : Code} {D : va_G} {A : Nat → Prop} {g : Nat → ClassId} {rest : va_W} {a0 : Nat → Nat} {a1 : Nat → Nat} {ls : Array Slot} {H : Heap} {locs : List Loc} {s1 : S_Tr} {s0 : S_Mg} {x2 : Int32} {x3 : Int32} {x4 : Int32} {out : Int32 × S_Mg} (X : Cx p s m args meth c prog_5_method_12_code 6 ws_Mg_understand R_Mg (some .boolean) D g) (hl : lv_has ls 6 [(0, .ref (a0 0)), (1, .ref (a1 0)), (2, .int x2), (3, .int x3), (4, .int x4)]) (hI : Iw D A (w_Mg g a0 s0 ++ (w_Tr g a1 s1 ++ (rest))) H) (hS : va_S A s.heap H locs) (h : B_Mg_understand_27  s1 s0 x2 x3 x4 = some out) : W p l e (headSpec ws_Mg_understand { frames := 2, cells := 0, slots := 0, locals := 46 }).room s m args below meth c H locs 0 0 (MQ below (QcI D A g out.1 (fun (_ : Unit) => w_Mg g a0 out.2 ++ (w_Tr g a1 s1 ++ (rest)))) args s 0 0 A) (F0 m 27 ls []) := by
  have X1 := X
  obtain ⟨hx, hb, hml, hown, hts, hr, hlocks, hKK⟩ := X1
  have ht : ∀ w ∈ TB, w.before args s = true := fun w h => hts w (List.mem_cons_of_mem _ h)
  have hK := hKK.1
  unfold B_Mg_understand_27 at h
  refine lv_iload_n hx hb d_Mg_understand_27 rfl (lv_at hl 3 rfl) ?_
  refine lv_iconst (v := (-1)) hx hb d_Mg_understand_28 (by decide) ?_
  refine lv_icmp_eq (tgt := 38) hx hb d_Mg_understand_29 (by decide) (fun hc => ?_) (fun hc => ?_)
  · have h := it_t h hc
    exact t_Mg_understand_38 X (lv_sub hl [] rfl) hI hS h
  · have h := it_f h hc
    exact t_Mg_understand_32 X (lv_sub hl [0, 1, 2, 3, 4] rfl) hI hS h
set_option maxRecDepth 100000 in
set_option maxHeartbeats 4000000 in
theorem t_Mg_understand_0 {p : Program} {l : Launch} {e : Env} {s : State} {m : MethodId} {args : Array Value} {below : List Frame} {meth : Method} {c : Code} {D : va_G} {A : Nat → Prop} {g : Nat → ClassId} {rest : va_W} {a0 : Nat → Nat} {a1 : Nat → Nat} {ls : Array Slot} {H : Heap} {locs : List Loc} {s1 : S_Tr} {s0 : S_Mg} {out : Int32 × S_Mg} (X : Cx p s m args meth c prog_5_method_12_code 6 ws_Mg_understand R_Mg (some .boolean) D g) (hl : lv_has ls 6 [(0, .ref (a0 0)), (1, .ref (a1 0))]) (hI : Iw D A (w_Mg g a0 s0 ++ (w_Tr g a1 s1 ++ (rest))) H) (hS : va_S A s.heap H locs) (h : B_Mg_understand_0  s1 s0 = some out) : W p l e (headSpec ws_Mg_understand { frames := 2, cells := 0, slots := 0, locals := 46 }).room s m args below meth c H locs 0 0 (MQ below (QcI D A g out.1 (fun (_ : Unit) => w_Mg g a0 out.2 ++ (w_Tr g a1 s1 ++ (rest)))) args s 0 0 A) (F0 m 0 ls []) := by
  have X1 := X
  obtain ⟨hx, hb, hml, hown, hts, hr, hlocks, hKK⟩ := X1
  have ht : ∀ w ∈ TB, w.before args s = true := fun w h => hts w (List.mem_cons_of_mem _ h)
  have hK := hKK.1
  unfold B_Mg_understand_0 at h
  refine lv_aload_n hx hb d_Mg_understand_0 rfl (lv_at hl 1 rfl) ?_
  refine lv_iconst (v := 0) hx hb d_Mg_understand_1 (by decide) ?_
  refine lv_iconst (v := 1) hx hb d_Mg_understand_2 (by decide) ?_
  obtain ⟨o1, ho2, h⟩ := bd_s h
  refine cl_i (W1 := fun (_ : Unit) => w_Mg g a0 s0 ++ (w_Tr g a1 s1 ++ (rest))) (va_runV (As := [.int (0 : Int32), .int (1 : Int32)]) (rest := []) ⟨hx, hb, hml, hown, ht⟩ (c_Tr_find (l := l) (D := D) (A := A) (g := g) (rest := w_Mg g a0 s0 ++ (rest)) (a0 := a1) ho2) (cwV 2 ht (gd_V m_503 m_504 m_505 m_9 m_506) rfl rfl rfl (by decide +kernel) ⟨(Nat.le_of_ble_eq_true rfl), (Nat.le_of_ble_eq_true rfl)⟩) (prV (ci := 7) (q0 := 0) hKK hI (mv_1) rfl rfl rfl) rfl rfl hl.1 rfl (lv_room (Nat.le_of_ble_eq_true rfl)) d_Mg_understand_3 ⟨(Nat.le_of_ble_eq_true rfl), (Nat.le_of_ble_eq_true rfl)⟩) hS (fun _ => ((mv_1)).symm) (fun _ H locs hI hS => ?_)
  have hI : Iw D A (w_Mg g a0 s0 ++ (w_Tr g a1 s1 ++ (rest))) H := hI
  refine lv_istore_n hx hb d_Mg_understand_6 rfl hl (Nat.le_of_ble_eq_true rfl) rfl (fun ls hl => ?_)
  have hl : lv_has ls 6 [(2, .int o1), (0, .ref (a0 0)), (1, .ref (a1 0))] := hl
  refine lv_aload_n hx hb d_Mg_understand_7 rfl (lv_at hl 2 rfl) ?_
  refine lv_iconst (v := 0) hx hb d_Mg_understand_8 (by decide) ?_
  refine lv_iconst (v := 2) hx hb d_Mg_understand_9 (by decide) ?_
  obtain ⟨o3, ho4, h⟩ := bd_s h
  refine cl_i (W1 := fun (_ : Unit) => w_Mg g a0 s0 ++ (w_Tr g a1 s1 ++ (rest))) (va_runV (As := [.int (0 : Int32), .int (2 : Int32)]) (rest := []) ⟨hx, hb, hml, hown, ht⟩ (c_Tr_find (l := l) (D := D) (A := A) (g := g) (rest := w_Mg g a0 s0 ++ (rest)) (a0 := a1) ho4) (cwV 2 ht (gd_V m_503 m_504 m_505 m_9 m_506) rfl rfl rfl (by decide +kernel) ⟨(Nat.le_of_ble_eq_true rfl), (Nat.le_of_ble_eq_true rfl)⟩) (prV (ci := 7) (q0 := 0) hKK hI (mv_1) rfl rfl rfl) rfl rfl hl.1 rfl (lv_room (Nat.le_of_ble_eq_true rfl)) d_Mg_understand_10 ⟨(Nat.le_of_ble_eq_true rfl), (Nat.le_of_ble_eq_true rfl)⟩) hS (fun _ => ((mv_1)).symm) (fun _ H locs hI hS => ?_)
  have hI : Iw D A (w_Mg g a0 s0 ++ (w_Tr g a1 s1 ++ (rest))) H := hI
  refine lv_istore_n hx hb d_Mg_understand_13 rfl hl (Nat.le_of_ble_eq_true rfl) rfl (fun ls hl => ?_)
  have hl : lv_has ls 6 [(3, .int o3), (2, .int o1), (0, .ref (a0 0)), (1, .ref (a1 0))] := hl
  refine lv_aload_n hx hb d_Mg_understand_14 rfl (lv_at hl 3 rfl) ?_
  refine lv_iconst (v := 0) hx hb d_Mg_understand_15 (by decide) ?_
  refine lv_iconst (v := 3) hx hb d_Mg_understand_16 (by decide) ?_
  obtain ⟨o5, ho6, h⟩ := bd_s h
  refine cl_i (W1 := fun (_ : Unit) => w_Mg g a0 s0 ++ (w_Tr g a1 s1 ++ (rest))) (va_runV (As := [.int (0 : Int32), .int (3 : Int32)]) (rest := []) ⟨hx, hb, hml, hown, ht⟩ (c_Tr_find (l := l) (D := D) (A := A) (g := g) (rest := w_Mg g a0 s0 ++ (rest)) (a0 := a1) ho6) (cwV 2 ht (gd_V m_503 m_504 m_505 m_9 m_506) rfl rfl rfl (by decide +kernel) ⟨(Nat.le_of_ble_eq_true rfl), (Nat.le_of_ble_eq_true rfl)⟩) (prV (ci := 7) (q0 := 0) hKK hI (mv_1) rfl rfl rfl) rfl rfl hl.1 rfl (lv_room (Nat.le_of_ble_eq_true rfl)) d_Mg_understand_17 ⟨(Nat.le_of_ble_eq_true rfl), (Nat.le_of_ble_eq_true rfl)⟩) hS (fun _ => ((mv_1)).symm) (fun _ H locs hI hS => ?_)
  have hI : Iw D A (w_Mg g a0 s0 ++ (w_Tr g a1 s1 ++ (rest))) H := hI
  refine lv_istore hx hb d_Mg_understand_20 hl (Nat.le_of_ble_eq_true rfl) rfl (fun ls hl => ?_)
  have hl : lv_has ls 6 [(4, .int o5), (3, .int o3), (2, .int o1), (0, .ref (a0 0)), (1, .ref (a1 0))] := hl
  refine lv_iload_n hx hb d_Mg_understand_22 rfl (lv_at hl 2 rfl) ?_
  refine lv_iconst (v := (-1)) hx hb d_Mg_understand_23 (by decide) ?_
  refine lv_icmp_eq (tgt := 38) hx hb d_Mg_understand_24 (by decide) (fun hc => ?_) (fun hc => ?_)
  · have h := it_t h hc
    exact t_Mg_understand_38 X (lv_sub hl [] rfl) hI hS h
  · have h := it_f h hc
    exact t_Mg_understand_27 X (lv_sub hl [3, 4, 2, 1, 0] rfl) hI hS h
set_option maxRecDepth 100000 in
set_option maxHeartbeats 4000000 in
theorem c_Mg_understand {l : Launch} {D : va_G} {A : Nat → Prop} {g : Nat → ClassId} {rest : va_W} {a0 : Nat → Nat} {a1 : Nat → Nat} {s0 : S_Mg} {s1 : S_Tr} {out : Int32 × S_Mg} (h : F_Mg_understand s0 s1 = some out) : Met l y_Mg_understand ws_Mg_understand { frames := 2, cells := 0, slots := 0, locals := 46 } (PcW D A g [.ref (a0 0), .ref (a1 0)] (w_Mg g a0 s0 ++ (w_Tr g a1 s1 ++ (rest)))) (QcI D A g out.1 (fun (_ : Unit) => w_Mg g a0 out.2 ++ (w_Tr g a1 s1 ++ (rest)))) 0 0 A := by
  refine Met.ofW (cc := prog_5_method_12_code) (maxL := 6) (ret := (some .boolean)) (by decide) rfl ?_
  intro p e s m args below meth c s₁ B hml hv
  obtain ⟨rfl, hI, hK⟩ := hv
  have hl := lv_entry [.ref (a0 0), .ref (a1 0)] (n := 6) (Nat.le_of_ble_eq_true rfl)
  rw [lg_entry_eq]
  generalize (lg_sl [.ref (a0 0), .ref (a1 0)] ++ List.replicate (6 - (lg_sl [.ref (a0 0), .ref (a1 0)]).length) Slot.unset).toArray = ls at hl ⊢
  have hl : lv_has ls 6 [(0, .ref (a0 0)), (1, .ref (a1 0))] := hl
  exact t_Mg_understand_0 ⟨B.exec, B.bytes, hml, findClass_of_methodNamed B.named, atoms_spec (ws := ws_Mg_understand) B.pre, B.returns, B.notSynchronized, hK⟩ (lv_sub hl [0, 1] rfl) hI va_S.rf h
def ws_Mr_textFits : List Cond := .code y_Mr_textFits prog_4_method_4_code 11 (some .boolean) :: TB
def B_Mr_textFits_225 (s1 : S_Tr) (s2 : S_Tr) (s0 : S_Mr) (x6 : Int32) : Option (Int32 × S_Mr) :=
  (if (x6 < 0 ∨ 17 ≤ x6.toNatClampNeg) then none else (if ((Mr_reach s0) x6.toNatClampNeg) = 0 ∨ ((Mr_reach s0) x6.toNatClampNeg) = 1 then some (((Mr_reach s0) x6.toNatClampNeg), s0) else none))
def B_Mr_textFits_219 (k63 : S_Mr × Int32 × Int32 × Int32 × Int32 × Int32 → Option (Int32 × S_Mr)) (s1 : S_Tr) (s2 : S_Tr) (s0 : S_Mr) (x2 : Int32) (x4 : Int32) (x5 : Int32) (x6 : Int32) (x7 : Int32) : Option (Int32 × S_Mr) :=
  (k63 (s0, x2, x4, x5, x6, (x7 + 1)))
def B_Mr_textFits_212 (k63 : S_Mr × Int32 × Int32 × Int32 × Int32 × Int32 → Option (Int32 × S_Mr)) (s1 : S_Tr) (s2 : S_Tr) (s0 : S_Mr) (x2 : Int32) (x4 : Int32) (x5 : Int32) (x6 : Int32) (x7 : Int32) : Option (Int32 × S_Mr) :=
  (if ((0 : Int32) < 0 ∨ 17 ≤ (0 : Int32).toNatClampNeg) then none else (B_Mr_textFits_219 k63 s1 s2 (Mr_set_reach s0 (upd (Mr_reach s0) (0 : Int32).toNatClampNeg (vp_nar .boolean (0 : Int32)))) x2 x4 x5 x6 x7))
def B_Mr_textFits_205 (k63 : S_Mr × Int32 × Int32 × Int32 × Int32 × Int32 → Option (Int32 × S_Mr)) (k143 : S_Mr × Int32 × Int32 × Int32 × Int32 × Int32 × Int32 × Int32 → Option (Int32 × S_Mr)) (s1 : S_Tr) (s2 : S_Tr) (s0 : S_Mr) (x2 : Int32) (x4 : Int32) (x5 : Int32) (x6 : Int32) (x7 : Int32) (x8 : Int32) (x9 : Int32) (y0 : Int32) (y1 : Int32) : Option (Int32 × S_Mr) :=
  (if (y1 < 0 ∨ 17 ≤ y1.toNatClampNeg) then none else (k143 ((Mr_set_reach s0 (upd (Mr_reach s0) y1.toNatClampNeg (vp_nar .boolean y0))), x2, x4, x5, x6, x7, x8, (x9 + (-1)))))
def B_Mr_textFits_204 (k63 : S_Mr × Int32 × Int32 × Int32 × Int32 × Int32 → Option (Int32 × S_Mr)) (k143 : S_Mr × Int32 × Int32 × Int32 × Int32 × Int32 × Int32 × Int32 → Option (Int32 × S_Mr)) (s1 : S_Tr) (s2 : S_Tr) (s0 : S_Mr) (x2 : Int32) (x4 : Int32) (x5 : Int32) (x6 : Int32) (x7 : Int32) (x8 : Int32) (x9 : Int32) (y0 : Int32) : Option (Int32 × S_Mr) :=
  (B_Mr_textFits_205 k63 k143 s1 s2 s0 x2 x4 x5 x6 x7 x8 x9 (0 : Int32) y0)
def B_Mr_textFits_200 (k63 : S_Mr × Int32 × Int32 × Int32 × Int32 × Int32 → Option (Int32 × S_Mr)) (k143 : S_Mr × Int32 × Int32 × Int32 × Int32 × Int32 × Int32 × Int32 → Option (Int32 × S_Mr)) (s1 : S_Tr) (s2 : S_Tr) (s0 : S_Mr) (x2 : Int32) (x4 : Int32) (x5 : Int32) (x6 : Int32) (x7 : Int32) (x8 : Int32) (x9 : Int32) (y0 : Int32) : Option (Int32 × S_Mr) :=
  (B_Mr_textFits_205 k63 k143 s1 s2 s0 x2 x4 x5 x6 x7 x8 x9 (1 : Int32) y0)
def B_Mr_textFits_188 (k63 : S_Mr × Int32 × Int32 × Int32 × Int32 × Int32 → Option (Int32 × S_Mr)) (k143 : S_Mr × Int32 × Int32 × Int32 × Int32 × Int32 × Int32 × Int32 → Option (Int32 × S_Mr)) (s1 : S_Tr) (s2 : S_Tr) (s0 : S_Mr) (x2 : Int32) (x4 : Int32) (x5 : Int32) (x6 : Int32) (x7 : Int32) (x8 : Int32) (x9 : Int32) (y0 : Int32) : Option (Int32 × S_Mr) :=
  (if ((x9 - (1 : Int32)) < 0 ∨ 17 ≤ (x9 - (1 : Int32)).toNatClampNeg) then none else (if ((Mr_reach s0) (x9 - (1 : Int32)).toNatClampNeg) = 0 then (B_Mr_textFits_204 k63 k143 s1 s2 s0 x2 x4 x5 x6 x7 x8 x9 y0) else (B_Mr_textFits_200 k63 k143 s1 s2 s0 x2 x4 x5 x6 x7 x8 x9 y0)))
def B_Mr_textFits_175 (k63 : S_Mr × Int32 × Int32 × Int32 × Int32 × Int32 → Option (Int32 × S_Mr)) (k143 : S_Mr × Int32 × Int32 × Int32 × Int32 × Int32 × Int32 × Int32 → Option (Int32 × S_Mr)) (s1 : S_Tr) (s2 : S_Tr) (s0 : S_Mr) (x2 : Int32) (x4 : Int32) (x5 : Int32) (x6 : Int32) (x7 : Int32) (x8 : Int32) (x9 : Int32) (y0 : Int32) : Option (Int32 × S_Mr) :=
  (if y0 = 0 then (B_Mr_textFits_204 k63 k143 s1 s2 s0 x2 x4 x5 x6 x7 x8 x9 x9) else (B_Mr_textFits_188 k63 k143 s1 s2 s0 x2 x4 x5 x6 x7 x8 x9 x9))
def B_Mr_textFits_170 (k63 : S_Mr × Int32 × Int32 × Int32 × Int32 × Int32 → Option (Int32 × S_Mr)) (k143 : S_Mr × Int32 × Int32 × Int32 × Int32 × Int32 × Int32 × Int32 → Option (Int32 × S_Mr)) (s1 : S_Tr) (s2 : S_Tr) (s0 : S_Mr) (x2 : Int32) (x4 : Int32) (x5 : Int32) (x6 : Int32) (x7 : Int32) (x8 : Int32) (x9 : Int32) : Option (Int32 × S_Mr) :=
  (B_Mr_textFits_175 k63 k143 s1 s2 s0 x2 x4 x5 x6 x7 x8 x9 (1 : Int32))
def B_Mr_textFits_174 (k63 : S_Mr × Int32 × Int32 × Int32 × Int32 × Int32 → Option (Int32 × S_Mr)) (k143 : S_Mr × Int32 × Int32 × Int32 × Int32 × Int32 × Int32 × Int32 → Option (Int32 × S_Mr)) (s1 : S_Tr) (s2 : S_Tr) (s0 : S_Mr) (x2 : Int32) (x4 : Int32) (x5 : Int32) (x6 : Int32) (x7 : Int32) (x8 : Int32) (x9 : Int32) : Option (Int32 × S_Mr) :=
  (B_Mr_textFits_175 k63 k143 s1 s2 s0 x2 x4 x5 x6 x7 x8 x9 (0 : Int32))
def B_Mr_textFits_155 (k63 : S_Mr × Int32 × Int32 × Int32 × Int32 × Int32 → Option (Int32 × S_Mr)) (k143 : S_Mr × Int32 × Int32 × Int32 × Int32 × Int32 × Int32 × Int32 → Option (Int32 × S_Mr)) (s1 : S_Tr) (s2 : S_Tr) (s0 : S_Mr) (x2 : Int32) (x4 : Int32) (x5 : Int32) (x6 : Int32) (x7 : Int32) (x8 : Int32) (x9 : Int32) : Option (Int32 × S_Mr) :=
  ((F_Tr_character s2 x4 (x9 - (1 : Int32))).bind fun o1 => (if x8 = o1 then (B_Mr_textFits_170 k63 k143 s1 s2 s0 x2 x4 x5 x6 x7 x8 x9) else (B_Mr_textFits_174 k63 k143 s1 s2 s0 x2 x4 x5 x6 x7 x8 x9)))
def B_Mr_textFits_148 (k63 : S_Mr × Int32 × Int32 × Int32 × Int32 × Int32 → Option (Int32 × S_Mr)) (k143 : S_Mr × Int32 × Int32 × Int32 × Int32 × Int32 × Int32 × Int32 → Option (Int32 × S_Mr)) (s1 : S_Tr) (s2 : S_Tr) (s0 : S_Mr) (x2 : Int32) (x4 : Int32) (x5 : Int32) (x6 : Int32) (x7 : Int32) (x8 : Int32) (x9 : Int32) : Option (Int32 × S_Mr) :=
  (if x8 = (63 : Int32) then (B_Mr_textFits_170 k63 k143 s1 s2 s0 x2 x4 x5 x6 x7 x8 x9) else (B_Mr_textFits_155 k63 k143 s1 s2 s0 x2 x4 x5 x6 x7 x8 x9))
def B_Mr_textFits_143 (k63 : S_Mr × Int32 × Int32 × Int32 × Int32 × Int32 → Option (Int32 × S_Mr)) (k143 : S_Mr × Int32 × Int32 × Int32 × Int32 × Int32 × Int32 × Int32 → Option (Int32 × S_Mr)) (s1 : S_Tr) (s2 : S_Tr) (s0 : S_Mr) (x2 : Int32) (x4 : Int32) (x5 : Int32) (x6 : Int32) (x7 : Int32) (x8 : Int32) (x9 : Int32) : Option (Int32 × S_Mr) :=
  (if x9 ≤ 0 then (B_Mr_textFits_212 k63 s1 s2 s0 x2 x4 x5 x6 x7) else (B_Mr_textFits_148 k63 k143 s1 s2 s0 x2 x4 x5 x6 x7 x8 x9))
def L_Mr_textFits_143 (k63 : S_Mr × Int32 × Int32 × Int32 × Int32 × Int32 → Option (Int32 × S_Mr)) (s1 : S_Tr) (s2 : S_Tr) (v : S_Mr × Int32 × Int32 × Int32 × Int32 × Int32 × Int32 × Int32) : Option (Int32 × S_Mr) := lp (fun k143 v => B_Mr_textFits_143 k63 k143 s1 s2 v.1 v.2.1 v.2.2.1 v.2.2.2.1 v.2.2.2.2.1 v.2.2.2.2.2.1 v.2.2.2.2.2.2.1 v.2.2.2.2.2.2.2) FU v
def B_Mr_textFits_139 (k63 : S_Mr × Int32 × Int32 × Int32 × Int32 × Int32 → Option (Int32 × S_Mr)) (s1 : S_Tr) (s2 : S_Tr) (s0 : S_Mr) (x2 : Int32) (x4 : Int32) (x5 : Int32) (x6 : Int32) (x7 : Int32) (x8 : Int32) : Option (Int32 × S_Mr) :=
  (L_Mr_textFits_143 k63 s1 s2 (s0, x2, x4, x5, x6, x7, x8, x6))
def B_Mr_textFits_136 (k63 : S_Mr × Int32 × Int32 × Int32 × Int32 × Int32 → Option (Int32 × S_Mr)) (s1 : S_Tr) (s2 : S_Tr) (s0 : S_Mr) (x2 : Int32) (x4 : Int32) (x5 : Int32) (x6 : Int32) (x7 : Int32) : Option (Int32 × S_Mr) :=
  (B_Mr_textFits_219 k63 s1 s2 s0 x2 x4 x5 x6 x7)
def B_Mr_textFits_129 (k63 : S_Mr × Int32 × Int32 × Int32 × Int32 × Int32 → Option (Int32 × S_Mr)) (k89 : S_Mr × Int32 × Int32 × Int32 × Int32 × Int32 × Int32 → Option (Int32 × S_Mr)) (s1 : S_Tr) (s2 : S_Tr) (s0 : S_Mr) (x2 : Int32) (x4 : Int32) (x5 : Int32) (x6 : Int32) (x7 : Int32) (x9 : Int32) (y0 : Int32) (y1 : Int32) : Option (Int32 × S_Mr) :=
  (if (y1 < 0 ∨ 17 ≤ y1.toNatClampNeg) then none else (k89 ((Mr_set_reach s0 (upd (Mr_reach s0) y1.toNatClampNeg (vp_nar .boolean y0))), x2, x4, x5, x6, x7, (x9 + 1))))
def B_Mr_textFits_124 (k63 : S_Mr × Int32 × Int32 × Int32 × Int32 × Int32 → Option (Int32 × S_Mr)) (k89 : S_Mr × Int32 × Int32 × Int32 × Int32 × Int32 × Int32 → Option (Int32 × S_Mr)) (s1 : S_Tr) (s2 : S_Tr) (s0 : S_Mr) (x2 : Int32) (x4 : Int32) (x5 : Int32) (x6 : Int32) (x7 : Int32) (x9 : Int32) (y0 : Int32) : Option (Int32 × S_Mr) :=
  (B_Mr_textFits_129 k63 k89 s1 s2 s0 x2 x4 x5 x6 x7 x9 (1 : Int32) y0)
def B_Mr_textFits_128 (k63 : S_Mr × Int32 × Int32 × Int32 × Int32 × Int32 → Option (Int32 × S_Mr)) (k89 : S_Mr × Int32 × Int32 × Int32 × Int32 × Int32 × Int32 → Option (Int32 × S_Mr)) (s1 : S_Tr) (s2 : S_Tr) (s0 : S_Mr) (x2 : Int32) (x4 : Int32) (x5 : Int32) (x6 : Int32) (x7 : Int32) (x9 : Int32) (y0 : Int32) : Option (Int32 × S_Mr) :=
  (B_Mr_textFits_129 k63 k89 s1 s2 s0 x2 x4 x5 x6 x7 x9 (0 : Int32) y0)
def B_Mr_textFits_112 (k63 : S_Mr × Int32 × Int32 × Int32 × Int32 × Int32 → Option (Int32 × S_Mr)) (k89 : S_Mr × Int32 × Int32 × Int32 × Int32 × Int32 × Int32 → Option (Int32 × S_Mr)) (s1 : S_Tr) (s2 : S_Tr) (s0 : S_Mr) (x2 : Int32) (x4 : Int32) (x5 : Int32) (x6 : Int32) (x7 : Int32) (x9 : Int32) (y0 : Int32) : Option (Int32 × S_Mr) :=
  (if ((x9 - (1 : Int32)) < 0 ∨ 17 ≤ (x9 - (1 : Int32)).toNatClampNeg) then none else (if ((Mr_reach s0) (x9 - (1 : Int32)).toNatClampNeg) = 0 then (B_Mr_textFits_128 k63 k89 s1 s2 s0 x2 x4 x5 x6 x7 x9 y0) else (B_Mr_textFits_124 k63 k89 s1 s2 s0 x2 x4 x5 x6 x7 x9 y0)))
def B_Mr_textFits_96 (k63 : S_Mr × Int32 × Int32 × Int32 × Int32 × Int32 → Option (Int32 × S_Mr)) (k89 : S_Mr × Int32 × Int32 × Int32 × Int32 × Int32 × Int32 → Option (Int32 × S_Mr)) (s1 : S_Tr) (s2 : S_Tr) (s0 : S_Mr) (x2 : Int32) (x4 : Int32) (x5 : Int32) (x6 : Int32) (x7 : Int32) (x9 : Int32) : Option (Int32 × S_Mr) :=
  (if (x9 < 0 ∨ 17 ≤ x9.toNatClampNeg) then none else (if ((Mr_reach s0) x9.toNatClampNeg) = 0 then (B_Mr_textFits_112 k63 k89 s1 s2 s0 x2 x4 x5 x6 x7 x9 x9) else (B_Mr_textFits_124 k63 k89 s1 s2 s0 x2 x4 x5 x6 x7 x9 x9)))
def B_Mr_textFits_89 (k63 : S_Mr × Int32 × Int32 × Int32 × Int32 × Int32 → Option (Int32 × S_Mr)) (k89 : S_Mr × Int32 × Int32 × Int32 × Int32 × Int32 × Int32 → Option (Int32 × S_Mr)) (s1 : S_Tr) (s2 : S_Tr) (s0 : S_Mr) (x2 : Int32) (x4 : Int32) (x5 : Int32) (x6 : Int32) (x7 : Int32) (x9 : Int32) : Option (Int32 × S_Mr) :=
  (if x6 < x9 then (B_Mr_textFits_136 k63 s1 s2 s0 x2 x4 x5 x6 x7) else (B_Mr_textFits_96 k63 k89 s1 s2 s0 x2 x4 x5 x6 x7 x9))
def L_Mr_textFits_89 (k63 : S_Mr × Int32 × Int32 × Int32 × Int32 × Int32 → Option (Int32 × S_Mr)) (s1 : S_Tr) (s2 : S_Tr) (v : S_Mr × Int32 × Int32 × Int32 × Int32 × Int32 × Int32) : Option (Int32 × S_Mr) := lp (fun k89 v => B_Mr_textFits_89 k63 k89 s1 s2 v.1 v.2.1 v.2.2.1 v.2.2.2.1 v.2.2.2.2.1 v.2.2.2.2.2.1 v.2.2.2.2.2.2) FU v
def B_Mr_textFits_86 (k63 : S_Mr × Int32 × Int32 × Int32 × Int32 × Int32 → Option (Int32 × S_Mr)) (s1 : S_Tr) (s2 : S_Tr) (s0 : S_Mr) (x2 : Int32) (x4 : Int32) (x5 : Int32) (x6 : Int32) (x7 : Int32) : Option (Int32 × S_Mr) :=
  (L_Mr_textFits_89 k63 s1 s2 (s0, x2, x4, x5, x6, x7, (1 : Int32)))
def B_Mr_textFits_70 (k63 : S_Mr × Int32 × Int32 × Int32 × Int32 × Int32 → Option (Int32 × S_Mr)) (s1 : S_Tr) (s2 : S_Tr) (s0 : S_Mr) (x2 : Int32) (x4 : Int32) (x5 : Int32) (x6 : Int32) (x7 : Int32) : Option (Int32 × S_Mr) :=
  ((F_Tr_character s1 x2 x7).bind fun o1 => (if o1 = (42 : Int32) then (B_Mr_textFits_86 k63 s1 s2 s0 x2 x4 x5 x6 x7) else (B_Mr_textFits_139 k63 s1 s2 s0 x2 x4 x5 x6 x7 o1)))
def B_Mr_textFits_63 (k63 : S_Mr × Int32 × Int32 × Int32 × Int32 × Int32 → Option (Int32 × S_Mr)) (s1 : S_Tr) (s2 : S_Tr) (s0 : S_Mr) (x2 : Int32) (x4 : Int32) (x5 : Int32) (x6 : Int32) (x7 : Int32) : Option (Int32 × S_Mr) :=
  (if x5 ≤ x7 then (B_Mr_textFits_225 s1 s2 s0 x6) else (B_Mr_textFits_70 k63 s1 s2 s0 x2 x4 x5 x6 x7))
def L_Mr_textFits_63 (s1 : S_Tr) (s2 : S_Tr) (v : S_Mr × Int32 × Int32 × Int32 × Int32 × Int32) : Option (Int32 × S_Mr) := lp (fun k63 v => B_Mr_textFits_63  k63 s1 s2 v.1 v.2.1 v.2.2.1 v.2.2.2.1 v.2.2.2.2.1 v.2.2.2.2.2) FU v
def B_Mr_textFits_60 (s1 : S_Tr) (s2 : S_Tr) (s0 : S_Mr) (x2 : Int32) (x4 : Int32) (x5 : Int32) (x6 : Int32) : Option (Int32 × S_Mr) :=
  (L_Mr_textFits_63 s1 s2 (s0, x2, x4, x5, x6, (0 : Int32)))
def B_Mr_textFits_53 (k30 : S_Mr × Int32 × Int32 × Int32 × Int32 × Int32 → Option (Int32 × S_Mr)) (s1 : S_Tr) (s2 : S_Tr) (s0 : S_Mr) (x2 : Int32) (x4 : Int32) (x5 : Int32) (x6 : Int32) (x7 : Int32) (y0 : Int32) (y1 : Int32) : Option (Int32 × S_Mr) :=
  (if (y1 < 0 ∨ 17 ≤ y1.toNatClampNeg) then none else (k30 ((Mr_set_reach s0 (upd (Mr_reach s0) y1.toNatClampNeg (vp_nar .boolean y0))), x2, x4, x5, x6, (x7 + 1))))
def B_Mr_textFits_52 (k30 : S_Mr × Int32 × Int32 × Int32 × Int32 × Int32 → Option (Int32 × S_Mr)) (s1 : S_Tr) (s2 : S_Tr) (s0 : S_Mr) (x2 : Int32) (x4 : Int32) (x5 : Int32) (x6 : Int32) (x7 : Int32) (y0 : Int32) : Option (Int32 × S_Mr) :=
  (B_Mr_textFits_53 k30 s1 s2 s0 x2 x4 x5 x6 x7 (0 : Int32) y0)
def B_Mr_textFits_48 (k30 : S_Mr × Int32 × Int32 × Int32 × Int32 × Int32 → Option (Int32 × S_Mr)) (s1 : S_Tr) (s2 : S_Tr) (s0 : S_Mr) (x2 : Int32) (x4 : Int32) (x5 : Int32) (x6 : Int32) (x7 : Int32) (y0 : Int32) : Option (Int32 × S_Mr) :=
  (B_Mr_textFits_53 k30 s1 s2 s0 x2 x4 x5 x6 x7 (1 : Int32) y0)
def B_Mr_textFits_37 (k30 : S_Mr × Int32 × Int32 × Int32 × Int32 × Int32 → Option (Int32 × S_Mr)) (s1 : S_Tr) (s2 : S_Tr) (s0 : S_Mr) (x2 : Int32) (x4 : Int32) (x5 : Int32) (x6 : Int32) (x7 : Int32) : Option (Int32 × S_Mr) :=
  (if x7 = 0 then (B_Mr_textFits_48 k30 s1 s2 s0 x2 x4 x5 x6 x7 x7) else (B_Mr_textFits_52 k30 s1 s2 s0 x2 x4 x5 x6 x7 x7))
def B_Mr_textFits_30 (k30 : S_Mr × Int32 × Int32 × Int32 × Int32 × Int32 → Option (Int32 × S_Mr)) (s1 : S_Tr) (s2 : S_Tr) (s0 : S_Mr) (x2 : Int32) (x4 : Int32) (x5 : Int32) (x6 : Int32) (x7 : Int32) : Option (Int32 × S_Mr) :=
  (if x6 < x7 then (B_Mr_textFits_60 s1 s2 s0 x2 x4 x5 x6) else (B_Mr_textFits_37 k30 s1 s2 s0 x2 x4 x5 x6 x7))
def L_Mr_textFits_30 (s1 : S_Tr) (s2 : S_Tr) (v : S_Mr × Int32 × Int32 × Int32 × Int32 × Int32) : Option (Int32 × S_Mr) := lp (fun k30 v => B_Mr_textFits_30  k30 s1 s2 v.1 v.2.1 v.2.2.1 v.2.2.2.1 v.2.2.2.2.1 v.2.2.2.2.2) FU v
def B_Mr_textFits_27 (s1 : S_Tr) (s2 : S_Tr) (s0 : S_Mr) (x2 : Int32) (x4 : Int32) (x5 : Int32) (x6 : Int32) : Option (Int32 × S_Mr) :=
  (L_Mr_textFits_30 s1 s2 (s0, x2, x4, x5, x6, (0 : Int32)))
def B_Mr_textFits_25 (s1 : S_Tr) (s2 : S_Tr) (s0 : S_Mr) : Option (Int32 × S_Mr) :=
  some ((1 : Int32), s0)
def B_Mr_textFits_0 (s1 : S_Tr) (s2 : S_Tr) (s0 : S_Mr) (x2 : Int32) (x4 : Int32) : Option (Int32 × S_Mr) :=
  ((F_Tr_textLength s1 x2).bind fun o1 => ((F_Tr_textLength s2 x4).bind fun o3 => (if o1 = 0 then (B_Mr_textFits_25 s1 s2 s0) else (B_Mr_textFits_27 s1 s2 s0 x2 x4 o1 (if o3 < (16 : Int32) then o3 else (16 : Int32))))))
def F_Mr_textFits (s0 : S_Mr) (s1 : S_Tr) (s2 : S_Tr) (x2 : Int32) (x4 : Int32) : Option (Int32 × S_Mr) := B_Mr_textFits_0 s1 s2 s0 x2 x4
set_option maxRecDepth 100000 in
set_option maxHeartbeats 4000000 in
theorem t_Mr_textFits_225 {p : Program} {l : Launch} {e : Env} {s : State} {m : MethodId} {args : Array Value} {below : List Frame} {meth : Method} {c : Code} {D : va_G} {A : Nat → Prop} {g : Nat → ClassId} {rest : va_W} {a0 : Nat → Nat} {a1 : Nat → Nat} {a2 : Nat → Nat} {ls : Array Slot} {H : Heap} {locs : List Loc} {s1 : S_Tr} {s2 : S_Tr} {s0 : S_Mr} {x6 : Int32} {out : Int32 × S_Mr} (X : Cx p s m args meth c prog_4_method_4_code 11 ws_Mr_textFits R_Mr (some .boolean) D g) (hl : lv_has ls 11 [(0, .ref (a0 0)), (6, .int x6)]) (hI : Iw D A (w_Mr g a0 s0 ++ (w_Tr g a1 s1 ++ (w_Tr g a2 s2 ++ (rest)))) H) (hS : va_S A s.heap H locs) (h : B_Mr_textFits_225  s1 s2 s0 x6 = some out) : W p l e (headSpec ws_Mr_textFits { frames := 1, cells := 0, slots := 0, locals := 23 }).room s m args below meth c H locs 0 0 (MQ below (QcI D A g out.1 (fun (_ : Unit) => w_Mr g a0 out.2 ++ (w_Tr g a1 s1 ++ (w_Tr g a2 s2 ++ (rest))))) args s 0 0 A) (F0 m 225 ls []) := by
  have X1 := X
  obtain ⟨hx, hb, hml, hown, hts, hr, hlocks, hKK⟩ := X1
  have ht : ∀ w ∈ TB, w.before args s = true := fun w h => hts w (List.mem_cons_of_mem _ h)
  have hK := hKK.1
  unfold B_Mr_textFits_225 at h
  refine lv_aload_n hx hb d_Mr_textFits_225 rfl (lv_at hl 0 rfl) ?_
  refine va_get (D := D) (ci := 2) (v := .ref (a0 1)) (C := R_Mr) (T := T_Mr) (N := 1) hx hb ht in_Mr hown hK hI.1 0 rfl rfl 0 (by decide) (ht _ m_199) (fun _ h9 => h9) rfl d_Mr_textFits_226 ?_
  refine lv_iload hx hb d_Mr_textFits_229 (lv_at hl 1 rfl) ?_
  by_cases hc1 : (x6 < 0 ∨ 17 ≤ x6.toNatClampNeg)
  · exact no_s (it_t h hc1)
  have h := it_f h hc1
  refine va_zald hx hb hK hI.1 1 1 rfl rfl hc1 d_Mr_textFits_231 ?_
  have hc2 : ((Mr_reach s0) x6.toNatClampNeg) = 0 ∨ ((Mr_reach s0) x6.toNatClampNeg) = 1 := by
    by_cases z : ((Mr_reach s0) x6.toNatClampNeg) = 0 ∨ ((Mr_reach s0) x6.toNatClampNeg) = 1
    · exact z
    · exact no_s (it_f h z)
  have h := it_t h hc2
  have h9 := Option.some.inj h
  subst h9
  exact W.zret (v := ((Mr_reach s0) x6.toNatClampNeg)) hx hb hr (by rcases hc2 with z | z <;> rw [z] <;> rfl) (fun t ht hW => ⟨⟨_, (), rfl, rfl, ⟨by rw [ht]; exact hI, hKK.moved hW⟩⟩, hS.F ht⟩) hS.2.2 d_Mr_textFits_232
set_option maxRecDepth 100000 in
set_option maxHeartbeats 4000000 in
theorem t_Mr_textFits_219 {p : Program} {l : Launch} {e : Env} {s : State} {m : MethodId} {args : Array Value} {below : List Frame} {meth : Method} {c : Code} {D : va_G} {A : Nat → Prop} {g : Nat → ClassId} {rest : va_W} {a0 : Nat → Nat} {a1 : Nat → Nat} {a2 : Nat → Nat} {ls : Array Slot} {H : Heap} {locs : List Loc} {k63 : S_Mr × Int32 × Int32 × Int32 × Int32 × Int32 → Option (Int32 × S_Mr)} {s1 : S_Tr} {s2 : S_Tr} {s0 : S_Mr} {x2 : Int32} {x4 : Int32} {x5 : Int32} {x6 : Int32} {x7 : Int32} {out : Int32 × S_Mr} (X : Cx p s m args meth c prog_4_method_4_code 11 ws_Mr_textFits R_Mr (some .boolean) D g) (hk63 : ∀ (v : S_Mr × Int32 × Int32 × Int32 × Int32 × Int32) (ls : Array Slot) (H : Heap) (locs : List Loc), lv_has ls 11 [(0, .ref (a0 0)), (1, .ref (a1 0)), (2, .int v.2.1), (3, .ref (a2 0)), (4, .int v.2.2.1), (5, .int v.2.2.2.1), (6, .int v.2.2.2.2.1), (7, .int v.2.2.2.2.2)] → Iw D A (w_Mr g a0 v.1 ++ (w_Tr g a1 s1 ++ (w_Tr g a2 s2 ++ (rest)))) H → va_S A s.heap H locs → k63 v = some out → W p l e (headSpec ws_Mr_textFits { frames := 1, cells := 0, slots := 0, locals := 23 }).room s m args below meth c H locs 0 0 (MQ below (QcI D A g out.1 (fun (_ : Unit) => w_Mr g a0 out.2 ++ (w_Tr g a1 s1 ++ (w_Tr g a2 s2 ++ (rest))))) args s 0 0 A) (F0 m 63 ls [])) (hl : lv_has ls 11 [(0, .ref (a0 0)), (1, .ref (a1 0)), (2, .int x2), (3, .ref (a2 0)), (4, .int x4), (5, .int x5), (6, .int x6), (7, .int x7)]) (hI : Iw D A (w_Mr g a0 s0 ++ (w_Tr g a1 s1 ++ (w_Tr g a2 s2 ++ (rest)))) H) (hS : va_S A s.heap H locs) (h : B_Mr_textFits_219 k63 s1 s2 s0 x2 x4 x5 x6 x7 = some out) : W p l e (headSpec ws_Mr_textFits { frames := 1, cells := 0, slots := 0, locals := 23 }).room s m args below meth c H locs 0 0 (MQ below (QcI D A g out.1 (fun (_ : Unit) => w_Mr g a0 out.2 ++ (w_Tr g a1 s1 ++ (w_Tr g a2 s2 ++ (rest))))) args s 0 0 A) (F0 m 219 ls []) := by
  have X1 := X
  obtain ⟨hx, hb, hml, hown, hts, hr, hlocks, hKK⟩ := X1
  have ht : ∀ w ∈ TB, w.before args s = true := fun w h => hts w (List.mem_cons_of_mem _ h)
  have hK := hKK.1
  unfold B_Mr_textFits_219 at h
  refine lv_iinc (k := 7) (v := (x7 + 1)) hx hb d_Mr_textFits_219 hl rfl (congrArg (fun z => x7 + z) (by decide)) (Nat.le_of_ble_eq_true rfl) rfl (fun ls hl => ?_)
  have hl : lv_has ls 11 [(7, .int (x7 + 1)), (0, .ref (a0 0)), (1, .ref (a1 0)), (2, .int x2), (3, .ref (a2 0)), (4, .int x4), (5, .int x5), (6, .int x6)] := hl
  refine lv_goto (tgt := 63) hx hb d_Mr_textFits_222 (by decide) ?_
  exact hk63 (s0, x2, x4, x5, x6, (x7 + 1)) _ _ _ (lv_sub hl [1, 2, 3, 4, 5, 6, 7, 0] rfl) hI hS h
set_option maxRecDepth 100000 in
set_option maxHeartbeats 4000000 in
theorem t_Mr_textFits_212 {p : Program} {l : Launch} {e : Env} {s : State} {m : MethodId} {args : Array Value} {below : List Frame} {meth : Method} {c : Code} {D : va_G} {A : Nat → Prop} {g : Nat → ClassId} {rest : va_W} {a0 : Nat → Nat} {a1 : Nat → Nat} {a2 : Nat → Nat} {ls : Array Slot} {H : Heap} {locs : List Loc} {k63 : S_Mr × Int32 × Int32 × Int32 × Int32 × Int32 → Option (Int32 × S_Mr)} {s1 : S_Tr} {s2 : S_Tr} {s0 : S_Mr} {x2 : Int32} {x4 : Int32} {x5 : Int32} {x6 : Int32} {x7 : Int32} {out : Int32 × S_Mr} (X : Cx p s m args meth c prog_4_method_4_code 11 ws_Mr_textFits R_Mr (some .boolean) D g) (hk63 : ∀ (v : S_Mr × Int32 × Int32 × Int32 × Int32 × Int32) (ls : Array Slot) (H : Heap) (locs : List Loc), lv_has ls 11 [(0, .ref (a0 0)), (1, .ref (a1 0)), (2, .int v.2.1), (3, .ref (a2 0)), (4, .int v.2.2.1), (5, .int v.2.2.2.1), (6, .int v.2.2.2.2.1), (7, .int v.2.2.2.2.2)] → Iw D A (w_Mr g a0 v.1 ++ (w_Tr g a1 s1 ++ (w_Tr g a2 s2 ++ (rest)))) H → va_S A s.heap H locs → k63 v = some out → W p l e (headSpec ws_Mr_textFits { frames := 1, cells := 0, slots := 0, locals := 23 }).room s m args below meth c H locs 0 0 (MQ below (QcI D A g out.1 (fun (_ : Unit) => w_Mr g a0 out.2 ++ (w_Tr g a1 s1 ++ (w_Tr g a2 s2 ++ (rest))))) args s 0 0 A) (F0 m 63 ls [])) (hl : lv_has ls 11 [(0, .ref (a0 0)), (1, .ref (a1 0)), (2, .int x2), (3, .ref (a2 0)), (4, .int x4), (5, .int x5), (6, .int x6), (7, .int x7)]) (hI : Iw D A (w_Mr g a0 s0 ++ (w_Tr g a1 s1 ++ (w_Tr g a2 s2 ++ (rest)))) H) (hS : va_S A s.heap H locs) (h : B_Mr_textFits_212 k63 s1 s2 s0 x2 x4 x5 x6 x7 = some out) : W p l e (headSpec ws_Mr_textFits { frames := 1, cells := 0, slots := 0, locals := 23 }).room s m args below meth c H locs 0 0 (MQ below (QcI D A g out.1 (fun (_ : Unit) => w_Mr g a0 out.2 ++ (w_Tr g a1 s1 ++ (w_Tr g a2 s2 ++ (rest))))) args s 0 0 A) (F0 m 212 ls []) := by
  have X1 := X
  obtain ⟨hx, hb, hml, hown, hts, hr, hlocks, hKK⟩ := X1
  have ht : ∀ w ∈ TB, w.before args s = true := fun w h => hts w (List.mem_cons_of_mem _ h)
  have hK := hKK.1
  unfold B_Mr_textFits_212 at h
  refine lv_aload_n hx hb d_Mr_textFits_212 rfl (lv_at hl 0 rfl) ?_
  refine va_get (D := D) (ci := 2) (v := .ref (a0 1)) (C := R_Mr) (T := T_Mr) (N := 1) hx hb ht in_Mr hown hK hI.1 0 rfl rfl 0 (by decide) (ht _ m_199) (fun _ h9 => h9) rfl d_Mr_textFits_213 ?_
  refine lv_iconst (v := 0) hx hb d_Mr_textFits_216 (by decide) ?_
  refine lv_iconst (v := 0) hx hb d_Mr_textFits_217 (by decide) ?_
  by_cases hc1 : ((0 : Int32) < 0 ∨ 17 ≤ (0 : Int32).toNatClampNeg)
  · exact no_s (it_t h hc1)
  have h := it_f h hc1
  refine va_zast hx hb hK hI.1 hI.2 hS 1 1 rfl rfl hc1 d_Mr_textFits_218 (fun H locs hP hD hS => ?_)
  have hI : Iw D A (w_Mr g a0 (Mr_set_reach s0 (upd (Mr_reach s0) (0 : Int32).toNatClampNeg (vp_nar .boolean (0 : Int32)))) ++ (w_Tr g a1 s1 ++ (w_Tr g a2 s2 ++ (rest)))) H := ⟨hP, hD⟩
  exact t_Mr_textFits_219 X hk63 (lv_sub hl [0, 1, 2, 3, 4, 5, 6, 7] rfl) hI hS h
set_option maxRecDepth 100000 in
set_option maxHeartbeats 4000000 in
theorem t_Mr_textFits_205 {p : Program} {l : Launch} {e : Env} {s : State} {m : MethodId} {args : Array Value} {below : List Frame} {meth : Method} {c : Code} {D : va_G} {A : Nat → Prop} {g : Nat → ClassId} {rest : va_W} {a0 : Nat → Nat} {a1 : Nat → Nat} {a2 : Nat → Nat} {ls : Array Slot} {H : Heap} {locs : List Loc} {k63 : S_Mr × Int32 × Int32 × Int32 × Int32 × Int32 → Option (Int32 × S_Mr)} {k143 : S_Mr × Int32 × Int32 × Int32 × Int32 × Int32 × Int32 × Int32 → Option (Int32 × S_Mr)} {s1 : S_Tr} {s2 : S_Tr} {s0 : S_Mr} {x2 : Int32} {x4 : Int32} {x5 : Int32} {x6 : Int32} {x7 : Int32} {x8 : Int32} {x9 : Int32} {y0 : Int32} {y1 : Int32} {out : Int32 × S_Mr} (X : Cx p s m args meth c prog_4_method_4_code 11 ws_Mr_textFits R_Mr (some .boolean) D g) (hk63 : ∀ (v : S_Mr × Int32 × Int32 × Int32 × Int32 × Int32) (ls : Array Slot) (H : Heap) (locs : List Loc), lv_has ls 11 [(0, .ref (a0 0)), (1, .ref (a1 0)), (2, .int v.2.1), (3, .ref (a2 0)), (4, .int v.2.2.1), (5, .int v.2.2.2.1), (6, .int v.2.2.2.2.1), (7, .int v.2.2.2.2.2)] → Iw D A (w_Mr g a0 v.1 ++ (w_Tr g a1 s1 ++ (w_Tr g a2 s2 ++ (rest)))) H → va_S A s.heap H locs → k63 v = some out → W p l e (headSpec ws_Mr_textFits { frames := 1, cells := 0, slots := 0, locals := 23 }).room s m args below meth c H locs 0 0 (MQ below (QcI D A g out.1 (fun (_ : Unit) => w_Mr g a0 out.2 ++ (w_Tr g a1 s1 ++ (w_Tr g a2 s2 ++ (rest))))) args s 0 0 A) (F0 m 63 ls [])) (hk143 : ∀ (v : S_Mr × Int32 × Int32 × Int32 × Int32 × Int32 × Int32 × Int32) (ls : Array Slot) (H : Heap) (locs : List Loc), lv_has ls 11 [(0, .ref (a0 0)), (1, .ref (a1 0)), (2, .int v.2.1), (3, .ref (a2 0)), (4, .int v.2.2.1), (5, .int v.2.2.2.1), (6, .int v.2.2.2.2.1), (7, .int v.2.2.2.2.2.1), (8, .int v.2.2.2.2.2.2.1), (9, .int v.2.2.2.2.2.2.2)] → Iw D A (w_Mr g a0 v.1 ++ (w_Tr g a1 s1 ++ (w_Tr g a2 s2 ++ (rest)))) H → va_S A s.heap H locs → k143 v = some out → W p l e (headSpec ws_Mr_textFits { frames := 1, cells := 0, slots := 0, locals := 23 }).room s m args below meth c H locs 0 0 (MQ below (QcI D A g out.1 (fun (_ : Unit) => w_Mr g a0 out.2 ++ (w_Tr g a1 s1 ++ (w_Tr g a2 s2 ++ (rest))))) args s 0 0 A) (F0 m 143 ls [])) (hl : lv_has ls 11 [(0, .ref (a0 0)), (1, .ref (a1 0)), (2, .int x2), (3, .ref (a2 0)), (4, .int x4), (5, .int x5), (6, .int x6), (7, .int x7), (8, .int x8), (9, .int x9)]) (hI : Iw D A (w_Mr g a0 s0 ++ (w_Tr g a1 s1 ++ (w_Tr g a2 s2 ++ (rest)))) H) (hS : va_S A s.heap H locs) (h : B_Mr_textFits_205 k63 k143 s1 s2 s0 x2 x4 x5 x6 x7 x8 x9 y0 y1 = some out) : W p l e (headSpec ws_Mr_textFits { frames := 1, cells := 0, slots := 0, locals := 23 }).room s m args below meth c H locs 0 0 (MQ below (QcI D A g out.1 (fun (_ : Unit) => w_Mr g a0 out.2 ++ (w_Tr g a1 s1 ++ (w_Tr g a2 s2 ++ (rest))))) args s 0 0 A) (F0 m 205 ls [.int y0, .int y1, .ref (a0 1)]) := by
  have X1 := X
  obtain ⟨hx, hb, hml, hown, hts, hr, hlocks, hKK⟩ := X1
  have ht : ∀ w ∈ TB, w.before args s = true := fun w h => hts w (List.mem_cons_of_mem _ h)
  have hK := hKK.1
  unfold B_Mr_textFits_205 at h
  by_cases hc1 : (y1 < 0 ∨ 17 ≤ y1.toNatClampNeg)
  · exact no_s (it_t h hc1)
  have h := it_f h hc1
  refine va_zast hx hb hK hI.1 hI.2 hS 1 1 rfl rfl hc1 d_Mr_textFits_205 (fun H locs hP hD hS => ?_)
  have hI : Iw D A (w_Mr g a0 (Mr_set_reach s0 (upd (Mr_reach s0) y1.toNatClampNeg (vp_nar .boolean y0))) ++ (w_Tr g a1 s1 ++ (w_Tr g a2 s2 ++ (rest)))) H := ⟨hP, hD⟩
  refine lv_iinc (k := 9) (v := (x9 + (-1))) hx hb d_Mr_textFits_206 hl rfl (congrArg (fun z => x9 + z) (by decide)) (Nat.le_of_ble_eq_true rfl) rfl (fun ls hl => ?_)
  have hl : lv_has ls 11 [(9, .int (x9 + (-1))), (0, .ref (a0 0)), (1, .ref (a1 0)), (2, .int x2), (3, .ref (a2 0)), (4, .int x4), (5, .int x5), (6, .int x6), (7, .int x7), (8, .int x8)] := hl
  refine lv_goto (tgt := 143) hx hb d_Mr_textFits_209 (by decide) ?_
  exact hk143 ((Mr_set_reach s0 (upd (Mr_reach s0) y1.toNatClampNeg (vp_nar .boolean y0))), x2, x4, x5, x6, x7, x8, (x9 + (-1))) _ _ _ (lv_sub hl [1, 2, 3, 4, 5, 6, 7, 8, 9, 0] rfl) hI hS h
set_option maxRecDepth 100000 in
set_option maxHeartbeats 4000000 in
theorem t_Mr_textFits_204 {p : Program} {l : Launch} {e : Env} {s : State} {m : MethodId} {args : Array Value} {below : List Frame} {meth : Method} {c : Code} {D : va_G} {A : Nat → Prop} {g : Nat → ClassId} {rest : va_W} {a0 : Nat → Nat} {a1 : Nat → Nat} {a2 : Nat → Nat} {ls : Array Slot} {H : Heap} {locs : List Loc} {k63 : S_Mr × Int32 × Int32 × Int32 × Int32 × Int32 → Option (Int32 × S_Mr)} {k143 : S_Mr × Int32 × Int32 × Int32 × Int32 × Int32 × Int32 × Int32 → Option (Int32 × S_Mr)} {s1 : S_Tr} {s2 : S_Tr} {s0 : S_Mr} {x2 : Int32} {x4 : Int32} {x5 : Int32} {x6 : Int32} {x7 : Int32} {x8 : Int32} {x9 : Int32} {y0 : Int32} {out : Int32 × S_Mr} (X : Cx p s m args meth c prog_4_method_4_code 11 ws_Mr_textFits R_Mr (some .boolean) D g) (hk63 : ∀ (v : S_Mr × Int32 × Int32 × Int32 × Int32 × Int32) (ls : Array Slot) (H : Heap) (locs : List Loc), lv_has ls 11 [(0, .ref (a0 0)), (1, .ref (a1 0)), (2, .int v.2.1), (3, .ref (a2 0)), (4, .int v.2.2.1), (5, .int v.2.2.2.1), (6, .int v.2.2.2.2.1), (7, .int v.2.2.2.2.2)] → Iw D A (w_Mr g a0 v.1 ++ (w_Tr g a1 s1 ++ (w_Tr g a2 s2 ++ (rest)))) H → va_S A s.heap H locs → k63 v = some out → W p l e (headSpec ws_Mr_textFits { frames := 1, cells := 0, slots := 0, locals := 23 }).room s m args below meth c H locs 0 0 (MQ below (QcI D A g out.1 (fun (_ : Unit) => w_Mr g a0 out.2 ++ (w_Tr g a1 s1 ++ (w_Tr g a2 s2 ++ (rest))))) args s 0 0 A) (F0 m 63 ls [])) (hk143 : ∀ (v : S_Mr × Int32 × Int32 × Int32 × Int32 × Int32 × Int32 × Int32) (ls : Array Slot) (H : Heap) (locs : List Loc), lv_has ls 11 [(0, .ref (a0 0)), (1, .ref (a1 0)), (2, .int v.2.1), (3, .ref (a2 0)), (4, .int v.2.2.1), (5, .int v.2.2.2.1), (6, .int v.2.2.2.2.1), (7, .int v.2.2.2.2.2.1), (8, .int v.2.2.2.2.2.2.1), (9, .int v.2.2.2.2.2.2.2)] → Iw D A (w_Mr g a0 v.1 ++ (w_Tr g a1 s1 ++ (w_Tr g a2 s2 ++ (rest)))) H → va_S A s.heap H locs → k143 v = some out → W p l e (headSpec ws_Mr_textFits { frames := 1, cells := 0, slots := 0, locals := 23 }).room s m args below meth c H locs 0 0 (MQ below (QcI D A g out.1 (fun (_ : Unit) => w_Mr g a0 out.2 ++ (w_Tr g a1 s1 ++ (w_Tr g a2 s2 ++ (rest))))) args s 0 0 A) (F0 m 143 ls [])) (hl : lv_has ls 11 [(0, .ref (a0 0)), (1, .ref (a1 0)), (2, .int x2), (3, .ref (a2 0)), (4, .int x4), (5, .int x5), (6, .int x6), (7, .int x7), (8, .int x8), (9, .int x9)]) (hI : Iw D A (w_Mr g a0 s0 ++ (w_Tr g a1 s1 ++ (w_Tr g a2 s2 ++ (rest)))) H) (hS : va_S A s.heap H locs) (h : B_Mr_textFits_204 k63 k143 s1 s2 s0 x2 x4 x5 x6 x7 x8 x9 y0 = some out) : W p l e (headSpec ws_Mr_textFits { frames := 1, cells := 0, slots := 0, locals := 23 }).room s m args below meth c H locs 0 0 (MQ below (QcI D A g out.1 (fun (_ : Unit) => w_Mr g a0 out.2 ++ (w_Tr g a1 s1 ++ (w_Tr g a2 s2 ++ (rest))))) args s 0 0 A) (F0 m 204 ls [.int y0, .ref (a0 1)]) := by
  have X1 := X
  obtain ⟨hx, hb, hml, hown, hts, hr, hlocks, hKK⟩ := X1
  have ht : ∀ w ∈ TB, w.before args s = true := fun w h => hts w (List.mem_cons_of_mem _ h)
  have hK := hKK.1
  unfold B_Mr_textFits_204 at h
  refine lv_iconst (v := 0) hx hb d_Mr_textFits_204 (by decide) ?_
  exact t_Mr_textFits_205 X hk63 hk143 (lv_sub hl [0, 1, 2, 3, 4, 5, 6, 7, 8, 9] rfl) hI hS h
set_option maxRecDepth 100000 in
set_option maxHeartbeats 4000000 in
theorem t_Mr_textFits_200 {p : Program} {l : Launch} {e : Env} {s : State} {m : MethodId} {args : Array Value} {below : List Frame} {meth : Method} {c : Code} {D : va_G} {A : Nat → Prop} {g : Nat → ClassId} {rest : va_W} {a0 : Nat → Nat} {a1 : Nat → Nat} {a2 : Nat → Nat} {ls : Array Slot} {H : Heap} {locs : List Loc} {k63 : S_Mr × Int32 × Int32 × Int32 × Int32 × Int32 → Option (Int32 × S_Mr)} {k143 : S_Mr × Int32 × Int32 × Int32 × Int32 × Int32 × Int32 × Int32 → Option (Int32 × S_Mr)} {s1 : S_Tr} {s2 : S_Tr} {s0 : S_Mr} {x2 : Int32} {x4 : Int32} {x5 : Int32} {x6 : Int32} {x7 : Int32} {x8 : Int32} {x9 : Int32} {y0 : Int32} {out : Int32 × S_Mr} (X : Cx p s m args meth c prog_4_method_4_code 11 ws_Mr_textFits R_Mr (some .boolean) D g) (hk63 : ∀ (v : S_Mr × Int32 × Int32 × Int32 × Int32 × Int32) (ls : Array Slot) (H : Heap) (locs : List Loc), lv_has ls 11 [(0, .ref (a0 0)), (1, .ref (a1 0)), (2, .int v.2.1), (3, .ref (a2 0)), (4, .int v.2.2.1), (5, .int v.2.2.2.1), (6, .int v.2.2.2.2.1), (7, .int v.2.2.2.2.2)] → Iw D A (w_Mr g a0 v.1 ++ (w_Tr g a1 s1 ++ (w_Tr g a2 s2 ++ (rest)))) H → va_S A s.heap H locs → k63 v = some out → W p l e (headSpec ws_Mr_textFits { frames := 1, cells := 0, slots := 0, locals := 23 }).room s m args below meth c H locs 0 0 (MQ below (QcI D A g out.1 (fun (_ : Unit) => w_Mr g a0 out.2 ++ (w_Tr g a1 s1 ++ (w_Tr g a2 s2 ++ (rest))))) args s 0 0 A) (F0 m 63 ls [])) (hk143 : ∀ (v : S_Mr × Int32 × Int32 × Int32 × Int32 × Int32 × Int32 × Int32) (ls : Array Slot) (H : Heap) (locs : List Loc), lv_has ls 11 [(0, .ref (a0 0)), (1, .ref (a1 0)), (2, .int v.2.1), (3, .ref (a2 0)), (4, .int v.2.2.1), (5, .int v.2.2.2.1), (6, .int v.2.2.2.2.1), (7, .int v.2.2.2.2.2.1), (8, .int v.2.2.2.2.2.2.1), (9, .int v.2.2.2.2.2.2.2)] → Iw D A (w_Mr g a0 v.1 ++ (w_Tr g a1 s1 ++ (w_Tr g a2 s2 ++ (rest)))) H → va_S A s.heap H locs → k143 v = some out → W p l e (headSpec ws_Mr_textFits { frames := 1, cells := 0, slots := 0, locals := 23 }).room s m args below meth c H locs 0 0 (MQ below (QcI D A g out.1 (fun (_ : Unit) => w_Mr g a0 out.2 ++ (w_Tr g a1 s1 ++ (w_Tr g a2 s2 ++ (rest))))) args s 0 0 A) (F0 m 143 ls [])) (hl : lv_has ls 11 [(0, .ref (a0 0)), (1, .ref (a1 0)), (2, .int x2), (3, .ref (a2 0)), (4, .int x4), (5, .int x5), (6, .int x6), (7, .int x7), (8, .int x8), (9, .int x9)]) (hI : Iw D A (w_Mr g a0 s0 ++ (w_Tr g a1 s1 ++ (w_Tr g a2 s2 ++ (rest)))) H) (hS : va_S A s.heap H locs) (h : B_Mr_textFits_200 k63 k143 s1 s2 s0 x2 x4 x5 x6 x7 x8 x9 y0 = some out) : W p l e (headSpec ws_Mr_textFits { frames := 1, cells := 0, slots := 0, locals := 23 }).room s m args below meth c H locs 0 0 (MQ below (QcI D A g out.1 (fun (_ : Unit) => w_Mr g a0 out.2 ++ (w_Tr g a1 s1 ++ (w_Tr g a2 s2 ++ (rest))))) args s 0 0 A) (F0 m 200 ls [.int y0, .ref (a0 1)]) := by
  have X1 := X
  obtain ⟨hx, hb, hml, hown, hts, hr, hlocks, hKK⟩ := X1
  have ht : ∀ w ∈ TB, w.before args s = true := fun w h => hts w (List.mem_cons_of_mem _ h)
  have hK := hKK.1
  unfold B_Mr_textFits_200 at h
  refine lv_iconst (v := 1) hx hb d_Mr_textFits_200 (by decide) ?_
  refine lv_goto (tgt := 205) hx hb d_Mr_textFits_201 (by decide) ?_
  exact t_Mr_textFits_205 X hk63 hk143 (lv_sub hl [0, 1, 2, 3, 4, 5, 6, 7, 8, 9] rfl) hI hS h
set_option maxRecDepth 100000 in
set_option maxHeartbeats 4000000 in
theorem t_Mr_textFits_188 {p : Program} {l : Launch} {e : Env} {s : State} {m : MethodId} {args : Array Value} {below : List Frame} {meth : Method} {c : Code} {D : va_G} {A : Nat → Prop} {g : Nat → ClassId} {rest : va_W} {a0 : Nat → Nat} {a1 : Nat → Nat} {a2 : Nat → Nat} {ls : Array Slot} {H : Heap} {locs : List Loc} {k63 : S_Mr × Int32 × Int32 × Int32 × Int32 × Int32 → Option (Int32 × S_Mr)} {k143 : S_Mr × Int32 × Int32 × Int32 × Int32 × Int32 × Int32 × Int32 → Option (Int32 × S_Mr)} {s1 : S_Tr} {s2 : S_Tr} {s0 : S_Mr} {x2 : Int32} {x4 : Int32} {x5 : Int32} {x6 : Int32} {x7 : Int32} {x8 : Int32} {x9 : Int32} {y0 : Int32} {out : Int32 × S_Mr} (X : Cx p s m args meth c prog_4_method_4_code 11 ws_Mr_textFits R_Mr (some .boolean) D g) (hk63 : ∀ (v : S_Mr × Int32 × Int32 × Int32 × Int32 × Int32) (ls : Array Slot) (H : Heap) (locs : List Loc), lv_has ls 11 [(0, .ref (a0 0)), (1, .ref (a1 0)), (2, .int v.2.1), (3, .ref (a2 0)), (4, .int v.2.2.1), (5, .int v.2.2.2.1), (6, .int v.2.2.2.2.1), (7, .int v.2.2.2.2.2)] → Iw D A (w_Mr g a0 v.1 ++ (w_Tr g a1 s1 ++ (w_Tr g a2 s2 ++ (rest)))) H → va_S A s.heap H locs → k63 v = some out → W p l e (headSpec ws_Mr_textFits { frames := 1, cells := 0, slots := 0, locals := 23 }).room s m args below meth c H locs 0 0 (MQ below (QcI D A g out.1 (fun (_ : Unit) => w_Mr g a0 out.2 ++ (w_Tr g a1 s1 ++ (w_Tr g a2 s2 ++ (rest))))) args s 0 0 A) (F0 m 63 ls [])) (hk143 : ∀ (v : S_Mr × Int32 × Int32 × Int32 × Int32 × Int32 × Int32 × Int32) (ls : Array Slot) (H : Heap) (locs : List Loc), lv_has ls 11 [(0, .ref (a0 0)), (1, .ref (a1 0)), (2, .int v.2.1), (3, .ref (a2 0)), (4, .int v.2.2.1), (5, .int v.2.2.2.1), (6, .int v.2.2.2.2.1), (7, .int v.2.2.2.2.2.1), (8, .int v.2.2.2.2.2.2.1), (9, .int v.2.2.2.2.2.2.2)] → Iw D A (w_Mr g a0 v.1 ++ (w_Tr g a1 s1 ++ (w_Tr g a2 s2 ++ (rest)))) H → va_S A s.heap H locs → k143 v = some out → W p l e (headSpec ws_Mr_textFits { frames := 1, cells := 0, slots := 0, locals := 23 }).room s m args below meth c H locs 0 0 (MQ below (QcI D A g out.1 (fun (_ : Unit) => w_Mr g a0 out.2 ++ (w_Tr g a1 s1 ++ (w_Tr g a2 s2 ++ (rest))))) args s 0 0 A) (F0 m 143 ls [])) (hl : lv_has ls 11 [(0, .ref (a0 0)), (1, .ref (a1 0)), (2, .int x2), (3, .ref (a2 0)), (4, .int x4), (5, .int x5), (6, .int x6), (7, .int x7), (8, .int x8), (9, .int x9)]) (hI : Iw D A (w_Mr g a0 s0 ++ (w_Tr g a1 s1 ++ (w_Tr g a2 s2 ++ (rest)))) H) (hS : va_S A s.heap H locs) (h : B_Mr_textFits_188 k63 k143 s1 s2 s0 x2 x4 x5 x6 x7 x8 x9 y0 = some out) : W p l e (headSpec ws_Mr_textFits { frames := 1, cells := 0, slots := 0, locals := 23 }).room s m args below meth c H locs 0 0 (MQ below (QcI D A g out.1 (fun (_ : Unit) => w_Mr g a0 out.2 ++ (w_Tr g a1 s1 ++ (w_Tr g a2 s2 ++ (rest))))) args s 0 0 A) (F0 m 188 ls [.int y0, .ref (a0 1)]) := by
  have X1 := X
  obtain ⟨hx, hb, hml, hown, hts, hr, hlocks, hKK⟩ := X1
  have ht : ∀ w ∈ TB, w.before args s = true := fun w h => hts w (List.mem_cons_of_mem _ h)
  have hK := hKK.1
  unfold B_Mr_textFits_188 at h
  refine lv_aload_n hx hb d_Mr_textFits_188 rfl (lv_at hl 0 rfl) ?_
  refine va_get (D := D) (ci := 2) (v := .ref (a0 1)) (C := R_Mr) (T := T_Mr) (N := 1) hx hb ht in_Mr hown hK hI.1 0 rfl rfl 0 (by decide) (ht _ m_199) (fun _ h9 => h9) rfl d_Mr_textFits_189 ?_
  refine lv_iload hx hb d_Mr_textFits_192 (lv_at hl 9 rfl) ?_
  refine lv_iconst (v := 1) hx hb d_Mr_textFits_194 (by decide) ?_
  refine lv_isub hx hb d_Mr_textFits_195 ?_
  by_cases hc1 : ((x9 - (1 : Int32)) < 0 ∨ 17 ≤ (x9 - (1 : Int32)).toNatClampNeg)
  · exact no_s (it_t h hc1)
  have h := it_f h hc1
  refine va_zald hx hb hK hI.1 1 1 rfl rfl hc1 d_Mr_textFits_196 ?_
  refine lv_if_eq (tgt := 204) hx hb d_Mr_textFits_197 (by decide) (fun hc => ?_) (fun hc => ?_)
  · have h := it_t h hc
    exact t_Mr_textFits_204 X hk63 hk143 (lv_sub hl [0, 1, 2, 3, 4, 5, 6, 7, 8, 9] rfl) hI hS h
  · have h := it_f h hc
    exact t_Mr_textFits_200 X hk63 hk143 (lv_sub hl [0, 1, 2, 3, 4, 5, 6, 7, 8, 9] rfl) hI hS h
set_option maxRecDepth 100000 in
set_option maxHeartbeats 4000000 in
theorem t_Mr_textFits_175 {p : Program} {l : Launch} {e : Env} {s : State} {m : MethodId} {args : Array Value} {below : List Frame} {meth : Method} {c : Code} {D : va_G} {A : Nat → Prop} {g : Nat → ClassId} {rest : va_W} {a0 : Nat → Nat} {a1 : Nat → Nat} {a2 : Nat → Nat} {ls : Array Slot} {H : Heap} {locs : List Loc} {k63 : S_Mr × Int32 × Int32 × Int32 × Int32 × Int32 → Option (Int32 × S_Mr)} {k143 : S_Mr × Int32 × Int32 × Int32 × Int32 × Int32 × Int32 × Int32 → Option (Int32 × S_Mr)} {s1 : S_Tr} {s2 : S_Tr} {s0 : S_Mr} {x2 : Int32} {x4 : Int32} {x5 : Int32} {x6 : Int32} {x7 : Int32} {x8 : Int32} {x9 : Int32} {y0 : Int32} {out : Int32 × S_Mr} (X : Cx p s m args meth c prog_4_method_4_code 11 ws_Mr_textFits R_Mr (some .boolean) D g) (hk63 : ∀ (v : S_Mr × Int32 × Int32 × Int32 × Int32 × Int32) (ls : Array Slot) (H : Heap) (locs : List Loc), lv_has ls 11 [(0, .ref (a0 0)), (1, .ref (a1 0)), (2, .int v.2.1), (3, .ref (a2 0)), (4, .int v.2.2.1), (5, .int v.2.2.2.1), (6, .int v.2.2.2.2.1), (7, .int v.2.2.2.2.2)] → Iw D A (w_Mr g a0 v.1 ++ (w_Tr g a1 s1 ++ (w_Tr g a2 s2 ++ (rest)))) H → va_S A s.heap H locs → k63 v = some out → W p l e (headSpec ws_Mr_textFits { frames := 1, cells := 0, slots := 0, locals := 23 }).room s m args below meth c H locs 0 0 (MQ below (QcI D A g out.1 (fun (_ : Unit) => w_Mr g a0 out.2 ++ (w_Tr g a1 s1 ++ (w_Tr g a2 s2 ++ (rest))))) args s 0 0 A) (F0 m 63 ls [])) (hk143 : ∀ (v : S_Mr × Int32 × Int32 × Int32 × Int32 × Int32 × Int32 × Int32) (ls : Array Slot) (H : Heap) (locs : List Loc), lv_has ls 11 [(0, .ref (a0 0)), (1, .ref (a1 0)), (2, .int v.2.1), (3, .ref (a2 0)), (4, .int v.2.2.1), (5, .int v.2.2.2.1), (6, .int v.2.2.2.2.1), (7, .int v.2.2.2.2.2.1), (8, .int v.2.2.2.2.2.2.1), (9, .int v.2.2.2.2.2.2.2)] → Iw D A (w_Mr g a0 v.1 ++ (w_Tr g a1 s1 ++ (w_Tr g a2 s2 ++ (rest)))) H → va_S A s.heap H locs → k143 v = some out → W p l e (headSpec ws_Mr_textFits { frames := 1, cells := 0, slots := 0, locals := 23 }).room s m args below meth c H locs 0 0 (MQ below (QcI D A g out.1 (fun (_ : Unit) => w_Mr g a0 out.2 ++ (w_Tr g a1 s1 ++ (w_Tr g a2 s2 ++ (rest))))) args s 0 0 A) (F0 m 143 ls [])) (hl : lv_has ls 11 [(0, .ref (a0 0)), (1, .ref (a1 0)), (2, .int x2), (3, .ref (a2 0)), (4, .int x4), (5, .int x5), (6, .int x6), (7, .int x7), (8, .int x8), (9, .int x9)]) (hI : Iw D A (w_Mr g a0 s0 ++ (w_Tr g a1 s1 ++ (w_Tr g a2 s2 ++ (rest)))) H) (hS : va_S A s.heap H locs) (h : B_Mr_textFits_175 k63 k143 s1 s2 s0 x2 x4 x5 x6 x7 x8 x9 y0 = some out) : W p l e (headSpec ws_Mr_textFits { frames := 1, cells := 0, slots := 0, locals := 23 }).room s m args below meth c H locs 0 0 (MQ below (QcI D A g out.1 (fun (_ : Unit) => w_Mr g a0 out.2 ++ (w_Tr g a1 s1 ++ (w_Tr g a2 s2 ++ (rest))))) args s 0 0 A) (F0 m 175 ls [.int y0]) := by
  have X1 := X
  obtain ⟨hx, hb, hml, hown, hts, hr, hlocks, hKK⟩ := X1
  have ht : ∀ w ∈ TB, w.before args s = true := fun w h => hts w (List.mem_cons_of_mem _ h)
  have hK := hKK.1
  unfold B_Mr_textFits_175 at h
  refine lv_istore hx hb d_Mr_textFits_175 hl (Nat.le_of_ble_eq_true rfl) rfl (fun ls hl => ?_)
  have hl : lv_has ls 11 [(10, .int y0), (0, .ref (a0 0)), (1, .ref (a1 0)), (2, .int x2), (3, .ref (a2 0)), (4, .int x4), (5, .int x5), (6, .int x6), (7, .int x7), (8, .int x8), (9, .int x9)] := hl
  refine lv_aload_n hx hb d_Mr_textFits_177 rfl (lv_at hl 1 rfl) ?_
  refine va_get (D := D) (ci := 2) (v := .ref (a0 1)) (C := R_Mr) (T := T_Mr) (N := 1) hx hb ht in_Mr hown hK hI.1 0 rfl rfl 0 (by decide) (ht _ m_199) (fun _ h9 => h9) rfl d_Mr_textFits_178 ?_
  refine lv_iload hx hb d_Mr_textFits_181 (lv_at hl 10 rfl) ?_
  refine lv_iload hx hb d_Mr_textFits_183 (lv_at hl 0 rfl) ?_
  refine lv_if_eq (tgt := 204) hx hb d_Mr_textFits_185 (by decide) (fun hc => ?_) (fun hc => ?_)
  · have h := it_t h hc
    exact t_Mr_textFits_204 X hk63 hk143 (lv_sub hl [1, 2, 3, 4, 5, 6, 7, 8, 9, 10] rfl) hI hS h
  · have h := it_f h hc
    exact t_Mr_textFits_188 X hk63 hk143 (lv_sub hl [1, 2, 3, 4, 5, 6, 7, 8, 9, 10] rfl) hI hS h
set_option maxRecDepth 100000 in
set_option maxHeartbeats 4000000 in
theorem t_Mr_textFits_170 {p : Program} {l : Launch} {e : Env} {s : State} {m : MethodId} {args : Array Value} {below : List Frame} {meth : Method} {c : Code} {D : va_G} {A : Nat → Prop} {g : Nat → ClassId} {rest : va_W} {a0 : Nat → Nat} {a1 : Nat → Nat} {a2 : Nat → Nat} {ls : Array Slot} {H : Heap} {locs : List Loc} {k63 : S_Mr × Int32 × Int32 × Int32 × Int32 × Int32 → Option (Int32 × S_Mr)} {k143 : S_Mr × Int32 × Int32 × Int32 × Int32 × Int32 × Int32 × Int32 → Option (Int32 × S_Mr)} {s1 : S_Tr} {s2 : S_Tr} {s0 : S_Mr} {x2 : Int32} {x4 : Int32} {x5 : Int32} {x6 : Int32} {x7 : Int32} {x8 : Int32} {x9 : Int32} {out : Int32 × S_Mr} (X : Cx p s m args meth c prog_4_method_4_code 11 ws_Mr_textFits R_Mr (some .boolean) D g) (hk63 : ∀ (v : S_Mr × Int32 × Int32 × Int32 × Int32 × Int32) (ls : Array Slot) (H : Heap) (locs : List Loc), lv_has ls 11 [(0, .ref (a0 0)), (1, .ref (a1 0)), (2, .int v.2.1), (3, .ref (a2 0)), (4, .int v.2.2.1), (5, .int v.2.2.2.1), (6, .int v.2.2.2.2.1), (7, .int v.2.2.2.2.2)] → Iw D A (w_Mr g a0 v.1 ++ (w_Tr g a1 s1 ++ (w_Tr g a2 s2 ++ (rest)))) H → va_S A s.heap H locs → k63 v = some out → W p l e (headSpec ws_Mr_textFits { frames := 1, cells := 0, slots := 0, locals := 23 }).room s m args below meth c H locs 0 0 (MQ below (QcI D A g out.1 (fun (_ : Unit) => w_Mr g a0 out.2 ++ (w_Tr g a1 s1 ++ (w_Tr g a2 s2 ++ (rest))))) args s 0 0 A) (F0 m 63 ls [])) (hk143 : ∀ (v : S_Mr × Int32 × Int32 × Int32 × Int32 × Int32 × Int32 × Int32) (ls : Array Slot) (H : Heap) (locs : List Loc), lv_has ls 11 [(0, .ref (a0 0)), (1, .ref (a1 0)), (2, .int v.2.1), (3, .ref (a2 0)), (4, .int v.2.2.1), (5, .int v.2.2.2.1), (6, .int v.2.2.2.2.1), (7, .int v.2.2.2.2.2.1), (8, .int v.2.2.2.2.2.2.1), (9, .int v.2.2.2.2.2.2.2)] → Iw D A (w_Mr g a0 v.1 ++ (w_Tr g a1 s1 ++ (w_Tr g a2 s2 ++ (rest)))) H → va_S A s.heap H locs → k143 v = some out → W p l e (headSpec ws_Mr_textFits { frames := 1, cells := 0, slots := 0, locals := 23 }).room s m args below meth c H locs 0 0 (MQ below (QcI D A g out.1 (fun (_ : Unit) => w_Mr g a0 out.2 ++ (w_Tr g a1 s1 ++ (w_Tr g a2 s2 ++ (rest))))) args s 0 0 A) (F0 m 143 ls [])) (hl : lv_has ls 11 [(0, .ref (a0 0)), (1, .ref (a1 0)), (2, .int x2), (3, .ref (a2 0)), (4, .int x4), (5, .int x5), (6, .int x6), (7, .int x7), (8, .int x8), (9, .int x9)]) (hI : Iw D A (w_Mr g a0 s0 ++ (w_Tr g a1 s1 ++ (w_Tr g a2 s2 ++ (rest)))) H) (hS : va_S A s.heap H locs) (h : B_Mr_textFits_170 k63 k143 s1 s2 s0 x2 x4 x5 x6 x7 x8 x9 = some out) : W p l e (headSpec ws_Mr_textFits { frames := 1, cells := 0, slots := 0, locals := 23 }).room s m args below meth c H locs 0 0 (MQ below (QcI D A g out.1 (fun (_ : Unit) => w_Mr g a0 out.2 ++ (w_Tr g a1 s1 ++ (w_Tr g a2 s2 ++ (rest))))) args s 0 0 A) (F0 m 170 ls []) := by
  have X1 := X
  obtain ⟨hx, hb, hml, hown, hts, hr, hlocks, hKK⟩ := X1
  have ht : ∀ w ∈ TB, w.before args s = true := fun w h => hts w (List.mem_cons_of_mem _ h)
  have hK := hKK.1
  unfold B_Mr_textFits_170 at h
  refine lv_iconst (v := 1) hx hb d_Mr_textFits_170 (by decide) ?_
  refine lv_goto (tgt := 175) hx hb d_Mr_textFits_171 (by decide) ?_
  exact t_Mr_textFits_175 X hk63 hk143 (lv_sub hl [0, 1, 2, 3, 4, 5, 6, 7, 8, 9] rfl) hI hS h
set_option maxRecDepth 100000 in
set_option maxHeartbeats 4000000 in
theorem t_Mr_textFits_174 {p : Program} {l : Launch} {e : Env} {s : State} {m : MethodId} {args : Array Value} {below : List Frame} {meth : Method} {c : Code} {D : va_G} {A : Nat → Prop} {g : Nat → ClassId} {rest : va_W} {a0 : Nat → Nat} {a1 : Nat → Nat} {a2 : Nat → Nat} {ls : Array Slot} {H : Heap} {locs : List Loc} {k63 : S_Mr × Int32 × Int32 × Int32 × Int32 × Int32 → Option (Int32 × S_Mr)} {k143 : S_Mr × Int32 × Int32 × Int32 × Int32 × Int32 × Int32 × Int32 → Option (Int32 × S_Mr)} {s1 : S_Tr} {s2 : S_Tr} {s0 : S_Mr} {x2 : Int32} {x4 : Int32} {x5 : Int32} {x6 : Int32} {x7 : Int32} {x8 : Int32} {x9 : Int32} {out : Int32 × S_Mr} (X : Cx p s m args meth c prog_4_method_4_code 11 ws_Mr_textFits R_Mr (some .boolean) D g) (hk63 : ∀ (v : S_Mr × Int32 × Int32 × Int32 × Int32 × Int32) (ls : Array Slot) (H : Heap) (locs : List Loc), lv_has ls 11 [(0, .ref (a0 0)), (1, .ref (a1 0)), (2, .int v.2.1), (3, .ref (a2 0)), (4, .int v.2.2.1), (5, .int v.2.2.2.1), (6, .int v.2.2.2.2.1), (7, .int v.2.2.2.2.2)] → Iw D A (w_Mr g a0 v.1 ++ (w_Tr g a1 s1 ++ (w_Tr g a2 s2 ++ (rest)))) H → va_S A s.heap H locs → k63 v = some out → W p l e (headSpec ws_Mr_textFits { frames := 1, cells := 0, slots := 0, locals := 23 }).room s m args below meth c H locs 0 0 (MQ below (QcI D A g out.1 (fun (_ : Unit) => w_Mr g a0 out.2 ++ (w_Tr g a1 s1 ++ (w_Tr g a2 s2 ++ (rest))))) args s 0 0 A) (F0 m 63 ls [])) (hk143 : ∀ (v : S_Mr × Int32 × Int32 × Int32 × Int32 × Int32 × Int32 × Int32) (ls : Array Slot) (H : Heap) (locs : List Loc), lv_has ls 11 [(0, .ref (a0 0)), (1, .ref (a1 0)), (2, .int v.2.1), (3, .ref (a2 0)), (4, .int v.2.2.1), (5, .int v.2.2.2.1), (6, .int v.2.2.2.2.1), (7, .int v.2.2.2.2.2.1), (8, .int v.2.2.2.2.2.2.1), (9, .int v.2.2.2.2.2.2.2)] → Iw D A (w_Mr g a0 v.1 ++ (w_Tr g a1 s1 ++ (w_Tr g a2 s2 ++ (rest)))) H → va_S A s.heap H locs → k143 v = some out → W p l e (headSpec ws_Mr_textFits { frames := 1, cells := 0, slots := 0, locals := 23 }).room s m args below meth c H locs 0 0 (MQ below (QcI D A g out.1 (fun (_ : Unit) => w_Mr g a0 out.2 ++ (w_Tr g a1 s1 ++ (w_Tr g a2 s2 ++ (rest))))) args s 0 0 A) (F0 m 143 ls [])) (hl : lv_has ls 11 [(0, .ref (a0 0)), (1, .ref (a1 0)), (2, .int x2), (3, .ref (a2 0)), (4, .int x4), (5, .int x5), (6, .int x6), (7, .int x7), (8, .int x8), (9, .int x9)]) (hI : Iw D A (w_Mr g a0 s0 ++ (w_Tr g a1 s1 ++ (w_Tr g a2 s2 ++ (rest)))) H) (hS : va_S A s.heap H locs) (h : B_Mr_textFits_174 k63 k143 s1 s2 s0 x2 x4 x5 x6 x7 x8 x9 = some out) : W p l e (headSpec ws_Mr_textFits { frames := 1, cells := 0, slots := 0, locals := 23 }).room s m args below meth c H locs 0 0 (MQ below (QcI D A g out.1 (fun (_ : Unit) => w_Mr g a0 out.2 ++ (w_Tr g a1 s1 ++ (w_Tr g a2 s2 ++ (rest))))) args s 0 0 A) (F0 m 174 ls []) := by
  have X1 := X
  obtain ⟨hx, hb, hml, hown, hts, hr, hlocks, hKK⟩ := X1
  have ht : ∀ w ∈ TB, w.before args s = true := fun w h => hts w (List.mem_cons_of_mem _ h)
  have hK := hKK.1
  unfold B_Mr_textFits_174 at h
  refine lv_iconst (v := 0) hx hb d_Mr_textFits_174 (by decide) ?_
  exact t_Mr_textFits_175 X hk63 hk143 (lv_sub hl [0, 1, 2, 3, 4, 5, 6, 7, 8, 9] rfl) hI hS h
set_option maxRecDepth 100000 in
set_option maxHeartbeats 4000000 in
theorem t_Mr_textFits_155 {p : Program} {l : Launch} {e : Env} {s : State} {m : MethodId} {args : Array Value} {below : List Frame} {meth : Method} {c : Code} {D : va_G} {A : Nat → Prop} {g : Nat → ClassId} {rest : va_W} {a0 : Nat → Nat} {a1 : Nat → Nat} {a2 : Nat → Nat} {ls : Array Slot} {H : Heap} {locs : List Loc} {k63 : S_Mr × Int32 × Int32 × Int32 × Int32 × Int32 → Option (Int32 × S_Mr)} {k143 : S_Mr × Int32 × Int32 × Int32 × Int32 × Int32 × Int32 × Int32 → Option (Int32 × S_Mr)} {s1 : S_Tr} {s2 : S_Tr} {s0 : S_Mr} {x2 : Int32} {x4 : Int32} {x5 : Int32} {x6 : Int32} {x7 : Int32} {x8 : Int32} {x9 : Int32} {out : Int32 × S_Mr} (X : Cx p s m args meth c prog_4_method_4_code 11 ws_Mr_textFits R_Mr (some .boolean) D g) (hk63 : ∀ (v : S_Mr × Int32 × Int32 × Int32 × Int32 × Int32) (ls : Array Slot) (H : Heap) (locs : List Loc), lv_has ls 11 [(0, .ref (a0 0)), (1, .ref (a1 0)), (2, .int v.2.1), (3, .ref (a2 0)), (4, .int v.2.2.1), (5, .int v.2.2.2.1), (6, .int v.2.2.2.2.1), (7, .int v.2.2.2.2.2)] → Iw D A (w_Mr g a0 v.1 ++ (w_Tr g a1 s1 ++ (w_Tr g a2 s2 ++ (rest)))) H → va_S A s.heap H locs → k63 v = some out → W p l e (headSpec ws_Mr_textFits { frames := 1, cells := 0, slots := 0, locals := 23 }).room s m args below meth c H locs 0 0 (MQ below (QcI D A g out.1 (fun (_ : Unit) => w_Mr g a0 out.2 ++ (w_Tr g a1 s1 ++ (w_Tr g a2 s2 ++ (rest))))) args s 0 0 A) (F0 m 63 ls [])) (hk143 : ∀ (v : S_Mr × Int32 × Int32 × Int32 × Int32 × Int32 × Int32 × Int32) (ls : Array Slot) (H : Heap) (locs : List Loc), lv_has ls 11 [(0, .ref (a0 0)), (1, .ref (a1 0)), (2, .int v.2.1), (3, .ref (a2 0)), (4, .int v.2.2.1), (5, .int v.2.2.2.1), (6, .int v.2.2.2.2.1), (7, .int v.2.2.2.2.2.1), (8, .int v.2.2.2.2.2.2.1), (9, .int v.2.2.2.2.2.2.2)] → Iw D A (w_Mr g a0 v.1 ++ (w_Tr g a1 s1 ++ (w_Tr g a2 s2 ++ (rest)))) H → va_S A s.heap H locs → k143 v = some out → W p l e (headSpec ws_Mr_textFits { frames := 1, cells := 0, slots := 0, locals := 23 }).room s m args below meth c H locs 0 0 (MQ below (QcI D A g out.1 (fun (_ : Unit) => w_Mr g a0 out.2 ++ (w_Tr g a1 s1 ++ (w_Tr g a2 s2 ++ (rest))))) args s 0 0 A) (F0 m 143 ls [])) (hl : lv_has ls 11 [(0, .ref (a0 0)), (1, .ref (a1 0)), (2, .int x2), (3, .ref (a2 0)), (4, .int x4), (5, .int x5), (6, .int x6), (7, .int x7), (8, .int x8), (9, .int x9)]) (hI : Iw D A (w_Mr g a0 s0 ++ (w_Tr g a1 s1 ++ (w_Tr g a2 s2 ++ (rest)))) H) (hS : va_S A s.heap H locs) (h : B_Mr_textFits_155 k63 k143 s1 s2 s0 x2 x4 x5 x6 x7 x8 x9 = some out) : W p l e (headSpec ws_Mr_textFits { frames := 1, cells := 0, slots := 0, locals := 23 }).room s m args below meth c H locs 0 0 (MQ below (QcI D A g out.1 (fun (_ : Unit) => w_Mr g a0 out.2 ++ (w_Tr g a1 s1 ++ (w_Tr g a2 s2 ++ (rest))))) args s 0 0 A) (F0 m 155 ls []) := by
  have X1 := X
  obtain ⟨hx, hb, hml, hown, hts, hr, hlocks, hKK⟩ := X1
  have ht : ∀ w ∈ TB, w.before args s = true := fun w h => hts w (List.mem_cons_of_mem _ h)
  have hK := hKK.1
  unfold B_Mr_textFits_155 at h
  refine lv_iload hx hb d_Mr_textFits_155 (lv_at hl 8 rfl) ?_
  refine lv_aload_n hx hb d_Mr_textFits_157 rfl (lv_at hl 3 rfl) ?_
  refine lv_iload hx hb d_Mr_textFits_158 (lv_at hl 4 rfl) ?_
  refine lv_iload hx hb d_Mr_textFits_160 (lv_at hl 9 rfl) ?_
  refine lv_iconst (v := 1) hx hb d_Mr_textFits_162 (by decide) ?_
  refine lv_isub hx hb d_Mr_textFits_163 ?_
  obtain ⟨o1, ho2, h⟩ := bd_s h
  refine cl_i (W1 := fun (_ : Unit) => w_Mr g a0 s0 ++ (w_Tr g a1 s1 ++ (w_Tr g a2 s2 ++ (rest)))) (va_runV (As := [.int x4, .int (x9 - (1 : Int32))]) (rest := [.int x8]) ⟨hx, hb, hml, hown, ht⟩ (c_Tr_character (l := l) (D := D) (A := A) (g := g) (rest := w_Mr g a0 s0 ++ (w_Tr g a1 s1 ++ (rest))) (a0 := a2) ho2) (cwV 2 ht (gd_V m_637 m_580 m_581 m_9 m_582) rfl rfl rfl (by decide +kernel) ⟨(Nat.le_of_ble_eq_true rfl), (Nat.le_of_ble_eq_true rfl)⟩) (prV (ci := 7) (q0 := 0) hKK hI (mv_2) rfl rfl rfl) rfl rfl hl.1 rfl (lv_room (Nat.le_of_ble_eq_true rfl)) d_Mr_textFits_164 ⟨(Nat.le_of_ble_eq_true rfl), (Nat.le_of_ble_eq_true rfl)⟩) hS (fun _ => ((mv_2)).symm) (fun _ H locs hI hS => ?_)
  have hI : Iw D A (w_Mr g a0 s0 ++ (w_Tr g a1 s1 ++ (w_Tr g a2 s2 ++ (rest)))) H := hI
  refine lv_icmp_ne (tgt := 174) hx hb d_Mr_textFits_167 (by decide) (fun hc => ?_) (fun hc => ?_)
  · have h := it_f h hc
    exact t_Mr_textFits_174 X hk63 hk143 (lv_sub hl [0, 1, 2, 3, 4, 5, 6, 7, 8, 9] rfl) hI hS h
  · have h := it_t h hc
    exact t_Mr_textFits_170 X hk63 hk143 (lv_sub hl [0, 1, 2, 3, 4, 5, 6, 7, 8, 9] rfl) hI hS h
set_option maxRecDepth 100000 in
set_option maxHeartbeats 4000000 in
theorem t_Mr_textFits_148 {p : Program} {l : Launch} {e : Env} {s : State} {m : MethodId} {args : Array Value} {below : List Frame} {meth : Method} {c : Code} {D : va_G} {A : Nat → Prop} {g : Nat → ClassId} {rest : va_W} {a0 : Nat → Nat} {a1 : Nat → Nat} {a2 : Nat → Nat} {ls : Array Slot} {H : Heap} {locs : List Loc} {k63 : S_Mr × Int32 × Int32 × Int32 × Int32 × Int32 → Option (Int32 × S_Mr)} {k143 : S_Mr × Int32 × Int32 × Int32 × Int32 × Int32 × Int32 × Int32 → Option (Int32 × S_Mr)} {s1 : S_Tr} {s2 : S_Tr} {s0 : S_Mr} {x2 : Int32} {x4 : Int32} {x5 : Int32} {x6 : Int32} {x7 : Int32} {x8 : Int32} {x9 : Int32} {out : Int32 × S_Mr} (X : Cx p s m args meth c prog_4_method_4_code 11 ws_Mr_textFits R_Mr (some .boolean) D g) (hk63 : ∀ (v : S_Mr × Int32 × Int32 × Int32 × Int32 × Int32) (ls : Array Slot) (H : Heap) (locs : List Loc), lv_has ls 11 [(0, .ref (a0 0)), (1, .ref (a1 0)), (2, .int v.2.1), (3, .ref (a2 0)), (4, .int v.2.2.1), (5, .int v.2.2.2.1), (6, .int v.2.2.2.2.1), (7, .int v.2.2.2.2.2)] → Iw D A (w_Mr g a0 v.1 ++ (w_Tr g a1 s1 ++ (w_Tr g a2 s2 ++ (rest)))) H → va_S A s.heap H locs → k63 v = some out → W p l e (headSpec ws_Mr_textFits { frames := 1, cells := 0, slots := 0, locals := 23 }).room s m args below meth c H locs 0 0 (MQ below (QcI D A g out.1 (fun (_ : Unit) => w_Mr g a0 out.2 ++ (w_Tr g a1 s1 ++ (w_Tr g a2 s2 ++ (rest))))) args s 0 0 A) (F0 m 63 ls [])) (hk143 : ∀ (v : S_Mr × Int32 × Int32 × Int32 × Int32 × Int32 × Int32 × Int32) (ls : Array Slot) (H : Heap) (locs : List Loc), lv_has ls 11 [(0, .ref (a0 0)), (1, .ref (a1 0)), (2, .int v.2.1), (3, .ref (a2 0)), (4, .int v.2.2.1), (5, .int v.2.2.2.1), (6, .int v.2.2.2.2.1), (7, .int v.2.2.2.2.2.1), (8, .int v.2.2.2.2.2.2.1), (9, .int v.2.2.2.2.2.2.2)] → Iw D A (w_Mr g a0 v.1 ++ (w_Tr g a1 s1 ++ (w_Tr g a2 s2 ++ (rest)))) H → va_S A s.heap H locs → k143 v = some out → W p l e (headSpec ws_Mr_textFits { frames := 1, cells := 0, slots := 0, locals := 23 }).room s m args below meth c H locs 0 0 (MQ below (QcI D A g out.1 (fun (_ : Unit) => w_Mr g a0 out.2 ++ (w_Tr g a1 s1 ++ (w_Tr g a2 s2 ++ (rest))))) args s 0 0 A) (F0 m 143 ls [])) (hl : lv_has ls 11 [(0, .ref (a0 0)), (1, .ref (a1 0)), (2, .int x2), (3, .ref (a2 0)), (4, .int x4), (5, .int x5), (6, .int x6), (7, .int x7), (8, .int x8), (9, .int x9)]) (hI : Iw D A (w_Mr g a0 s0 ++ (w_Tr g a1 s1 ++ (w_Tr g a2 s2 ++ (rest)))) H) (hS : va_S A s.heap H locs) (h : B_Mr_textFits_148 k63 k143 s1 s2 s0 x2 x4 x5 x6 x7 x8 x9 = some out) : W p l e (headSpec ws_Mr_textFits { frames := 1, cells := 0, slots := 0, locals := 23 }).room s m args below meth c H locs 0 0 (MQ below (QcI D A g out.1 (fun (_ : Unit) => w_Mr g a0 out.2 ++ (w_Tr g a1 s1 ++ (w_Tr g a2 s2 ++ (rest))))) args s 0 0 A) (F0 m 148 ls []) := by
  have X1 := X
  obtain ⟨hx, hb, hml, hown, hts, hr, hlocks, hKK⟩ := X1
  have ht : ∀ w ∈ TB, w.before args s = true := fun w h => hts w (List.mem_cons_of_mem _ h)
  have hK := hKK.1
  unfold B_Mr_textFits_148 at h
  refine lv_iload hx hb d_Mr_textFits_148 (lv_at hl 8 rfl) ?_
  refine lv_bipush (v := 63) hx hb d_Mr_textFits_150 (by decide) ?_
  refine lv_icmp_eq (tgt := 170) hx hb d_Mr_textFits_152 (by decide) (fun hc => ?_) (fun hc => ?_)
  · have h := it_t h hc
    exact t_Mr_textFits_170 X hk63 hk143 (lv_sub hl [0, 1, 2, 3, 4, 5, 6, 7, 8, 9] rfl) hI hS h
  · have h := it_f h hc
    exact t_Mr_textFits_155 X hk63 hk143 (lv_sub hl [0, 1, 2, 3, 4, 5, 6, 7, 8, 9] rfl) hI hS h
set_option maxRecDepth 100000 in
set_option maxHeartbeats 4000000 in
theorem t_Mr_textFits_143 {p : Program} {l : Launch} {e : Env} {s : State} {m : MethodId} {args : Array Value} {below : List Frame} {meth : Method} {c : Code} {D : va_G} {A : Nat → Prop} {g : Nat → ClassId} {rest : va_W} {a0 : Nat → Nat} {a1 : Nat → Nat} {a2 : Nat → Nat} {ls : Array Slot} {H : Heap} {locs : List Loc} {k63 : S_Mr × Int32 × Int32 × Int32 × Int32 × Int32 → Option (Int32 × S_Mr)} {k143 : S_Mr × Int32 × Int32 × Int32 × Int32 × Int32 × Int32 × Int32 → Option (Int32 × S_Mr)} {s1 : S_Tr} {s2 : S_Tr} {s0 : S_Mr} {x2 : Int32} {x4 : Int32} {x5 : Int32} {x6 : Int32} {x7 : Int32} {x8 : Int32} {x9 : Int32} {out : Int32 × S_Mr} (X : Cx p s m args meth c prog_4_method_4_code 11 ws_Mr_textFits R_Mr (some .boolean) D g) (hk63 : ∀ (v : S_Mr × Int32 × Int32 × Int32 × Int32 × Int32) (ls : Array Slot) (H : Heap) (locs : List Loc), lv_has ls 11 [(0, .ref (a0 0)), (1, .ref (a1 0)), (2, .int v.2.1), (3, .ref (a2 0)), (4, .int v.2.2.1), (5, .int v.2.2.2.1), (6, .int v.2.2.2.2.1), (7, .int v.2.2.2.2.2)] → Iw D A (w_Mr g a0 v.1 ++ (w_Tr g a1 s1 ++ (w_Tr g a2 s2 ++ (rest)))) H → va_S A s.heap H locs → k63 v = some out → W p l e (headSpec ws_Mr_textFits { frames := 1, cells := 0, slots := 0, locals := 23 }).room s m args below meth c H locs 0 0 (MQ below (QcI D A g out.1 (fun (_ : Unit) => w_Mr g a0 out.2 ++ (w_Tr g a1 s1 ++ (w_Tr g a2 s2 ++ (rest))))) args s 0 0 A) (F0 m 63 ls [])) (hk143 : ∀ (v : S_Mr × Int32 × Int32 × Int32 × Int32 × Int32 × Int32 × Int32) (ls : Array Slot) (H : Heap) (locs : List Loc), lv_has ls 11 [(0, .ref (a0 0)), (1, .ref (a1 0)), (2, .int v.2.1), (3, .ref (a2 0)), (4, .int v.2.2.1), (5, .int v.2.2.2.1), (6, .int v.2.2.2.2.1), (7, .int v.2.2.2.2.2.1), (8, .int v.2.2.2.2.2.2.1), (9, .int v.2.2.2.2.2.2.2)] → Iw D A (w_Mr g a0 v.1 ++ (w_Tr g a1 s1 ++ (w_Tr g a2 s2 ++ (rest)))) H → va_S A s.heap H locs → k143 v = some out → W p l e (headSpec ws_Mr_textFits { frames := 1, cells := 0, slots := 0, locals := 23 }).room s m args below meth c H locs 0 0 (MQ below (QcI D A g out.1 (fun (_ : Unit) => w_Mr g a0 out.2 ++ (w_Tr g a1 s1 ++ (w_Tr g a2 s2 ++ (rest))))) args s 0 0 A) (F0 m 143 ls [])) (hl : lv_has ls 11 [(0, .ref (a0 0)), (1, .ref (a1 0)), (2, .int x2), (3, .ref (a2 0)), (4, .int x4), (5, .int x5), (6, .int x6), (7, .int x7), (8, .int x8), (9, .int x9)]) (hI : Iw D A (w_Mr g a0 s0 ++ (w_Tr g a1 s1 ++ (w_Tr g a2 s2 ++ (rest)))) H) (hS : va_S A s.heap H locs) (h : B_Mr_textFits_143 k63 k143 s1 s2 s0 x2 x4 x5 x6 x7 x8 x9 = some out) : W p l e (headSpec ws_Mr_textFits { frames := 1, cells := 0, slots := 0, locals := 23 }).room s m args below meth c H locs 0 0 (MQ below (QcI D A g out.1 (fun (_ : Unit) => w_Mr g a0 out.2 ++ (w_Tr g a1 s1 ++ (w_Tr g a2 s2 ++ (rest))))) args s 0 0 A) (F0 m 143 ls []) := by
  have X1 := X
  obtain ⟨hx, hb, hml, hown, hts, hr, hlocks, hKK⟩ := X1
  have ht : ∀ w ∈ TB, w.before args s = true := fun w h => hts w (List.mem_cons_of_mem _ h)
  have hK := hKK.1
  unfold B_Mr_textFits_143 at h
  refine lv_iload hx hb d_Mr_textFits_143 (lv_at hl 9 rfl) ?_
  refine lv_if_le (tgt := 212) hx hb d_Mr_textFits_145 (by decide) (fun hc => ?_) (fun hc => ?_)
  · have h := it_t h hc
    exact t_Mr_textFits_212 X hk63 (lv_sub hl [0, 1, 2, 3, 4, 5, 6, 7] rfl) hI hS h
  · have h := it_f h hc
    exact t_Mr_textFits_148 X hk63 hk143 (lv_sub hl [0, 1, 2, 3, 4, 5, 6, 7, 8, 9] rfl) hI hS h
set_option maxRecDepth 100000 in
set_option maxHeartbeats 4000000 in
theorem T_Mr_textFits_143 {p : Program} {l : Launch} {e : Env} {s : State} {m : MethodId} {args : Array Value} {below : List Frame} {meth : Method} {c : Code} {D : va_G} {A : Nat → Prop} {g : Nat → ClassId} {rest : va_W} {a0 : Nat → Nat} {a1 : Nat → Nat} {a2 : Nat → Nat} {ls : Array Slot} {H : Heap} {locs : List Loc} {k63 : S_Mr × Int32 × Int32 × Int32 × Int32 × Int32 → Option (Int32 × S_Mr)} {s1 : S_Tr} {s2 : S_Tr} {s0 : S_Mr} {x2 : Int32} {x4 : Int32} {x5 : Int32} {x6 : Int32} {x7 : Int32} {x8 : Int32} {x9 : Int32} {out : Int32 × S_Mr} (X : Cx p s m args meth c prog_4_method_4_code 11 ws_Mr_textFits R_Mr (some .boolean) D g) (hk63 : ∀ (v : S_Mr × Int32 × Int32 × Int32 × Int32 × Int32) (ls : Array Slot) (H : Heap) (locs : List Loc), lv_has ls 11 [(0, .ref (a0 0)), (1, .ref (a1 0)), (2, .int v.2.1), (3, .ref (a2 0)), (4, .int v.2.2.1), (5, .int v.2.2.2.1), (6, .int v.2.2.2.2.1), (7, .int v.2.2.2.2.2)] → Iw D A (w_Mr g a0 v.1 ++ (w_Tr g a1 s1 ++ (w_Tr g a2 s2 ++ (rest)))) H → va_S A s.heap H locs → k63 v = some out → W p l e (headSpec ws_Mr_textFits { frames := 1, cells := 0, slots := 0, locals := 23 }).room s m args below meth c H locs 0 0 (MQ below (QcI D A g out.1 (fun (_ : Unit) => w_Mr g a0 out.2 ++ (w_Tr g a1 s1 ++ (w_Tr g a2 s2 ++ (rest))))) args s 0 0 A) (F0 m 63 ls [])) (hl : lv_has ls 11 [(0, .ref (a0 0)), (1, .ref (a1 0)), (2, .int x2), (3, .ref (a2 0)), (4, .int x4), (5, .int x5), (6, .int x6), (7, .int x7), (8, .int x8), (9, .int x9)]) (hI : Iw D A (w_Mr g a0 s0 ++ (w_Tr g a1 s1 ++ (w_Tr g a2 s2 ++ (rest)))) H) (hS : va_S A s.heap H locs) (h : L_Mr_textFits_143 k63 s1 s2 (s0, x2, x4, x5, x6, x7, x8, x9) = some out) : W p l e (headSpec ws_Mr_textFits { frames := 1, cells := 0, slots := 0, locals := 23 }).room s m args below meth c H locs 0 0 (MQ below (QcI D A g out.1 (fun (_ : Unit) => w_Mr g a0 out.2 ++ (w_Tr g a1 s1 ++ (w_Tr g a2 s2 ++ (rest))))) args s 0 0 A) (F0 m 143 ls []) := by
  unfold L_Mr_textFits_143 at h
  exact lp_ind (P := fun v => ∀ (ls : Array Slot) (H : Heap) (locs : List Loc), lv_has ls 11 [(0, .ref (a0 0)), (1, .ref (a1 0)), (2, .int v.2.1), (3, .ref (a2 0)), (4, .int v.2.2.1), (5, .int v.2.2.2.1), (6, .int v.2.2.2.2.1), (7, .int v.2.2.2.2.2.1), (8, .int v.2.2.2.2.2.2.1), (9, .int v.2.2.2.2.2.2.2)] → Iw D A (w_Mr g a0 v.1 ++ (w_Tr g a1 s1 ++ (w_Tr g a2 s2 ++ (rest)))) H → va_S A s.heap H locs → W p l e (headSpec ws_Mr_textFits { frames := 1, cells := 0, slots := 0, locals := 23 }).room s m args below meth c H locs 0 0 (MQ below (QcI D A g out.1 (fun (_ : Unit) => w_Mr g a0 out.2 ++ (w_Tr g a1 s1 ++ (w_Tr g a2 s2 ++ (rest))))) args s 0 0 A) (F0 m 143 ls [])) (fun k v ih hb ls H locs  hl hI hS => t_Mr_textFits_143 X hk63 (fun v' ls H locs  hl hI hS h' => ih v' h' ls H locs  hl hI hS) hl hI hS hb) FU _ h ls H locs  hl hI hS
set_option maxRecDepth 100000 in
set_option maxHeartbeats 4000000 in
theorem t_Mr_textFits_139 {p : Program} {l : Launch} {e : Env} {s : State} {m : MethodId} {args : Array Value} {below : List Frame} {meth : Method} {c : Code} {D : va_G} {A : Nat → Prop} {g : Nat → ClassId} {rest : va_W} {a0 : Nat → Nat} {a1 : Nat → Nat} {a2 : Nat → Nat} {ls : Array Slot} {H : Heap} {locs : List Loc} {k63 : S_Mr × Int32 × Int32 × Int32 × Int32 × Int32 → Option (Int32 × S_Mr)} {s1 : S_Tr} {s2 : S_Tr} {s0 : S_Mr} {x2 : Int32} {x4 : Int32} {x5 : Int32} {x6 : Int32} {x7 : Int32} {x8 : Int32} {out : Int32 × S_Mr} (X : Cx p s m args meth c prog_4_method_4_code 11 ws_Mr_textFits R_Mr (some .boolean) D g) (hk63 : ∀ (v : S_Mr × Int32 × Int32 × Int32 × Int32 × Int32) (ls : Array Slot) (H : Heap) (locs : List Loc), lv_has ls 11 [(0, .ref (a0 0)), (1, .ref (a1 0)), (2, .int v.2.1), (3, .ref (a2 0)), (4, .int v.2.2.1), (5, .int v.2.2.2.1), (6, .int v.2.2.2.2.1), (7, .int v.2.2.2.2.2)] → Iw D A (w_Mr g a0 v.1 ++ (w_Tr g a1 s1 ++ (w_Tr g a2 s2 ++ (rest)))) H → va_S A s.heap H locs → k63 v = some out → W p l e (headSpec ws_Mr_textFits { frames := 1, cells := 0, slots := 0, locals := 23 }).room s m args below meth c H locs 0 0 (MQ below (QcI D A g out.1 (fun (_ : Unit) => w_Mr g a0 out.2 ++ (w_Tr g a1 s1 ++ (w_Tr g a2 s2 ++ (rest))))) args s 0 0 A) (F0 m 63 ls [])) (hl : lv_has ls 11 [(0, .ref (a0 0)), (1, .ref (a1 0)), (2, .int x2), (3, .ref (a2 0)), (4, .int x4), (5, .int x5), (6, .int x6), (7, .int x7), (8, .int x8)]) (hI : Iw D A (w_Mr g a0 s0 ++ (w_Tr g a1 s1 ++ (w_Tr g a2 s2 ++ (rest)))) H) (hS : va_S A s.heap H locs) (h : B_Mr_textFits_139 k63 s1 s2 s0 x2 x4 x5 x6 x7 x8 = some out) : W p l e (headSpec ws_Mr_textFits { frames := 1, cells := 0, slots := 0, locals := 23 }).room s m args below meth c H locs 0 0 (MQ below (QcI D A g out.1 (fun (_ : Unit) => w_Mr g a0 out.2 ++ (w_Tr g a1 s1 ++ (w_Tr g a2 s2 ++ (rest))))) args s 0 0 A) (F0 m 139 ls []) := by
  have X1 := X
  obtain ⟨hx, hb, hml, hown, hts, hr, hlocks, hKK⟩ := X1
  have ht : ∀ w ∈ TB, w.before args s = true := fun w h => hts w (List.mem_cons_of_mem _ h)
  have hK := hKK.1
  unfold B_Mr_textFits_139 at h
  refine lv_iload hx hb d_Mr_textFits_139 (lv_at hl 6 rfl) ?_
  refine lv_istore hx hb d_Mr_textFits_141 hl (Nat.le_of_ble_eq_true rfl) rfl (fun ls hl => ?_)
  have hl : lv_has ls 11 [(9, .int x6), (0, .ref (a0 0)), (1, .ref (a1 0)), (2, .int x2), (3, .ref (a2 0)), (4, .int x4), (5, .int x5), (6, .int x6), (7, .int x7), (8, .int x8)] := hl
  exact T_Mr_textFits_143 X hk63 (lv_sub hl [1, 2, 3, 4, 5, 6, 7, 8, 9, 0] rfl) hI hS h
set_option maxRecDepth 100000 in
set_option maxHeartbeats 4000000 in
theorem t_Mr_textFits_136 {p : Program} {l : Launch} {e : Env} {s : State} {m : MethodId} {args : Array Value} {below : List Frame} {meth : Method} {c : Code} {D : va_G} {A : Nat → Prop} {g : Nat → ClassId} {rest : va_W} {a0 : Nat → Nat} {a1 : Nat → Nat} {a2 : Nat → Nat} {ls : Array Slot} {H : Heap} {locs : List Loc} {k63 : S_Mr × Int32 × Int32 × Int32 × Int32 × Int32 → Option (Int32 × S_Mr)} {s1 : S_Tr} {s2 : S_Tr} {s0 : S_Mr} {x2 : Int32} {x4 : Int32} {x5 : Int32} {x6 : Int32} {x7 : Int32} {out : Int32 × S_Mr} (X : Cx p s m args meth c prog_4_method_4_code 11 ws_Mr_textFits R_Mr (some .boolean) D g) (hk63 : ∀ (v : S_Mr × Int32 × Int32 × Int32 × Int32 × Int32) (ls : Array Slot) (H : Heap) (locs : List Loc), lv_has ls 11 [(0, .ref (a0 0)), (1, .ref (a1 0)), (2, .int v.2.1), (3, .ref (a2 0)), (4, .int v.2.2.1), (5, .int v.2.2.2.1), (6, .int v.2.2.2.2.1), (7, .int v.2.2.2.2.2)] → Iw D A (w_Mr g a0 v.1 ++ (w_Tr g a1 s1 ++ (w_Tr g a2 s2 ++ (rest)))) H → va_S A s.heap H locs → k63 v = some out → W p l e (headSpec ws_Mr_textFits { frames := 1, cells := 0, slots := 0, locals := 23 }).room s m args below meth c H locs 0 0 (MQ below (QcI D A g out.1 (fun (_ : Unit) => w_Mr g a0 out.2 ++ (w_Tr g a1 s1 ++ (w_Tr g a2 s2 ++ (rest))))) args s 0 0 A) (F0 m 63 ls [])) (hl : lv_has ls 11 [(0, .ref (a0 0)), (1, .ref (a1 0)), (2, .int x2), (3, .ref (a2 0)), (4, .int x4), (5, .int x5), (6, .int x6), (7, .int x7)]) (hI : Iw D A (w_Mr g a0 s0 ++ (w_Tr g a1 s1 ++ (w_Tr g a2 s2 ++ (rest)))) H) (hS : va_S A s.heap H locs) (h : B_Mr_textFits_136 k63 s1 s2 s0 x2 x4 x5 x6 x7 = some out) : W p l e (headSpec ws_Mr_textFits { frames := 1, cells := 0, slots := 0, locals := 23 }).room s m args below meth c H locs 0 0 (MQ below (QcI D A g out.1 (fun (_ : Unit) => w_Mr g a0 out.2 ++ (w_Tr g a1 s1 ++ (w_Tr g a2 s2 ++ (rest))))) args s 0 0 A) (F0 m 136 ls []) := by
  have X1 := X
  obtain ⟨hx, hb, hml, hown, hts, hr, hlocks, hKK⟩ := X1
  have ht : ∀ w ∈ TB, w.before args s = true := fun w h => hts w (List.mem_cons_of_mem _ h)
  have hK := hKK.1
  unfold B_Mr_textFits_136 at h
  refine lv_goto (tgt := 219) hx hb d_Mr_textFits_136 (by decide) ?_
  exact t_Mr_textFits_219 X hk63 (lv_sub hl [0, 1, 2, 3, 4, 5, 6, 7] rfl) hI hS h
set_option maxRecDepth 100000 in
set_option maxHeartbeats 4000000 in
theorem t_Mr_textFits_129 {p : Program} {l : Launch} {e : Env} {s : State} {m : MethodId} {args : Array Value} {below : List Frame} {meth : Method} {c : Code} {D : va_G} {A : Nat → Prop} {g : Nat → ClassId} {rest : va_W} {a0 : Nat → Nat} {a1 : Nat → Nat} {a2 : Nat → Nat} {ls : Array Slot} {H : Heap} {locs : List Loc} {k63 : S_Mr × Int32 × Int32 × Int32 × Int32 × Int32 → Option (Int32 × S_Mr)} {k89 : S_Mr × Int32 × Int32 × Int32 × Int32 × Int32 × Int32 → Option (Int32 × S_Mr)} {s1 : S_Tr} {s2 : S_Tr} {s0 : S_Mr} {x2 : Int32} {x4 : Int32} {x5 : Int32} {x6 : Int32} {x7 : Int32} {x9 : Int32} {y0 : Int32} {y1 : Int32} {out : Int32 × S_Mr} (X : Cx p s m args meth c prog_4_method_4_code 11 ws_Mr_textFits R_Mr (some .boolean) D g) (hk63 : ∀ (v : S_Mr × Int32 × Int32 × Int32 × Int32 × Int32) (ls : Array Slot) (H : Heap) (locs : List Loc), lv_has ls 11 [(0, .ref (a0 0)), (1, .ref (a1 0)), (2, .int v.2.1), (3, .ref (a2 0)), (4, .int v.2.2.1), (5, .int v.2.2.2.1), (6, .int v.2.2.2.2.1), (7, .int v.2.2.2.2.2)] → Iw D A (w_Mr g a0 v.1 ++ (w_Tr g a1 s1 ++ (w_Tr g a2 s2 ++ (rest)))) H → va_S A s.heap H locs → k63 v = some out → W p l e (headSpec ws_Mr_textFits { frames := 1, cells := 0, slots := 0, locals := 23 }).room s m args below meth c H locs 0 0 (MQ below (QcI D A g out.1 (fun (_ : Unit) => w_Mr g a0 out.2 ++ (w_Tr g a1 s1 ++ (w_Tr g a2 s2 ++ (rest))))) args s 0 0 A) (F0 m 63 ls [])) (hk89 : ∀ (v : S_Mr × Int32 × Int32 × Int32 × Int32 × Int32 × Int32) (ls : Array Slot) (H : Heap) (locs : List Loc), lv_has ls 11 [(0, .ref (a0 0)), (1, .ref (a1 0)), (2, .int v.2.1), (3, .ref (a2 0)), (4, .int v.2.2.1), (5, .int v.2.2.2.1), (6, .int v.2.2.2.2.1), (7, .int v.2.2.2.2.2.1), (9, .int v.2.2.2.2.2.2)] → Iw D A (w_Mr g a0 v.1 ++ (w_Tr g a1 s1 ++ (w_Tr g a2 s2 ++ (rest)))) H → va_S A s.heap H locs → k89 v = some out → W p l e (headSpec ws_Mr_textFits { frames := 1, cells := 0, slots := 0, locals := 23 }).room s m args below meth c H locs 0 0 (MQ below (QcI D A g out.1 (fun (_ : Unit) => w_Mr g a0 out.2 ++ (w_Tr g a1 s1 ++ (w_Tr g a2 s2 ++ (rest))))) args s 0 0 A) (F0 m 89 ls [])) (hl : lv_has ls 11 [(0, .ref (a0 0)), (1, .ref (a1 0)), (2, .int x2), (3, .ref (a2 0)), (4, .int x4), (5, .int x5), (6, .int x6), (7, .int x7), (9, .int x9)]) (hI : Iw D A (w_Mr g a0 s0 ++ (w_Tr g a1 s1 ++ (w_Tr g a2 s2 ++ (rest)))) H) (hS : va_S A s.heap H locs) (h : B_Mr_textFits_129 k63 k89 s1 s2 s0 x2 x4 x5 x6 x7 x9 y0 y1 = some out) : W p l e (headSpec ws_Mr_textFits { frames := 1, cells := 0, slots := 0, locals := 23 }).room s m args below meth c H locs 0 0 (MQ below (QcI D A g out.1 (fun (_ : Unit) => w_Mr g a0 out.2 ++ (w_Tr g a1 s1 ++ (w_Tr g a2 s2 ++ (rest))))) args s 0 0 A) (F0 m 129 ls [.int y0, .int y1, .ref (a0 1)]) := by
  have X1 := X
  obtain ⟨hx, hb, hml, hown, hts, hr, hlocks, hKK⟩ := X1
  have ht : ∀ w ∈ TB, w.before args s = true := fun w h => hts w (List.mem_cons_of_mem _ h)
  have hK := hKK.1
  unfold B_Mr_textFits_129 at h
  by_cases hc1 : (y1 < 0 ∨ 17 ≤ y1.toNatClampNeg)
  · exact no_s (it_t h hc1)
  have h := it_f h hc1
  refine va_zast hx hb hK hI.1 hI.2 hS 1 1 rfl rfl hc1 d_Mr_textFits_129 (fun H locs hP hD hS => ?_)
  have hI : Iw D A (w_Mr g a0 (Mr_set_reach s0 (upd (Mr_reach s0) y1.toNatClampNeg (vp_nar .boolean y0))) ++ (w_Tr g a1 s1 ++ (w_Tr g a2 s2 ++ (rest)))) H := ⟨hP, hD⟩
  refine lv_iinc (k := 8) (v := (x9 + 1)) hx hb d_Mr_textFits_130 hl rfl (congrArg (fun z => x9 + z) (by decide)) (Nat.le_of_ble_eq_true rfl) rfl (fun ls hl => ?_)
  have hl : lv_has ls 11 [(9, .int (x9 + 1)), (0, .ref (a0 0)), (1, .ref (a1 0)), (2, .int x2), (3, .ref (a2 0)), (4, .int x4), (5, .int x5), (6, .int x6), (7, .int x7)] := hl
  refine lv_goto (tgt := 89) hx hb d_Mr_textFits_133 (by decide) ?_
  exact hk89 ((Mr_set_reach s0 (upd (Mr_reach s0) y1.toNatClampNeg (vp_nar .boolean y0))), x2, x4, x5, x6, x7, (x9 + 1)) _ _ _ (lv_sub hl [1, 2, 3, 4, 5, 6, 7, 8, 0] rfl) hI hS h
set_option maxRecDepth 100000 in
set_option maxHeartbeats 4000000 in
theorem t_Mr_textFits_124 {p : Program} {l : Launch} {e : Env} {s : State} {m : MethodId} {args : Array Value} {below : List Frame} {meth : Method} {c : Code} {D : va_G} {A : Nat → Prop} {g : Nat → ClassId} {rest : va_W} {a0 : Nat → Nat} {a1 : Nat → Nat} {a2 : Nat → Nat} {ls : Array Slot} {H : Heap} {locs : List Loc} {k63 : S_Mr × Int32 × Int32 × Int32 × Int32 × Int32 → Option (Int32 × S_Mr)} {k89 : S_Mr × Int32 × Int32 × Int32 × Int32 × Int32 × Int32 → Option (Int32 × S_Mr)} {s1 : S_Tr} {s2 : S_Tr} {s0 : S_Mr} {x2 : Int32} {x4 : Int32} {x5 : Int32} {x6 : Int32} {x7 : Int32} {x9 : Int32} {y0 : Int32} {out : Int32 × S_Mr} (X : Cx p s m args meth c prog_4_method_4_code 11 ws_Mr_textFits R_Mr (some .boolean) D g) (hk63 : ∀ (v : S_Mr × Int32 × Int32 × Int32 × Int32 × Int32) (ls : Array Slot) (H : Heap) (locs : List Loc), lv_has ls 11 [(0, .ref (a0 0)), (1, .ref (a1 0)), (2, .int v.2.1), (3, .ref (a2 0)), (4, .int v.2.2.1), (5, .int v.2.2.2.1), (6, .int v.2.2.2.2.1), (7, .int v.2.2.2.2.2)] → Iw D A (w_Mr g a0 v.1 ++ (w_Tr g a1 s1 ++ (w_Tr g a2 s2 ++ (rest)))) H → va_S A s.heap H locs → k63 v = some out → W p l e (headSpec ws_Mr_textFits { frames := 1, cells := 0, slots := 0, locals := 23 }).room s m args below meth c H locs 0 0 (MQ below (QcI D A g out.1 (fun (_ : Unit) => w_Mr g a0 out.2 ++ (w_Tr g a1 s1 ++ (w_Tr g a2 s2 ++ (rest))))) args s 0 0 A) (F0 m 63 ls [])) (hk89 : ∀ (v : S_Mr × Int32 × Int32 × Int32 × Int32 × Int32 × Int32) (ls : Array Slot) (H : Heap) (locs : List Loc), lv_has ls 11 [(0, .ref (a0 0)), (1, .ref (a1 0)), (2, .int v.2.1), (3, .ref (a2 0)), (4, .int v.2.2.1), (5, .int v.2.2.2.1), (6, .int v.2.2.2.2.1), (7, .int v.2.2.2.2.2.1), (9, .int v.2.2.2.2.2.2)] → Iw D A (w_Mr g a0 v.1 ++ (w_Tr g a1 s1 ++ (w_Tr g a2 s2 ++ (rest)))) H → va_S A s.heap H locs → k89 v = some out → W p l e (headSpec ws_Mr_textFits { frames := 1, cells := 0, slots := 0, locals := 23 }).room s m args below meth c H locs 0 0 (MQ below (QcI D A g out.1 (fun (_ : Unit) => w_Mr g a0 out.2 ++ (w_Tr g a1 s1 ++ (w_Tr g a2 s2 ++ (rest))))) args s 0 0 A) (F0 m 89 ls [])) (hl : lv_has ls 11 [(0, .ref (a0 0)), (1, .ref (a1 0)), (2, .int x2), (3, .ref (a2 0)), (4, .int x4), (5, .int x5), (6, .int x6), (7, .int x7), (9, .int x9)]) (hI : Iw D A (w_Mr g a0 s0 ++ (w_Tr g a1 s1 ++ (w_Tr g a2 s2 ++ (rest)))) H) (hS : va_S A s.heap H locs) (h : B_Mr_textFits_124 k63 k89 s1 s2 s0 x2 x4 x5 x6 x7 x9 y0 = some out) : W p l e (headSpec ws_Mr_textFits { frames := 1, cells := 0, slots := 0, locals := 23 }).room s m args below meth c H locs 0 0 (MQ below (QcI D A g out.1 (fun (_ : Unit) => w_Mr g a0 out.2 ++ (w_Tr g a1 s1 ++ (w_Tr g a2 s2 ++ (rest))))) args s 0 0 A) (F0 m 124 ls [.int y0, .ref (a0 1)]) := by
  have X1 := X
  obtain ⟨hx, hb, hml, hown, hts, hr, hlocks, hKK⟩ := X1
  have ht : ∀ w ∈ TB, w.before args s = true := fun w h => hts w (List.mem_cons_of_mem _ h)
  have hK := hKK.1
  unfold B_Mr_textFits_124 at h
  refine lv_iconst (v := 1) hx hb d_Mr_textFits_124 (by decide) ?_
  refine lv_goto (tgt := 129) hx hb d_Mr_textFits_125 (by decide) ?_
  exact t_Mr_textFits_129 X hk63 hk89 (lv_sub hl [0, 1, 2, 3, 4, 5, 6, 7, 8] rfl) hI hS h
set_option maxRecDepth 100000 in
set_option maxHeartbeats 4000000 in
theorem t_Mr_textFits_128 {p : Program} {l : Launch} {e : Env} {s : State} {m : MethodId} {args : Array Value} {below : List Frame} {meth : Method} {c : Code} {D : va_G} {A : Nat → Prop} {g : Nat → ClassId} {rest : va_W} {a0 : Nat → Nat} {a1 : Nat → Nat} {a2 : Nat → Nat} {ls : Array Slot} {H : Heap} {locs : List Loc} {k63 : S_Mr × Int32 × Int32 × Int32 × Int32 × Int32 → Option (Int32 × S_Mr)} {k89 : S_Mr × Int32 × Int32 × Int32 × Int32 × Int32 × Int32 → Option (Int32 × S_Mr)} {s1 : S_Tr} {s2 : S_Tr} {s0 : S_Mr} {x2 : Int32} {x4 : Int32} {x5 : Int32} {x6 : Int32} {x7 : Int32} {x9 : Int32} {y0 : Int32} {out : Int32 × S_Mr} (X : Cx p s m args meth c prog_4_method_4_code 11 ws_Mr_textFits R_Mr (some .boolean) D g) (hk63 : ∀ (v : S_Mr × Int32 × Int32 × Int32 × Int32 × Int32) (ls : Array Slot) (H : Heap) (locs : List Loc), lv_has ls 11 [(0, .ref (a0 0)), (1, .ref (a1 0)), (2, .int v.2.1), (3, .ref (a2 0)), (4, .int v.2.2.1), (5, .int v.2.2.2.1), (6, .int v.2.2.2.2.1), (7, .int v.2.2.2.2.2)] → Iw D A (w_Mr g a0 v.1 ++ (w_Tr g a1 s1 ++ (w_Tr g a2 s2 ++ (rest)))) H → va_S A s.heap H locs → k63 v = some out → W p l e (headSpec ws_Mr_textFits { frames := 1, cells := 0, slots := 0, locals := 23 }).room s m args below meth c H locs 0 0 (MQ below (QcI D A g out.1 (fun (_ : Unit) => w_Mr g a0 out.2 ++ (w_Tr g a1 s1 ++ (w_Tr g a2 s2 ++ (rest))))) args s 0 0 A) (F0 m 63 ls [])) (hk89 : ∀ (v : S_Mr × Int32 × Int32 × Int32 × Int32 × Int32 × Int32) (ls : Array Slot) (H : Heap) (locs : List Loc), lv_has ls 11 [(0, .ref (a0 0)), (1, .ref (a1 0)), (2, .int v.2.1), (3, .ref (a2 0)), (4, .int v.2.2.1), (5, .int v.2.2.2.1), (6, .int v.2.2.2.2.1), (7, .int v.2.2.2.2.2.1), (9, .int v.2.2.2.2.2.2)] → Iw D A (w_Mr g a0 v.1 ++ (w_Tr g a1 s1 ++ (w_Tr g a2 s2 ++ (rest)))) H → va_S A s.heap H locs → k89 v = some out → W p l e (headSpec ws_Mr_textFits { frames := 1, cells := 0, slots := 0, locals := 23 }).room s m args below meth c H locs 0 0 (MQ below (QcI D A g out.1 (fun (_ : Unit) => w_Mr g a0 out.2 ++ (w_Tr g a1 s1 ++ (w_Tr g a2 s2 ++ (rest))))) args s 0 0 A) (F0 m 89 ls [])) (hl : lv_has ls 11 [(0, .ref (a0 0)), (1, .ref (a1 0)), (2, .int x2), (3, .ref (a2 0)), (4, .int x4), (5, .int x5), (6, .int x6), (7, .int x7), (9, .int x9)]) (hI : Iw D A (w_Mr g a0 s0 ++ (w_Tr g a1 s1 ++ (w_Tr g a2 s2 ++ (rest)))) H) (hS : va_S A s.heap H locs) (h : B_Mr_textFits_128 k63 k89 s1 s2 s0 x2 x4 x5 x6 x7 x9 y0 = some out) : W p l e (headSpec ws_Mr_textFits { frames := 1, cells := 0, slots := 0, locals := 23 }).room s m args below meth c H locs 0 0 (MQ below (QcI D A g out.1 (fun (_ : Unit) => w_Mr g a0 out.2 ++ (w_Tr g a1 s1 ++ (w_Tr g a2 s2 ++ (rest))))) args s 0 0 A) (F0 m 128 ls [.int y0, .ref (a0 1)]) := by
  have X1 := X
  obtain ⟨hx, hb, hml, hown, hts, hr, hlocks, hKK⟩ := X1
  have ht : ∀ w ∈ TB, w.before args s = true := fun w h => hts w (List.mem_cons_of_mem _ h)
  have hK := hKK.1
  unfold B_Mr_textFits_128 at h
  refine lv_iconst (v := 0) hx hb d_Mr_textFits_128 (by decide) ?_
  exact t_Mr_textFits_129 X hk63 hk89 (lv_sub hl [0, 1, 2, 3, 4, 5, 6, 7, 8] rfl) hI hS h
set_option maxRecDepth 100000 in
set_option maxHeartbeats 4000000 in
theorem t_Mr_textFits_112 {p : Program} {l : Launch} {e : Env} {s : State} {m : MethodId} {args : Array Value} {below : List Frame} {meth : Method} {c : Code} {D : va_G} {A : Nat → Prop} {g : Nat → ClassId} {rest : va_W} {a0 : Nat → Nat} {a1 : Nat → Nat} {a2 : Nat → Nat} {ls : Array Slot} {H : Heap} {locs : List Loc} {k63 : S_Mr × Int32 × Int32 × Int32 × Int32 × Int32 → Option (Int32 × S_Mr)} {k89 : S_Mr × Int32 × Int32 × Int32 × Int32 × Int32 × Int32 → Option (Int32 × S_Mr)} {s1 : S_Tr} {s2 : S_Tr} {s0 : S_Mr} {x2 : Int32} {x4 : Int32} {x5 : Int32} {x6 : Int32} {x7 : Int32} {x9 : Int32} {y0 : Int32} {out : Int32 × S_Mr} (X : Cx p s m args meth c prog_4_method_4_code 11 ws_Mr_textFits R_Mr (some .boolean) D g) (hk63 : ∀ (v : S_Mr × Int32 × Int32 × Int32 × Int32 × Int32) (ls : Array Slot) (H : Heap) (locs : List Loc), lv_has ls 11 [(0, .ref (a0 0)), (1, .ref (a1 0)), (2, .int v.2.1), (3, .ref (a2 0)), (4, .int v.2.2.1), (5, .int v.2.2.2.1), (6, .int v.2.2.2.2.1), (7, .int v.2.2.2.2.2)] → Iw D A (w_Mr g a0 v.1 ++ (w_Tr g a1 s1 ++ (w_Tr g a2 s2 ++ (rest)))) H → va_S A s.heap H locs → k63 v = some out → W p l e (headSpec ws_Mr_textFits { frames := 1, cells := 0, slots := 0, locals := 23 }).room s m args below meth c H locs 0 0 (MQ below (QcI D A g out.1 (fun (_ : Unit) => w_Mr g a0 out.2 ++ (w_Tr g a1 s1 ++ (w_Tr g a2 s2 ++ (rest))))) args s 0 0 A) (F0 m 63 ls [])) (hk89 : ∀ (v : S_Mr × Int32 × Int32 × Int32 × Int32 × Int32 × Int32) (ls : Array Slot) (H : Heap) (locs : List Loc), lv_has ls 11 [(0, .ref (a0 0)), (1, .ref (a1 0)), (2, .int v.2.1), (3, .ref (a2 0)), (4, .int v.2.2.1), (5, .int v.2.2.2.1), (6, .int v.2.2.2.2.1), (7, .int v.2.2.2.2.2.1), (9, .int v.2.2.2.2.2.2)] → Iw D A (w_Mr g a0 v.1 ++ (w_Tr g a1 s1 ++ (w_Tr g a2 s2 ++ (rest)))) H → va_S A s.heap H locs → k89 v = some out → W p l e (headSpec ws_Mr_textFits { frames := 1, cells := 0, slots := 0, locals := 23 }).room s m args below meth c H locs 0 0 (MQ below (QcI D A g out.1 (fun (_ : Unit) => w_Mr g a0 out.2 ++ (w_Tr g a1 s1 ++ (w_Tr g a2 s2 ++ (rest))))) args s 0 0 A) (F0 m 89 ls [])) (hl : lv_has ls 11 [(0, .ref (a0 0)), (1, .ref (a1 0)), (2, .int x2), (3, .ref (a2 0)), (4, .int x4), (5, .int x5), (6, .int x6), (7, .int x7), (9, .int x9)]) (hI : Iw D A (w_Mr g a0 s0 ++ (w_Tr g a1 s1 ++ (w_Tr g a2 s2 ++ (rest)))) H) (hS : va_S A s.heap H locs) (h : B_Mr_textFits_112 k63 k89 s1 s2 s0 x2 x4 x5 x6 x7 x9 y0 = some out) : W p l e (headSpec ws_Mr_textFits { frames := 1, cells := 0, slots := 0, locals := 23 }).room s m args below meth c H locs 0 0 (MQ below (QcI D A g out.1 (fun (_ : Unit) => w_Mr g a0 out.2 ++ (w_Tr g a1 s1 ++ (w_Tr g a2 s2 ++ (rest))))) args s 0 0 A) (F0 m 112 ls [.int y0, .ref (a0 1)]) := by
  have X1 := X
  obtain ⟨hx, hb, hml, hown, hts, hr, hlocks, hKK⟩ := X1
  have ht : ∀ w ∈ TB, w.before args s = true := fun w h => hts w (List.mem_cons_of_mem _ h)
  have hK := hKK.1
  unfold B_Mr_textFits_112 at h
  refine lv_aload_n hx hb d_Mr_textFits_112 rfl (lv_at hl 0 rfl) ?_
  refine va_get (D := D) (ci := 2) (v := .ref (a0 1)) (C := R_Mr) (T := T_Mr) (N := 1) hx hb ht in_Mr hown hK hI.1 0 rfl rfl 0 (by decide) (ht _ m_199) (fun _ h9 => h9) rfl d_Mr_textFits_113 ?_
  refine lv_iload hx hb d_Mr_textFits_116 (lv_at hl 8 rfl) ?_
  refine lv_iconst (v := 1) hx hb d_Mr_textFits_118 (by decide) ?_
  refine lv_isub hx hb d_Mr_textFits_119 ?_
  by_cases hc1 : ((x9 - (1 : Int32)) < 0 ∨ 17 ≤ (x9 - (1 : Int32)).toNatClampNeg)
  · exact no_s (it_t h hc1)
  have h := it_f h hc1
  refine va_zald hx hb hK hI.1 1 1 rfl rfl hc1 d_Mr_textFits_120 ?_
  refine lv_if_eq (tgt := 128) hx hb d_Mr_textFits_121 (by decide) (fun hc => ?_) (fun hc => ?_)
  · have h := it_t h hc
    exact t_Mr_textFits_128 X hk63 hk89 (lv_sub hl [0, 1, 2, 3, 4, 5, 6, 7, 8] rfl) hI hS h
  · have h := it_f h hc
    exact t_Mr_textFits_124 X hk63 hk89 (lv_sub hl [0, 1, 2, 3, 4, 5, 6, 7, 8] rfl) hI hS h
set_option maxRecDepth 100000 in
set_option maxHeartbeats 4000000 in
theorem t_Mr_textFits_96 {p : Program} {l : Launch} {e : Env} {s : State} {m : MethodId} {args : Array Value} {below : List Frame} {meth : Method} {c : Code} {D : va_G} {A : Nat → Prop} {g : Nat → ClassId} {rest : va_W} {a0 : Nat → Nat} {a1 : Nat → Nat} {a2 : Nat → Nat} {ls : Array Slot} {H : Heap} {locs : List Loc} {k63 : S_Mr × Int32 × Int32 × Int32 × Int32 × Int32 → Option (Int32 × S_Mr)} {k89 : S_Mr × Int32 × Int32 × Int32 × Int32 × Int32 × Int32 → Option (Int32 × S_Mr)} {s1 : S_Tr} {s2 : S_Tr} {s0 : S_Mr} {x2 : Int32} {x4 : Int32} {x5 : Int32} {x6 : Int32} {x7 : Int32} {x9 : Int32} {out : Int32 × S_Mr} (X : Cx p s m args meth c prog_4_method_4_code 11 ws_Mr_textFits R_Mr (some .boolean) D g) (hk63 : ∀ (v : S_Mr × Int32 × Int32 × Int32 × Int32 × Int32) (ls : Array Slot) (H : Heap) (locs : List Loc), lv_has ls 11 [(0, .ref (a0 0)), (1, .ref (a1 0)), (2, .int v.2.1), (3, .ref (a2 0)), (4, .int v.2.2.1), (5, .int v.2.2.2.1), (6, .int v.2.2.2.2.1), (7, .int v.2.2.2.2.2)] → Iw D A (w_Mr g a0 v.1 ++ (w_Tr g a1 s1 ++ (w_Tr g a2 s2 ++ (rest)))) H → va_S A s.heap H locs → k63 v = some out → W p l e (headSpec ws_Mr_textFits { frames := 1, cells := 0, slots := 0, locals := 23 }).room s m args below meth c H locs 0 0 (MQ below (QcI D A g out.1 (fun (_ : Unit) => w_Mr g a0 out.2 ++ (w_Tr g a1 s1 ++ (w_Tr g a2 s2 ++ (rest))))) args s 0 0 A) (F0 m 63 ls [])) (hk89 : ∀ (v : S_Mr × Int32 × Int32 × Int32 × Int32 × Int32 × Int32) (ls : Array Slot) (H : Heap) (locs : List Loc), lv_has ls 11 [(0, .ref (a0 0)), (1, .ref (a1 0)), (2, .int v.2.1), (3, .ref (a2 0)), (4, .int v.2.2.1), (5, .int v.2.2.2.1), (6, .int v.2.2.2.2.1), (7, .int v.2.2.2.2.2.1), (9, .int v.2.2.2.2.2.2)] → Iw D A (w_Mr g a0 v.1 ++ (w_Tr g a1 s1 ++ (w_Tr g a2 s2 ++ (rest)))) H → va_S A s.heap H locs → k89 v = some out → W p l e (headSpec ws_Mr_textFits { frames := 1, cells := 0, slots := 0, locals := 23 }).room s m args below meth c H locs 0 0 (MQ below (QcI D A g out.1 (fun (_ : Unit) => w_Mr g a0 out.2 ++ (w_Tr g a1 s1 ++ (w_Tr g a2 s2 ++ (rest))))) args s 0 0 A) (F0 m 89 ls [])) (hl : lv_has ls 11 [(0, .ref (a0 0)), (1, .ref (a1 0)), (2, .int x2), (3, .ref (a2 0)), (4, .int x4), (5, .int x5), (6, .int x6), (7, .int x7), (9, .int x9)]) (hI : Iw D A (w_Mr g a0 s0 ++ (w_Tr g a1 s1 ++ (w_Tr g a2 s2 ++ (rest)))) H) (hS : va_S A s.heap H locs) (h : B_Mr_textFits_96 k63 k89 s1 s2 s0 x2 x4 x5 x6 x7 x9 = some out) : W p l e (headSpec ws_Mr_textFits { frames := 1, cells := 0, slots := 0, locals := 23 }).room s m args below meth c H locs 0 0 (MQ below (QcI D A g out.1 (fun (_ : Unit) => w_Mr g a0 out.2 ++ (w_Tr g a1 s1 ++ (w_Tr g a2 s2 ++ (rest))))) args s 0 0 A) (F0 m 96 ls []) := by
  have X1 := X
  obtain ⟨hx, hb, hml, hown, hts, hr, hlocks, hKK⟩ := X1
  have ht : ∀ w ∈ TB, w.before args s = true := fun w h => hts w (List.mem_cons_of_mem _ h)
  have hK := hKK.1
  unfold B_Mr_textFits_96 at h
  refine lv_aload_n hx hb d_Mr_textFits_96 rfl (lv_at hl 0 rfl) ?_
  refine va_get (D := D) (ci := 2) (v := .ref (a0 1)) (C := R_Mr) (T := T_Mr) (N := 1) hx hb ht in_Mr hown hK hI.1 0 rfl rfl 0 (by decide) (ht _ m_199) (fun _ h9 => h9) rfl d_Mr_textFits_97 ?_
  refine lv_iload hx hb d_Mr_textFits_100 (lv_at hl 8 rfl) ?_
  refine lv_aload_n hx hb d_Mr_textFits_102 rfl (lv_at hl 0 rfl) ?_
  refine va_get (D := D) (ci := 2) (v := .ref (a0 1)) (C := R_Mr) (T := T_Mr) (N := 1) hx hb ht in_Mr hown hK hI.1 0 rfl rfl 0 (by decide) (ht _ m_199) (fun _ h9 => h9) rfl d_Mr_textFits_103 ?_
  refine lv_iload hx hb d_Mr_textFits_106 (lv_at hl 8 rfl) ?_
  by_cases hc1 : (x9 < 0 ∨ 17 ≤ x9.toNatClampNeg)
  · exact no_s (it_t h hc1)
  have h := it_f h hc1
  refine va_zald hx hb hK hI.1 1 1 rfl rfl hc1 d_Mr_textFits_108 ?_
  refine lv_if_ne (tgt := 124) hx hb d_Mr_textFits_109 (by decide) (fun hc => ?_) (fun hc => ?_)
  · have h := it_f h hc
    exact t_Mr_textFits_124 X hk63 hk89 (lv_sub hl [0, 1, 2, 3, 4, 5, 6, 7, 8] rfl) hI hS h
  · have h := it_t h hc
    exact t_Mr_textFits_112 X hk63 hk89 (lv_sub hl [0, 1, 2, 3, 4, 5, 6, 7, 8] rfl) hI hS h
set_option maxRecDepth 100000 in
set_option maxHeartbeats 4000000 in
theorem t_Mr_textFits_89 {p : Program} {l : Launch} {e : Env} {s : State} {m : MethodId} {args : Array Value} {below : List Frame} {meth : Method} {c : Code} {D : va_G} {A : Nat → Prop} {g : Nat → ClassId} {rest : va_W} {a0 : Nat → Nat} {a1 : Nat → Nat} {a2 : Nat → Nat} {ls : Array Slot} {H : Heap} {locs : List Loc} {k63 : S_Mr × Int32 × Int32 × Int32 × Int32 × Int32 → Option (Int32 × S_Mr)} {k89 : S_Mr × Int32 × Int32 × Int32 × Int32 × Int32 × Int32 → Option (Int32 × S_Mr)} {s1 : S_Tr} {s2 : S_Tr} {s0 : S_Mr} {x2 : Int32} {x4 : Int32} {x5 : Int32} {x6 : Int32} {x7 : Int32} {x9 : Int32} {out : Int32 × S_Mr} (X : Cx p s m args meth c prog_4_method_4_code 11 ws_Mr_textFits R_Mr (some .boolean) D g) (hk63 : ∀ (v : S_Mr × Int32 × Int32 × Int32 × Int32 × Int32) (ls : Array Slot) (H : Heap) (locs : List Loc), lv_has ls 11 [(0, .ref (a0 0)), (1, .ref (a1 0)), (2, .int v.2.1), (3, .ref (a2 0)), (4, .int v.2.2.1), (5, .int v.2.2.2.1), (6, .int v.2.2.2.2.1), (7, .int v.2.2.2.2.2)] → Iw D A (w_Mr g a0 v.1 ++ (w_Tr g a1 s1 ++ (w_Tr g a2 s2 ++ (rest)))) H → va_S A s.heap H locs → k63 v = some out → W p l e (headSpec ws_Mr_textFits { frames := 1, cells := 0, slots := 0, locals := 23 }).room s m args below meth c H locs 0 0 (MQ below (QcI D A g out.1 (fun (_ : Unit) => w_Mr g a0 out.2 ++ (w_Tr g a1 s1 ++ (w_Tr g a2 s2 ++ (rest))))) args s 0 0 A) (F0 m 63 ls [])) (hk89 : ∀ (v : S_Mr × Int32 × Int32 × Int32 × Int32 × Int32 × Int32) (ls : Array Slot) (H : Heap) (locs : List Loc), lv_has ls 11 [(0, .ref (a0 0)), (1, .ref (a1 0)), (2, .int v.2.1), (3, .ref (a2 0)), (4, .int v.2.2.1), (5, .int v.2.2.2.1), (6, .int v.2.2.2.2.1), (7, .int v.2.2.2.2.2.1), (9, .int v.2.2.2.2.2.2)] → Iw D A (w_Mr g a0 v.1 ++ (w_Tr g a1 s1 ++ (w_Tr g a2 s2 ++ (rest)))) H → va_S A s.heap H locs → k89 v = some out → W p l e (headSpec ws_Mr_textFits { frames := 1, cells := 0, slots := 0, locals := 23 }).room s m args below meth c H locs 0 0 (MQ below (QcI D A g out.1 (fun (_ : Unit) => w_Mr g a0 out.2 ++ (w_Tr g a1 s1 ++ (w_Tr g a2 s2 ++ (rest))))) args s 0 0 A) (F0 m 89 ls [])) (hl : lv_has ls 11 [(0, .ref (a0 0)), (1, .ref (a1 0)), (2, .int x2), (3, .ref (a2 0)), (4, .int x4), (5, .int x5), (6, .int x6), (7, .int x7), (9, .int x9)]) (hI : Iw D A (w_Mr g a0 s0 ++ (w_Tr g a1 s1 ++ (w_Tr g a2 s2 ++ (rest)))) H) (hS : va_S A s.heap H locs) (h : B_Mr_textFits_89 k63 k89 s1 s2 s0 x2 x4 x5 x6 x7 x9 = some out) : W p l e (headSpec ws_Mr_textFits { frames := 1, cells := 0, slots := 0, locals := 23 }).room s m args below meth c H locs 0 0 (MQ below (QcI D A g out.1 (fun (_ : Unit) => w_Mr g a0 out.2 ++ (w_Tr g a1 s1 ++ (w_Tr g a2 s2 ++ (rest))))) args s 0 0 A) (F0 m 89 ls []) := by
  have X1 := X
  obtain ⟨hx, hb, hml, hown, hts, hr, hlocks, hKK⟩ := X1
  have ht : ∀ w ∈ TB, w.before args s = true := fun w h => hts w (List.mem_cons_of_mem _ h)
  have hK := hKK.1
  unfold B_Mr_textFits_89 at h
  refine lv_iload hx hb d_Mr_textFits_89 (lv_at hl 8 rfl) ?_
  refine lv_iload hx hb d_Mr_textFits_91 (lv_at hl 6 rfl) ?_
  refine lv_icmp_gt (tgt := 136) hx hb d_Mr_textFits_93 (by decide) (fun hc => ?_) (fun hc => ?_)
  · have h := it_t h hc
    exact t_Mr_textFits_136 X hk63 (lv_sub hl [0, 1, 2, 3, 4, 5, 6, 7] rfl) hI hS h
  · have h := it_f h hc
    exact t_Mr_textFits_96 X hk63 hk89 (lv_sub hl [0, 1, 2, 3, 4, 5, 6, 7, 8] rfl) hI hS h
set_option maxRecDepth 100000 in
set_option maxHeartbeats 4000000 in
theorem T_Mr_textFits_89 {p : Program} {l : Launch} {e : Env} {s : State} {m : MethodId} {args : Array Value} {below : List Frame} {meth : Method} {c : Code} {D : va_G} {A : Nat → Prop} {g : Nat → ClassId} {rest : va_W} {a0 : Nat → Nat} {a1 : Nat → Nat} {a2 : Nat → Nat} {ls : Array Slot} {H : Heap} {locs : List Loc} {k63 : S_Mr × Int32 × Int32 × Int32 × Int32 × Int32 → Option (Int32 × S_Mr)} {s1 : S_Tr} {s2 : S_Tr} {s0 : S_Mr} {x2 : Int32} {x4 : Int32} {x5 : Int32} {x6 : Int32} {x7 : Int32} {x9 : Int32} {out : Int32 × S_Mr} (X : Cx p s m args meth c prog_4_method_4_code 11 ws_Mr_textFits R_Mr (some .boolean) D g) (hk63 : ∀ (v : S_Mr × Int32 × Int32 × Int32 × Int32 × Int32) (ls : Array Slot) (H : Heap) (locs : List Loc), lv_has ls 11 [(0, .ref (a0 0)), (1, .ref (a1 0)), (2, .int v.2.1), (3, .ref (a2 0)), (4, .int v.2.2.1), (5, .int v.2.2.2.1), (6, .int v.2.2.2.2.1), (7, .int v.2.2.2.2.2)] → Iw D A (w_Mr g a0 v.1 ++ (w_Tr g a1 s1 ++ (w_Tr g a2 s2 ++ (rest)))) H → va_S A s.heap H locs → k63 v = some out → W p l e (headSpec ws_Mr_textFits { frames := 1, cells := 0, slots := 0, locals := 23 }).room s m args below meth c H locs 0 0 (MQ below (QcI D A g out.1 (fun (_ : Unit) => w_Mr g a0 out.2 ++ (w_Tr g a1 s1 ++ (w_Tr g a2 s2 ++ (rest))))) args s 0 0 A) (F0 m 63 ls [])) (hl : lv_has ls 11 [(0, .ref (a0 0)), (1, .ref (a1 0)), (2, .int x2), (3, .ref (a2 0)), (4, .int x4), (5, .int x5), (6, .int x6), (7, .int x7), (9, .int x9)]) (hI : Iw D A (w_Mr g a0 s0 ++ (w_Tr g a1 s1 ++ (w_Tr g a2 s2 ++ (rest)))) H) (hS : va_S A s.heap H locs) (h : L_Mr_textFits_89 k63 s1 s2 (s0, x2, x4, x5, x6, x7, x9) = some out) : W p l e (headSpec ws_Mr_textFits { frames := 1, cells := 0, slots := 0, locals := 23 }).room s m args below meth c H locs 0 0 (MQ below (QcI D A g out.1 (fun (_ : Unit) => w_Mr g a0 out.2 ++ (w_Tr g a1 s1 ++ (w_Tr g a2 s2 ++ (rest))))) args s 0 0 A) (F0 m 89 ls []) := by
  unfold L_Mr_textFits_89 at h
  exact lp_ind (P := fun v => ∀ (ls : Array Slot) (H : Heap) (locs : List Loc), lv_has ls 11 [(0, .ref (a0 0)), (1, .ref (a1 0)), (2, .int v.2.1), (3, .ref (a2 0)), (4, .int v.2.2.1), (5, .int v.2.2.2.1), (6, .int v.2.2.2.2.1), (7, .int v.2.2.2.2.2.1), (9, .int v.2.2.2.2.2.2)] → Iw D A (w_Mr g a0 v.1 ++ (w_Tr g a1 s1 ++ (w_Tr g a2 s2 ++ (rest)))) H → va_S A s.heap H locs → W p l e (headSpec ws_Mr_textFits { frames := 1, cells := 0, slots := 0, locals := 23 }).room s m args below meth c H locs 0 0 (MQ below (QcI D A g out.1 (fun (_ : Unit) => w_Mr g a0 out.2 ++ (w_Tr g a1 s1 ++ (w_Tr g a2 s2 ++ (rest))))) args s 0 0 A) (F0 m 89 ls [])) (fun k v ih hb ls H locs  hl hI hS => t_Mr_textFits_89 X hk63 (fun v' ls H locs  hl hI hS h' => ih v' h' ls H locs  hl hI hS) hl hI hS hb) FU _ h ls H locs  hl hI hS
set_option maxRecDepth 100000 in
set_option maxHeartbeats 4000000 in
theorem t_Mr_textFits_86 {p : Program} {l : Launch} {e : Env} {s : State} {m : MethodId} {args : Array Value} {below : List Frame} {meth : Method} {c : Code} {D : va_G} {A : Nat → Prop} {g : Nat → ClassId} {rest : va_W} {a0 : Nat → Nat} {a1 : Nat → Nat} {a2 : Nat → Nat} {ls : Array Slot} {H : Heap} {locs : List Loc} {k63 : S_Mr × Int32 × Int32 × Int32 × Int32 × Int32 → Option (Int32 × S_Mr)} {s1 : S_Tr} {s2 : S_Tr} {s0 : S_Mr} {x2 : Int32} {x4 : Int32} {x5 : Int32} {x6 : Int32} {x7 : Int32} {out : Int32 × S_Mr} (X : Cx p s m args meth c prog_4_method_4_code 11 ws_Mr_textFits R_Mr (some .boolean) D g) (hk63 : ∀ (v : S_Mr × Int32 × Int32 × Int32 × Int32 × Int32) (ls : Array Slot) (H : Heap) (locs : List Loc), lv_has ls 11 [(0, .ref (a0 0)), (1, .ref (a1 0)), (2, .int v.2.1), (3, .ref (a2 0)), (4, .int v.2.2.1), (5, .int v.2.2.2.1), (6, .int v.2.2.2.2.1), (7, .int v.2.2.2.2.2)] → Iw D A (w_Mr g a0 v.1 ++ (w_Tr g a1 s1 ++ (w_Tr g a2 s2 ++ (rest)))) H → va_S A s.heap H locs → k63 v = some out → W p l e (headSpec ws_Mr_textFits { frames := 1, cells := 0, slots := 0, locals := 23 }).room s m args below meth c H locs 0 0 (MQ below (QcI D A g out.1 (fun (_ : Unit) => w_Mr g a0 out.2 ++ (w_Tr g a1 s1 ++ (w_Tr g a2 s2 ++ (rest))))) args s 0 0 A) (F0 m 63 ls [])) (hl : lv_has ls 11 [(0, .ref (a0 0)), (1, .ref (a1 0)), (2, .int x2), (3, .ref (a2 0)), (4, .int x4), (5, .int x5), (6, .int x6), (7, .int x7)]) (hI : Iw D A (w_Mr g a0 s0 ++ (w_Tr g a1 s1 ++ (w_Tr g a2 s2 ++ (rest)))) H) (hS : va_S A s.heap H locs) (h : B_Mr_textFits_86 k63 s1 s2 s0 x2 x4 x5 x6 x7 = some out) : W p l e (headSpec ws_Mr_textFits { frames := 1, cells := 0, slots := 0, locals := 23 }).room s m args below meth c H locs 0 0 (MQ below (QcI D A g out.1 (fun (_ : Unit) => w_Mr g a0 out.2 ++ (w_Tr g a1 s1 ++ (w_Tr g a2 s2 ++ (rest))))) args s 0 0 A) (F0 m 86 ls []) := by
  have X1 := X
  obtain ⟨hx, hb, hml, hown, hts, hr, hlocks, hKK⟩ := X1
  have ht : ∀ w ∈ TB, w.before args s = true := fun w h => hts w (List.mem_cons_of_mem _ h)
  have hK := hKK.1
  unfold B_Mr_textFits_86 at h
  refine lv_iconst (v := 1) hx hb d_Mr_textFits_86 (by decide) ?_
  refine lv_istore hx hb d_Mr_textFits_87 hl (Nat.le_of_ble_eq_true rfl) rfl (fun ls hl => ?_)
  have hl : lv_has ls 11 [(9, .int (1 : Int32)), (0, .ref (a0 0)), (1, .ref (a1 0)), (2, .int x2), (3, .ref (a2 0)), (4, .int x4), (5, .int x5), (6, .int x6), (7, .int x7)] := hl
  exact T_Mr_textFits_89 X hk63 (lv_sub hl [1, 2, 3, 4, 5, 6, 7, 8, 0] rfl) hI hS h
set_option maxRecDepth 100000 in
set_option maxHeartbeats 4000000 in
theorem t_Mr_textFits_70 {p : Program} {l : Launch} {e : Env} {s : State} {m : MethodId} {args : Array Value} {below : List Frame} {meth : Method} {c : Code} {D : va_G} {A : Nat → Prop} {g : Nat → ClassId} {rest : va_W} {a0 : Nat → Nat} {a1 : Nat → Nat} {a2 : Nat → Nat} {ls : Array Slot} {H : Heap} {locs : List Loc} {k63 : S_Mr × Int32 × Int32 × Int32 × Int32 × Int32 → Option (Int32 × S_Mr)} {s1 : S_Tr} {s2 : S_Tr} {s0 : S_Mr} {x2 : Int32} {x4 : Int32} {x5 : Int32} {x6 : Int32} {x7 : Int32} {out : Int32 × S_Mr} (X : Cx p s m args meth c prog_4_method_4_code 11 ws_Mr_textFits R_Mr (some .boolean) D g) (hk63 : ∀ (v : S_Mr × Int32 × Int32 × Int32 × Int32 × Int32) (ls : Array Slot) (H : Heap) (locs : List Loc), lv_has ls 11 [(0, .ref (a0 0)), (1, .ref (a1 0)), (2, .int v.2.1), (3, .ref (a2 0)), (4, .int v.2.2.1), (5, .int v.2.2.2.1), (6, .int v.2.2.2.2.1), (7, .int v.2.2.2.2.2)] → Iw D A (w_Mr g a0 v.1 ++ (w_Tr g a1 s1 ++ (w_Tr g a2 s2 ++ (rest)))) H → va_S A s.heap H locs → k63 v = some out → W p l e (headSpec ws_Mr_textFits { frames := 1, cells := 0, slots := 0, locals := 23 }).room s m args below meth c H locs 0 0 (MQ below (QcI D A g out.1 (fun (_ : Unit) => w_Mr g a0 out.2 ++ (w_Tr g a1 s1 ++ (w_Tr g a2 s2 ++ (rest))))) args s 0 0 A) (F0 m 63 ls [])) (hl : lv_has ls 11 [(0, .ref (a0 0)), (1, .ref (a1 0)), (2, .int x2), (3, .ref (a2 0)), (4, .int x4), (5, .int x5), (6, .int x6), (7, .int x7)]) (hI : Iw D A (w_Mr g a0 s0 ++ (w_Tr g a1 s1 ++ (w_Tr g a2 s2 ++ (rest)))) H) (hS : va_S A s.heap H locs) (h : B_Mr_textFits_70 k63 s1 s2 s0 x2 x4 x5 x6 x7 = some out) : W p l e (headSpec ws_Mr_textFits { frames := 1, cells := 0, slots := 0, locals := 23 }).room s m args below meth c H locs 0 0 (MQ below (QcI D A g out.1 (fun (_ : Unit) => w_Mr g a0 out.2 ++ (w_Tr g a1 s1 ++ (w_Tr g a2 s2 ++ (rest))))) args s 0 0 A) (F0 m 70 ls []) := by
  have X1 := X
  obtain ⟨hx, hb, hml, hown, hts, hr, hlocks, hKK⟩ := X1
  have ht : ∀ w ∈ TB, w.before args s = true := fun w h => hts w (List.mem_cons_of_mem _ h)
  have hK := hKK.1
  unfold B_Mr_textFits_70 at h
  refine lv_aload_n hx hb d_Mr_textFits_70 rfl (lv_at hl 1 rfl) ?_
  refine lv_iload_n hx hb d_Mr_textFits_71 rfl (lv_at hl 2 rfl) ?_
  refine lv_iload hx hb d_Mr_textFits_72 (lv_at hl 7 rfl) ?_
  obtain ⟨o1, ho2, h⟩ := bd_s h
  refine cl_i (W1 := fun (_ : Unit) => w_Mr g a0 s0 ++ (w_Tr g a1 s1 ++ (w_Tr g a2 s2 ++ (rest)))) (va_runV (As := [.int x2, .int x7]) (rest := []) ⟨hx, hb, hml, hown, ht⟩ (c_Tr_character (l := l) (D := D) (A := A) (g := g) (rest := w_Mr g a0 s0 ++ (w_Tr g a2 s2 ++ (rest))) (a0 := a1) ho2) (cwV 2 ht (gd_V m_637 m_580 m_581 m_9 m_582) rfl rfl rfl (by decide +kernel) ⟨(Nat.le_of_ble_eq_true rfl), (Nat.le_of_ble_eq_true rfl)⟩) (prV (ci := 7) (q0 := 0) hKK hI (mv_1) rfl rfl rfl) rfl rfl hl.1 rfl (lv_room (Nat.le_of_ble_eq_true rfl)) d_Mr_textFits_74 ⟨(Nat.le_of_ble_eq_true rfl), (Nat.le_of_ble_eq_true rfl)⟩) hS (fun _ => ((mv_1)).symm) (fun _ H locs hI hS => ?_)
  have hI : Iw D A (w_Mr g a0 s0 ++ (w_Tr g a1 s1 ++ (w_Tr g a2 s2 ++ (rest)))) H := hI
  refine lv_istore hx hb d_Mr_textFits_77 hl (Nat.le_of_ble_eq_true rfl) rfl (fun ls hl => ?_)
  have hl : lv_has ls 11 [(8, .int o1), (0, .ref (a0 0)), (1, .ref (a1 0)), (2, .int x2), (3, .ref (a2 0)), (4, .int x4), (5, .int x5), (6, .int x6), (7, .int x7)] := hl
  refine lv_iload hx hb d_Mr_textFits_79 (lv_at hl 0 rfl) ?_
  refine lv_bipush (v := 42) hx hb d_Mr_textFits_81 (by decide) ?_
  refine lv_icmp_ne (tgt := 139) hx hb d_Mr_textFits_83 (by decide) (fun hc => ?_) (fun hc => ?_)
  · have h := it_f h hc
    exact t_Mr_textFits_139 X hk63 (lv_sub hl [1, 2, 3, 4, 5, 6, 7, 8, 0] rfl) hI hS h
  · have h := it_t h hc
    exact t_Mr_textFits_86 X hk63 (lv_sub hl [1, 2, 3, 4, 5, 6, 7, 8] rfl) hI hS h
set_option maxRecDepth 100000 in
set_option maxHeartbeats 4000000 in
theorem t_Mr_textFits_63 {p : Program} {l : Launch} {e : Env} {s : State} {m : MethodId} {args : Array Value} {below : List Frame} {meth : Method} {c : Code} {D : va_G} {A : Nat → Prop} {g : Nat → ClassId} {rest : va_W} {a0 : Nat → Nat} {a1 : Nat → Nat} {a2 : Nat → Nat} {ls : Array Slot} {H : Heap} {locs : List Loc} {k63 : S_Mr × Int32 × Int32 × Int32 × Int32 × Int32 → Option (Int32 × S_Mr)} {s1 : S_Tr} {s2 : S_Tr} {s0 : S_Mr} {x2 : Int32} {x4 : Int32} {x5 : Int32} {x6 : Int32} {x7 : Int32} {out : Int32 × S_Mr} (X : Cx p s m args meth c prog_4_method_4_code 11 ws_Mr_textFits R_Mr (some .boolean) D g) (hk63 : ∀ (v : S_Mr × Int32 × Int32 × Int32 × Int32 × Int32) (ls : Array Slot) (H : Heap) (locs : List Loc), lv_has ls 11 [(0, .ref (a0 0)), (1, .ref (a1 0)), (2, .int v.2.1), (3, .ref (a2 0)), (4, .int v.2.2.1), (5, .int v.2.2.2.1), (6, .int v.2.2.2.2.1), (7, .int v.2.2.2.2.2)] → Iw D A (w_Mr g a0 v.1 ++ (w_Tr g a1 s1 ++ (w_Tr g a2 s2 ++ (rest)))) H → va_S A s.heap H locs → k63 v = some out → W p l e (headSpec ws_Mr_textFits { frames := 1, cells := 0, slots := 0, locals := 23 }).room s m args below meth c H locs 0 0 (MQ below (QcI D A g out.1 (fun (_ : Unit) => w_Mr g a0 out.2 ++ (w_Tr g a1 s1 ++ (w_Tr g a2 s2 ++ (rest))))) args s 0 0 A) (F0 m 63 ls [])) (hl : lv_has ls 11 [(0, .ref (a0 0)), (1, .ref (a1 0)), (2, .int x2), (3, .ref (a2 0)), (4, .int x4), (5, .int x5), (6, .int x6), (7, .int x7)]) (hI : Iw D A (w_Mr g a0 s0 ++ (w_Tr g a1 s1 ++ (w_Tr g a2 s2 ++ (rest)))) H) (hS : va_S A s.heap H locs) (h : B_Mr_textFits_63 k63 s1 s2 s0 x2 x4 x5 x6 x7 = some out) : W p l e (headSpec ws_Mr_textFits { frames := 1, cells := 0, slots := 0, locals := 23 }).room s m args below meth c H locs 0 0 (MQ below (QcI D A g out.1 (fun (_ : Unit) => w_Mr g a0 out.2 ++ (w_Tr g a1 s1 ++ (w_Tr g a2 s2 ++ (rest))))) args s 0 0 A) (F0 m 63 ls []) := by
  have X1 := X
  obtain ⟨hx, hb, hml, hown, hts, hr, hlocks, hKK⟩ := X1
  have ht : ∀ w ∈ TB, w.before args s = true := fun w h => hts w (List.mem_cons_of_mem _ h)
  have hK := hKK.1
  unfold B_Mr_textFits_63 at h
  refine lv_iload hx hb d_Mr_textFits_63 (lv_at hl 7 rfl) ?_
  refine lv_iload hx hb d_Mr_textFits_65 (lv_at hl 5 rfl) ?_
  refine lv_icmp_ge (tgt := 225) hx hb d_Mr_textFits_67 (by decide) (fun hc => ?_) (fun hc => ?_)
  · have h := it_t h hc
    exact t_Mr_textFits_225 X (lv_sub hl [0, 6] rfl) hI hS h
  · have h := it_f h hc
    exact t_Mr_textFits_70 X hk63 (lv_sub hl [0, 1, 2, 3, 4, 5, 6, 7] rfl) hI hS h
set_option maxRecDepth 100000 in
set_option maxHeartbeats 4000000 in
theorem T_Mr_textFits_63 {p : Program} {l : Launch} {e : Env} {s : State} {m : MethodId} {args : Array Value} {below : List Frame} {meth : Method} {c : Code} {D : va_G} {A : Nat → Prop} {g : Nat → ClassId} {rest : va_W} {a0 : Nat → Nat} {a1 : Nat → Nat} {a2 : Nat → Nat} {ls : Array Slot} {H : Heap} {locs : List Loc} {s1 : S_Tr} {s2 : S_Tr} {s0 : S_Mr} {x2 : Int32} {x4 : Int32} {x5 : Int32} {x6 : Int32} {x7 : Int32} {out : Int32 × S_Mr} (X : Cx p s m args meth c prog_4_method_4_code 11 ws_Mr_textFits R_Mr (some .boolean) D g) (hl : lv_has ls 11 [(0, .ref (a0 0)), (1, .ref (a1 0)), (2, .int x2), (3, .ref (a2 0)), (4, .int x4), (5, .int x5), (6, .int x6), (7, .int x7)]) (hI : Iw D A (w_Mr g a0 s0 ++ (w_Tr g a1 s1 ++ (w_Tr g a2 s2 ++ (rest)))) H) (hS : va_S A s.heap H locs) (h : L_Mr_textFits_63  s1 s2 (s0, x2, x4, x5, x6, x7) = some out) : W p l e (headSpec ws_Mr_textFits { frames := 1, cells := 0, slots := 0, locals := 23 }).room s m args below meth c H locs 0 0 (MQ below (QcI D A g out.1 (fun (_ : Unit) => w_Mr g a0 out.2 ++ (w_Tr g a1 s1 ++ (w_Tr g a2 s2 ++ (rest))))) args s 0 0 A) (F0 m 63 ls []) := by
  unfold L_Mr_textFits_63 at h
  exact lp_ind (P := fun v => ∀ (ls : Array Slot) (H : Heap) (locs : List Loc), lv_has ls 11 [(0, .ref (a0 0)), (1, .ref (a1 0)), (2, .int v.2.1), (3, .ref (a2 0)), (4, .int v.2.2.1), (5, .int v.2.2.2.1), (6, .int v.2.2.2.2.1), (7, .int v.2.2.2.2.2)] → Iw D A (w_Mr g a0 v.1 ++ (w_Tr g a1 s1 ++ (w_Tr g a2 s2 ++ (rest)))) H → va_S A s.heap H locs → W p l e (headSpec ws_Mr_textFits { frames := 1, cells := 0, slots := 0, locals := 23 }).room s m args below meth c H locs 0 0 (MQ below (QcI D A g out.1 (fun (_ : Unit) => w_Mr g a0 out.2 ++ (w_Tr g a1 s1 ++ (w_Tr g a2 s2 ++ (rest))))) args s 0 0 A) (F0 m 63 ls [])) (fun k v ih hb ls H locs  hl hI hS => t_Mr_textFits_63 X  (fun v' ls H locs  hl hI hS h' => ih v' h' ls H locs  hl hI hS) hl hI hS hb) FU _ h ls H locs  hl hI hS
set_option maxRecDepth 100000 in
set_option maxHeartbeats 4000000 in
theorem t_Mr_textFits_60 {p : Program} {l : Launch} {e : Env} {s : State} {m : MethodId} {args : Array Value} {below : List Frame} {meth : Method} {c : Code} {D : va_G} {A : Nat → Prop} {g : Nat → ClassId} {rest : va_W} {a0 : Nat → Nat} {a1 : Nat → Nat} {a2 : Nat → Nat} {ls : Array Slot} {H : Heap} {locs : List Loc} {s1 : S_Tr} {s2 : S_Tr} {s0 : S_Mr} {x2 : Int32} {x4 : Int32} {x5 : Int32} {x6 : Int32} {out : Int32 × S_Mr} (X : Cx p s m args meth c prog_4_method_4_code 11 ws_Mr_textFits R_Mr (some .boolean) D g) (hl : lv_has ls 11 [(0, .ref (a0 0)), (1, .ref (a1 0)), (2, .int x2), (3, .ref (a2 0)), (4, .int x4), (5, .int x5), (6, .int x6)]) (hI : Iw D A (w_Mr g a0 s0 ++ (w_Tr g a1 s1 ++ (w_Tr g a2 s2 ++ (rest)))) H) (hS : va_S A s.heap H locs) (h : B_Mr_textFits_60  s1 s2 s0 x2 x4 x5 x6 = some out) : W p l e (headSpec ws_Mr_textFits { frames := 1, cells := 0, slots := 0, locals := 23 }).room s m args below meth c H locs 0 0 (MQ below (QcI D A g out.1 (fun (_ : Unit) => w_Mr g a0 out.2 ++ (w_Tr g a1 s1 ++ (w_Tr g a2 s2 ++ (rest))))) args s 0 0 A) (F0 m 60 ls []) := by
  have X1 := X
  obtain ⟨hx, hb, hml, hown, hts, hr, hlocks, hKK⟩ := X1
  have ht : ∀ w ∈ TB, w.before args s = true := fun w h => hts w (List.mem_cons_of_mem _ h)
  have hK := hKK.1
  unfold B_Mr_textFits_60 at h
  refine lv_iconst (v := 0) hx hb d_Mr_textFits_60 (by decide) ?_
  refine lv_istore hx hb d_Mr_textFits_61 hl (Nat.le_of_ble_eq_true rfl) rfl (fun ls hl => ?_)
  have hl : lv_has ls 11 [(7, .int (0 : Int32)), (0, .ref (a0 0)), (1, .ref (a1 0)), (2, .int x2), (3, .ref (a2 0)), (4, .int x4), (5, .int x5), (6, .int x6)] := hl
  exact T_Mr_textFits_63 X (lv_sub hl [1, 2, 3, 4, 5, 6, 7, 0] rfl) hI hS h
set_option maxRecDepth 100000 in
set_option maxHeartbeats 4000000 in
theorem t_Mr_textFits_53 {p : Program} {l : Launch} {e : Env} {s : State} {m : MethodId} {args : Array Value} {below : List Frame} {meth : Method} {c : Code} {D : va_G} {A : Nat → Prop} {g : Nat → ClassId} {rest : va_W} {a0 : Nat → Nat} {a1 : Nat → Nat} {a2 : Nat → Nat} {ls : Array Slot} {H : Heap} {locs : List Loc} {k30 : S_Mr × Int32 × Int32 × Int32 × Int32 × Int32 → Option (Int32 × S_Mr)} {s1 : S_Tr} {s2 : S_Tr} {s0 : S_Mr} {x2 : Int32} {x4 : Int32} {x5 : Int32} {x6 : Int32} {x7 : Int32} {y0 : Int32} {y1 : Int32} {out : Int32 × S_Mr} (X : Cx p s m args meth c prog_4_method_4_code 11 ws_Mr_textFits R_Mr (some .boolean) D g) (hk30 : ∀ (v : S_Mr × Int32 × Int32 × Int32 × Int32 × Int32) (ls : Array Slot) (H : Heap) (locs : List Loc), lv_has ls 11 [(0, .ref (a0 0)), (1, .ref (a1 0)), (2, .int v.2.1), (3, .ref (a2 0)), (4, .int v.2.2.1), (5, .int v.2.2.2.1), (6, .int v.2.2.2.2.1), (7, .int v.2.2.2.2.2)] → Iw D A (w_Mr g a0 v.1 ++ (w_Tr g a1 s1 ++ (w_Tr g a2 s2 ++ (rest)))) H → va_S A s.heap H locs → k30 v = some out → W p l e (headSpec ws_Mr_textFits { frames := 1, cells := 0, slots := 0, locals := 23 }).room s m args below meth c H locs 0 0 (MQ below (QcI D A g out.1 (fun (_ : Unit) => w_Mr g a0 out.2 ++ (w_Tr g a1 s1 ++ (w_Tr g a2 s2 ++ (rest))))) args s 0 0 A) (F0 m 30 ls [])) (hl : lv_has ls 11 [(0, .ref (a0 0)), (1, .ref (a1 0)), (2, .int x2), (3, .ref (a2 0)), (4, .int x4), (5, .int x5), (6, .int x6), (7, .int x7)]) (hI : Iw D A (w_Mr g a0 s0 ++ (w_Tr g a1 s1 ++ (w_Tr g a2 s2 ++ (rest)))) H) (hS : va_S A s.heap H locs) (h : B_Mr_textFits_53 k30 s1 s2 s0 x2 x4 x5 x6 x7 y0 y1 = some out) : W p l e (headSpec ws_Mr_textFits { frames := 1, cells := 0, slots := 0, locals := 23 }).room s m args below meth c H locs 0 0 (MQ below (QcI D A g out.1 (fun (_ : Unit) => w_Mr g a0 out.2 ++ (w_Tr g a1 s1 ++ (w_Tr g a2 s2 ++ (rest))))) args s 0 0 A) (F0 m 53 ls [.int y0, .int y1, .ref (a0 1)]) := by
  have X1 := X
  obtain ⟨hx, hb, hml, hown, hts, hr, hlocks, hKK⟩ := X1
  have ht : ∀ w ∈ TB, w.before args s = true := fun w h => hts w (List.mem_cons_of_mem _ h)
  have hK := hKK.1
  unfold B_Mr_textFits_53 at h
  by_cases hc1 : (y1 < 0 ∨ 17 ≤ y1.toNatClampNeg)
  · exact no_s (it_t h hc1)
  have h := it_f h hc1
  refine va_zast hx hb hK hI.1 hI.2 hS 1 1 rfl rfl hc1 d_Mr_textFits_53 (fun H locs hP hD hS => ?_)
  have hI : Iw D A (w_Mr g a0 (Mr_set_reach s0 (upd (Mr_reach s0) y1.toNatClampNeg (vp_nar .boolean y0))) ++ (w_Tr g a1 s1 ++ (w_Tr g a2 s2 ++ (rest)))) H := ⟨hP, hD⟩
  refine lv_iinc (k := 7) (v := (x7 + 1)) hx hb d_Mr_textFits_54 hl rfl (congrArg (fun z => x7 + z) (by decide)) (Nat.le_of_ble_eq_true rfl) rfl (fun ls hl => ?_)
  have hl : lv_has ls 11 [(7, .int (x7 + 1)), (0, .ref (a0 0)), (1, .ref (a1 0)), (2, .int x2), (3, .ref (a2 0)), (4, .int x4), (5, .int x5), (6, .int x6)] := hl
  refine lv_goto (tgt := 30) hx hb d_Mr_textFits_57 (by decide) ?_
  exact hk30 ((Mr_set_reach s0 (upd (Mr_reach s0) y1.toNatClampNeg (vp_nar .boolean y0))), x2, x4, x5, x6, (x7 + 1)) _ _ _ (lv_sub hl [1, 2, 3, 4, 5, 6, 7, 0] rfl) hI hS h
set_option maxRecDepth 100000 in
set_option maxHeartbeats 4000000 in
theorem t_Mr_textFits_52 {p : Program} {l : Launch} {e : Env} {s : State} {m : MethodId} {args : Array Value} {below : List Frame} {meth : Method} {c : Code} {D : va_G} {A : Nat → Prop} {g : Nat → ClassId} {rest : va_W} {a0 : Nat → Nat} {a1 : Nat → Nat} {a2 : Nat → Nat} {ls : Array Slot} {H : Heap} {locs : List Loc} {k30 : S_Mr × Int32 × Int32 × Int32 × Int32 × Int32 → Option (Int32 × S_Mr)} {s1 : S_Tr} {s2 : S_Tr} {s0 : S_Mr} {x2 : Int32} {x4 : Int32} {x5 : Int32} {x6 : Int32} {x7 : Int32} {y0 : Int32} {out : Int32 × S_Mr} (X : Cx p s m args meth c prog_4_method_4_code 11 ws_Mr_textFits R_Mr (some .boolean) D g) (hk30 : ∀ (v : S_Mr × Int32 × Int32 × Int32 × Int32 × Int32) (ls : Array Slot) (H : Heap) (locs : List Loc), lv_has ls 11 [(0, .ref (a0 0)), (1, .ref (a1 0)), (2, .int v.2.1), (3, .ref (a2 0)), (4, .int v.2.2.1), (5, .int v.2.2.2.1), (6, .int v.2.2.2.2.1), (7, .int v.2.2.2.2.2)] → Iw D A (w_Mr g a0 v.1 ++ (w_Tr g a1 s1 ++ (w_Tr g a2 s2 ++ (rest)))) H → va_S A s.heap H locs → k30 v = some out → W p l e (headSpec ws_Mr_textFits { frames := 1, cells := 0, slots := 0, locals := 23 }).room s m args below meth c H locs 0 0 (MQ below (QcI D A g out.1 (fun (_ : Unit) => w_Mr g a0 out.2 ++ (w_Tr g a1 s1 ++ (w_Tr g a2 s2 ++ (rest))))) args s 0 0 A) (F0 m 30 ls [])) (hl : lv_has ls 11 [(0, .ref (a0 0)), (1, .ref (a1 0)), (2, .int x2), (3, .ref (a2 0)), (4, .int x4), (5, .int x5), (6, .int x6), (7, .int x7)]) (hI : Iw D A (w_Mr g a0 s0 ++ (w_Tr g a1 s1 ++ (w_Tr g a2 s2 ++ (rest)))) H) (hS : va_S A s.heap H locs) (h : B_Mr_textFits_52 k30 s1 s2 s0 x2 x4 x5 x6 x7 y0 = some out) : W p l e (headSpec ws_Mr_textFits { frames := 1, cells := 0, slots := 0, locals := 23 }).room s m args below meth c H locs 0 0 (MQ below (QcI D A g out.1 (fun (_ : Unit) => w_Mr g a0 out.2 ++ (w_Tr g a1 s1 ++ (w_Tr g a2 s2 ++ (rest))))) args s 0 0 A) (F0 m 52 ls [.int y0, .ref (a0 1)]) := by
  have X1 := X
  obtain ⟨hx, hb, hml, hown, hts, hr, hlocks, hKK⟩ := X1
  have ht : ∀ w ∈ TB, w.before args s = true := fun w h => hts w (List.mem_cons_of_mem _ h)
  have hK := hKK.1
  unfold B_Mr_textFits_52 at h
  refine lv_iconst (v := 0) hx hb d_Mr_textFits_52 (by decide) ?_
  exact t_Mr_textFits_53 X hk30 (lv_sub hl [0, 1, 2, 3, 4, 5, 6, 7] rfl) hI hS h
set_option maxRecDepth 100000 in
set_option maxHeartbeats 4000000 in
theorem t_Mr_textFits_48 {p : Program} {l : Launch} {e : Env} {s : State} {m : MethodId} {args : Array Value} {below : List Frame} {meth : Method} {c : Code} {D : va_G} {A : Nat → Prop} {g : Nat → ClassId} {rest : va_W} {a0 : Nat → Nat} {a1 : Nat → Nat} {a2 : Nat → Nat} {ls : Array Slot} {H : Heap} {locs : List Loc} {k30 : S_Mr × Int32 × Int32 × Int32 × Int32 × Int32 → Option (Int32 × S_Mr)} {s1 : S_Tr} {s2 : S_Tr} {s0 : S_Mr} {x2 : Int32} {x4 : Int32} {x5 : Int32} {x6 : Int32} {x7 : Int32} {y0 : Int32} {out : Int32 × S_Mr} (X : Cx p s m args meth c prog_4_method_4_code 11 ws_Mr_textFits R_Mr (some .boolean) D g) (hk30 : ∀ (v : S_Mr × Int32 × Int32 × Int32 × Int32 × Int32) (ls : Array Slot) (H : Heap) (locs : List Loc), lv_has ls 11 [(0, .ref (a0 0)), (1, .ref (a1 0)), (2, .int v.2.1), (3, .ref (a2 0)), (4, .int v.2.2.1), (5, .int v.2.2.2.1), (6, .int v.2.2.2.2.1), (7, .int v.2.2.2.2.2)] → Iw D A (w_Mr g a0 v.1 ++ (w_Tr g a1 s1 ++ (w_Tr g a2 s2 ++ (rest)))) H → va_S A s.heap H locs → k30 v = some out → W p l e (headSpec ws_Mr_textFits { frames := 1, cells := 0, slots := 0, locals := 23 }).room s m args below meth c H locs 0 0 (MQ below (QcI D A g out.1 (fun (_ : Unit) => w_Mr g a0 out.2 ++ (w_Tr g a1 s1 ++ (w_Tr g a2 s2 ++ (rest))))) args s 0 0 A) (F0 m 30 ls [])) (hl : lv_has ls 11 [(0, .ref (a0 0)), (1, .ref (a1 0)), (2, .int x2), (3, .ref (a2 0)), (4, .int x4), (5, .int x5), (6, .int x6), (7, .int x7)]) (hI : Iw D A (w_Mr g a0 s0 ++ (w_Tr g a1 s1 ++ (w_Tr g a2 s2 ++ (rest)))) H) (hS : va_S A s.heap H locs) (h : B_Mr_textFits_48 k30 s1 s2 s0 x2 x4 x5 x6 x7 y0 = some out) : W p l e (headSpec ws_Mr_textFits { frames := 1, cells := 0, slots := 0, locals := 23 }).room s m args below meth c H locs 0 0 (MQ below (QcI D A g out.1 (fun (_ : Unit) => w_Mr g a0 out.2 ++ (w_Tr g a1 s1 ++ (w_Tr g a2 s2 ++ (rest))))) args s 0 0 A) (F0 m 48 ls [.int y0, .ref (a0 1)]) := by
  have X1 := X
  obtain ⟨hx, hb, hml, hown, hts, hr, hlocks, hKK⟩ := X1
  have ht : ∀ w ∈ TB, w.before args s = true := fun w h => hts w (List.mem_cons_of_mem _ h)
  have hK := hKK.1
  unfold B_Mr_textFits_48 at h
  refine lv_iconst (v := 1) hx hb d_Mr_textFits_48 (by decide) ?_
  refine lv_goto (tgt := 53) hx hb d_Mr_textFits_49 (by decide) ?_
  exact t_Mr_textFits_53 X hk30 (lv_sub hl [0, 1, 2, 3, 4, 5, 6, 7] rfl) hI hS h
set_option maxRecDepth 100000 in
set_option maxHeartbeats 4000000 in
theorem t_Mr_textFits_37 {p : Program} {l : Launch} {e : Env} {s : State} {m : MethodId} {args : Array Value} {below : List Frame} {meth : Method} {c : Code} {D : va_G} {A : Nat → Prop} {g : Nat → ClassId} {rest : va_W} {a0 : Nat → Nat} {a1 : Nat → Nat} {a2 : Nat → Nat} {ls : Array Slot} {H : Heap} {locs : List Loc} {k30 : S_Mr × Int32 × Int32 × Int32 × Int32 × Int32 → Option (Int32 × S_Mr)} {s1 : S_Tr} {s2 : S_Tr} {s0 : S_Mr} {x2 : Int32} {x4 : Int32} {x5 : Int32} {x6 : Int32} {x7 : Int32} {out : Int32 × S_Mr} (X : Cx p s m args meth c prog_4_method_4_code 11 ws_Mr_textFits R_Mr (some .boolean) D g) (hk30 : ∀ (v : S_Mr × Int32 × Int32 × Int32 × Int32 × Int32) (ls : Array Slot) (H : Heap) (locs : List Loc), lv_has ls 11 [(0, .ref (a0 0)), (1, .ref (a1 0)), (2, .int v.2.1), (3, .ref (a2 0)), (4, .int v.2.2.1), (5, .int v.2.2.2.1), (6, .int v.2.2.2.2.1), (7, .int v.2.2.2.2.2)] → Iw D A (w_Mr g a0 v.1 ++ (w_Tr g a1 s1 ++ (w_Tr g a2 s2 ++ (rest)))) H → va_S A s.heap H locs → k30 v = some out → W p l e (headSpec ws_Mr_textFits { frames := 1, cells := 0, slots := 0, locals := 23 }).room s m args below meth c H locs 0 0 (MQ below (QcI D A g out.1 (fun (_ : Unit) => w_Mr g a0 out.2 ++ (w_Tr g a1 s1 ++ (w_Tr g a2 s2 ++ (rest))))) args s 0 0 A) (F0 m 30 ls [])) (hl : lv_has ls 11 [(0, .ref (a0 0)), (1, .ref (a1 0)), (2, .int x2), (3, .ref (a2 0)), (4, .int x4), (5, .int x5), (6, .int x6), (7, .int x7)]) (hI : Iw D A (w_Mr g a0 s0 ++ (w_Tr g a1 s1 ++ (w_Tr g a2 s2 ++ (rest)))) H) (hS : va_S A s.heap H locs) (h : B_Mr_textFits_37 k30 s1 s2 s0 x2 x4 x5 x6 x7 = some out) : W p l e (headSpec ws_Mr_textFits { frames := 1, cells := 0, slots := 0, locals := 23 }).room s m args below meth c H locs 0 0 (MQ below (QcI D A g out.1 (fun (_ : Unit) => w_Mr g a0 out.2 ++ (w_Tr g a1 s1 ++ (w_Tr g a2 s2 ++ (rest))))) args s 0 0 A) (F0 m 37 ls []) := by
  have X1 := X
  obtain ⟨hx, hb, hml, hown, hts, hr, hlocks, hKK⟩ := X1
  have ht : ∀ w ∈ TB, w.before args s = true := fun w h => hts w (List.mem_cons_of_mem _ h)
  have hK := hKK.1
  unfold B_Mr_textFits_37 at h
  refine lv_aload_n hx hb d_Mr_textFits_37 rfl (lv_at hl 0 rfl) ?_
  refine va_get (D := D) (ci := 2) (v := .ref (a0 1)) (C := R_Mr) (T := T_Mr) (N := 1) hx hb ht in_Mr hown hK hI.1 0 rfl rfl 0 (by decide) (ht _ m_199) (fun _ h9 => h9) rfl d_Mr_textFits_38 ?_
  refine lv_iload hx hb d_Mr_textFits_41 (lv_at hl 7 rfl) ?_
  refine lv_iload hx hb d_Mr_textFits_43 (lv_at hl 7 rfl) ?_
  refine lv_if_ne (tgt := 52) hx hb d_Mr_textFits_45 (by decide) (fun hc => ?_) (fun hc => ?_)
  · have h := it_f h hc
    exact t_Mr_textFits_52 X hk30 (lv_sub hl [0, 1, 2, 3, 4, 5, 6, 7] rfl) hI hS h
  · have h := it_t h hc
    exact t_Mr_textFits_48 X hk30 (lv_sub hl [0, 1, 2, 3, 4, 5, 6, 7] rfl) hI hS h
set_option maxRecDepth 100000 in
set_option maxHeartbeats 4000000 in
theorem t_Mr_textFits_30 {p : Program} {l : Launch} {e : Env} {s : State} {m : MethodId} {args : Array Value} {below : List Frame} {meth : Method} {c : Code} {D : va_G} {A : Nat → Prop} {g : Nat → ClassId} {rest : va_W} {a0 : Nat → Nat} {a1 : Nat → Nat} {a2 : Nat → Nat} {ls : Array Slot} {H : Heap} {locs : List Loc} {k30 : S_Mr × Int32 × Int32 × Int32 × Int32 × Int32 → Option (Int32 × S_Mr)} {s1 : S_Tr} {s2 : S_Tr} {s0 : S_Mr} {x2 : Int32} {x4 : Int32} {x5 : Int32} {x6 : Int32} {x7 : Int32} {out : Int32 × S_Mr} (X : Cx p s m args meth c prog_4_method_4_code 11 ws_Mr_textFits R_Mr (some .boolean) D g) (hk30 : ∀ (v : S_Mr × Int32 × Int32 × Int32 × Int32 × Int32) (ls : Array Slot) (H : Heap) (locs : List Loc), lv_has ls 11 [(0, .ref (a0 0)), (1, .ref (a1 0)), (2, .int v.2.1), (3, .ref (a2 0)), (4, .int v.2.2.1), (5, .int v.2.2.2.1), (6, .int v.2.2.2.2.1), (7, .int v.2.2.2.2.2)] → Iw D A (w_Mr g a0 v.1 ++ (w_Tr g a1 s1 ++ (w_Tr g a2 s2 ++ (rest)))) H → va_S A s.heap H locs → k30 v = some out → W p l e (headSpec ws_Mr_textFits { frames := 1, cells := 0, slots := 0, locals := 23 }).room s m args below meth c H locs 0 0 (MQ below (QcI D A g out.1 (fun (_ : Unit) => w_Mr g a0 out.2 ++ (w_Tr g a1 s1 ++ (w_Tr g a2 s2 ++ (rest))))) args s 0 0 A) (F0 m 30 ls [])) (hl : lv_has ls 11 [(0, .ref (a0 0)), (1, .ref (a1 0)), (2, .int x2), (3, .ref (a2 0)), (4, .int x4), (5, .int x5), (6, .int x6), (7, .int x7)]) (hI : Iw D A (w_Mr g a0 s0 ++ (w_Tr g a1 s1 ++ (w_Tr g a2 s2 ++ (rest)))) H) (hS : va_S A s.heap H locs) (h : B_Mr_textFits_30 k30 s1 s2 s0 x2 x4 x5 x6 x7 = some out) : W p l e (headSpec ws_Mr_textFits { frames := 1, cells := 0, slots := 0, locals := 23 }).room s m args below meth c H locs 0 0 (MQ below (QcI D A g out.1 (fun (_ : Unit) => w_Mr g a0 out.2 ++ (w_Tr g a1 s1 ++ (w_Tr g a2 s2 ++ (rest))))) args s 0 0 A) (F0 m 30 ls []) := by
  have X1 := X
  obtain ⟨hx, hb, hml, hown, hts, hr, hlocks, hKK⟩ := X1
  have ht : ∀ w ∈ TB, w.before args s = true := fun w h => hts w (List.mem_cons_of_mem _ h)
  have hK := hKK.1
  unfold B_Mr_textFits_30 at h
  refine lv_iload hx hb d_Mr_textFits_30 (lv_at hl 7 rfl) ?_
  refine lv_iload hx hb d_Mr_textFits_32 (lv_at hl 6 rfl) ?_
  refine lv_icmp_gt (tgt := 60) hx hb d_Mr_textFits_34 (by decide) (fun hc => ?_) (fun hc => ?_)
  · have h := it_t h hc
    exact t_Mr_textFits_60 X (lv_sub hl [0, 1, 2, 3, 4, 5, 6] rfl) hI hS h
  · have h := it_f h hc
    exact t_Mr_textFits_37 X hk30 (lv_sub hl [0, 1, 2, 3, 4, 5, 6, 7] rfl) hI hS h
set_option maxRecDepth 100000 in
set_option maxHeartbeats 4000000 in
theorem T_Mr_textFits_30 {p : Program} {l : Launch} {e : Env} {s : State} {m : MethodId} {args : Array Value} {below : List Frame} {meth : Method} {c : Code} {D : va_G} {A : Nat → Prop} {g : Nat → ClassId} {rest : va_W} {a0 : Nat → Nat} {a1 : Nat → Nat} {a2 : Nat → Nat} {ls : Array Slot} {H : Heap} {locs : List Loc} {s1 : S_Tr} {s2 : S_Tr} {s0 : S_Mr} {x2 : Int32} {x4 : Int32} {x5 : Int32} {x6 : Int32} {x7 : Int32} {out : Int32 × S_Mr} (X : Cx p s m args meth c prog_4_method_4_code 11 ws_Mr_textFits R_Mr (some .boolean) D g) (hl : lv_has ls 11 [(0, .ref (a0 0)), (1, .ref (a1 0)), (2, .int x2), (3, .ref (a2 0)), (4, .int x4), (5, .int x5), (6, .int x6), (7, .int x7)]) (hI : Iw D A (w_Mr g a0 s0 ++ (w_Tr g a1 s1 ++ (w_Tr g a2 s2 ++ (rest)))) H) (hS : va_S A s.heap H locs) (h : L_Mr_textFits_30  s1 s2 (s0, x2, x4, x5, x6, x7) = some out) : W p l e (headSpec ws_Mr_textFits { frames := 1, cells := 0, slots := 0, locals := 23 }).room s m args below meth c H locs 0 0 (MQ below (QcI D A g out.1 (fun (_ : Unit) => w_Mr g a0 out.2 ++ (w_Tr g a1 s1 ++ (w_Tr g a2 s2 ++ (rest))))) args s 0 0 A) (F0 m 30 ls []) := by
  unfold L_Mr_textFits_30 at h
  exact lp_ind (P := fun v => ∀ (ls : Array Slot) (H : Heap) (locs : List Loc), lv_has ls 11 [(0, .ref (a0 0)), (1, .ref (a1 0)), (2, .int v.2.1), (3, .ref (a2 0)), (4, .int v.2.2.1), (5, .int v.2.2.2.1), (6, .int v.2.2.2.2.1), (7, .int v.2.2.2.2.2)] → Iw D A (w_Mr g a0 v.1 ++ (w_Tr g a1 s1 ++ (w_Tr g a2 s2 ++ (rest)))) H → va_S A s.heap H locs → W p l e (headSpec ws_Mr_textFits { frames := 1, cells := 0, slots := 0, locals := 23 }).room s m args below meth c H locs 0 0 (MQ below (QcI D A g out.1 (fun (_ : Unit) => w_Mr g a0 out.2 ++ (w_Tr g a1 s1 ++ (w_Tr g a2 s2 ++ (rest))))) args s 0 0 A) (F0 m 30 ls [])) (fun k v ih hb ls H locs  hl hI hS => t_Mr_textFits_30 X  (fun v' ls H locs  hl hI hS h' => ih v' h' ls H locs  hl hI hS) hl hI hS hb) FU _ h ls H locs  hl hI hS
set_option maxRecDepth 100000 in
set_option maxHeartbeats 4000000 in
theorem t_Mr_textFits_27 {p : Program} {l : Launch} {e : Env} {s : State} {m : MethodId} {args : Array Value} {below : List Frame} {meth : Method} {c : Code} {D : va_G} {A : Nat → Prop} {g : Nat → ClassId} {rest : va_W} {a0 : Nat → Nat} {a1 : Nat → Nat} {a2 : Nat → Nat} {ls : Array Slot} {H : Heap} {locs : List Loc} {s1 : S_Tr} {s2 : S_Tr} {s0 : S_Mr} {x2 : Int32} {x4 : Int32} {x5 : Int32} {x6 : Int32} {out : Int32 × S_Mr} (X : Cx p s m args meth c prog_4_method_4_code 11 ws_Mr_textFits R_Mr (some .boolean) D g) (hl : lv_has ls 11 [(0, .ref (a0 0)), (1, .ref (a1 0)), (2, .int x2), (3, .ref (a2 0)), (4, .int x4), (5, .int x5), (6, .int x6)]) (hI : Iw D A (w_Mr g a0 s0 ++ (w_Tr g a1 s1 ++ (w_Tr g a2 s2 ++ (rest)))) H) (hS : va_S A s.heap H locs) (h : B_Mr_textFits_27  s1 s2 s0 x2 x4 x5 x6 = some out) : W p l e (headSpec ws_Mr_textFits { frames := 1, cells := 0, slots := 0, locals := 23 }).room s m args below meth c H locs 0 0 (MQ below (QcI D A g out.1 (fun (_ : Unit) => w_Mr g a0 out.2 ++ (w_Tr g a1 s1 ++ (w_Tr g a2 s2 ++ (rest))))) args s 0 0 A) (F0 m 27 ls []) := by
  have X1 := X
  obtain ⟨hx, hb, hml, hown, hts, hr, hlocks, hKK⟩ := X1
  have ht : ∀ w ∈ TB, w.before args s = true := fun w h => hts w (List.mem_cons_of_mem _ h)
  have hK := hKK.1
  unfold B_Mr_textFits_27 at h
  refine lv_iconst (v := 0) hx hb d_Mr_textFits_27 (by decide) ?_
  refine lv_istore hx hb d_Mr_textFits_28 hl (Nat.le_of_ble_eq_true rfl) rfl (fun ls hl => ?_)
  have hl : lv_has ls 11 [(7, .int (0 : Int32)), (0, .ref (a0 0)), (1, .ref (a1 0)), (2, .int x2), (3, .ref (a2 0)), (4, .int x4), (5, .int x5), (6, .int x6)] := hl
  exact T_Mr_textFits_30 X (lv_sub hl [1, 2, 3, 4, 5, 6, 7, 0] rfl) hI hS h
set_option maxRecDepth 100000 in
set_option maxHeartbeats 4000000 in
theorem t_Mr_textFits_25 {p : Program} {l : Launch} {e : Env} {s : State} {m : MethodId} {args : Array Value} {below : List Frame} {meth : Method} {c : Code} {D : va_G} {A : Nat → Prop} {g : Nat → ClassId} {rest : va_W} {a0 : Nat → Nat} {a1 : Nat → Nat} {a2 : Nat → Nat} {ls : Array Slot} {H : Heap} {locs : List Loc} {s1 : S_Tr} {s2 : S_Tr} {s0 : S_Mr} {out : Int32 × S_Mr} (X : Cx p s m args meth c prog_4_method_4_code 11 ws_Mr_textFits R_Mr (some .boolean) D g) (hl : lv_has ls 11 []) (hI : Iw D A (w_Mr g a0 s0 ++ (w_Tr g a1 s1 ++ (w_Tr g a2 s2 ++ (rest)))) H) (hS : va_S A s.heap H locs) (h : B_Mr_textFits_25  s1 s2 s0 = some out) : W p l e (headSpec ws_Mr_textFits { frames := 1, cells := 0, slots := 0, locals := 23 }).room s m args below meth c H locs 0 0 (MQ below (QcI D A g out.1 (fun (_ : Unit) => w_Mr g a0 out.2 ++ (w_Tr g a1 s1 ++ (w_Tr g a2 s2 ++ (rest))))) args s 0 0 A) (F0 m 25 ls []) := by
  have X1 := X
  obtain ⟨hx, hb, hml, hown, hts, hr, hlocks, hKK⟩ := X1
  have ht : ∀ w ∈ TB, w.before args s = true := fun w h => hts w (List.mem_cons_of_mem _ h)
  have hK := hKK.1
  unfold B_Mr_textFits_25 at h
  refine lv_iconst (v := 1) hx hb d_Mr_textFits_25 (by decide) ?_
  have h9 := Option.some.inj h
  subst h9
  exact W.zret (v := (1 : Int32)) hx hb hr rfl (fun t ht hW => ⟨⟨_, (), rfl, rfl, ⟨by rw [ht]; exact hI, hKK.moved hW⟩⟩, hS.F ht⟩) hS.2.2 d_Mr_textFits_26
set_option maxRecDepth 100000 in
set_option maxHeartbeats 4000000 in
theorem t_Mr_textFits_0 {p : Program} {l : Launch} {e : Env} {s : State} {m : MethodId} {args : Array Value} {below : List Frame} {meth : Method} {c : Code} {D : va_G} {A : Nat → Prop} {g : Nat → ClassId} {rest : va_W} {a0 : Nat → Nat} {a1 : Nat → Nat} {a2 : Nat → Nat} {ls : Array Slot} {H : Heap} {locs : List Loc} {s1 : S_Tr} {s2 : S_Tr} {s0 : S_Mr} {x2 : Int32} {x4 : Int32} {out : Int32 × S_Mr} (X : Cx p s m args meth c prog_4_method_4_code 11 ws_Mr_textFits R_Mr (some .boolean) D g) (hl : lv_has ls 11 [(0, .ref (a0 0)), (1, .ref (a1 0)), (2, .int x2), (3, .ref (a2 0)), (4, .int x4)]) (hI : Iw D A (w_Mr g a0 s0 ++ (w_Tr g a1 s1 ++ (w_Tr g a2 s2 ++ (rest)))) H) (hS : va_S A s.heap H locs) (h : B_Mr_textFits_0  s1 s2 s0 x2 x4 = some out) : W p l e (headSpec ws_Mr_textFits { frames := 1, cells := 0, slots := 0, locals := 23 }).room s m args below meth c H locs 0 0 (MQ below (QcI D A g out.1 (fun (_ : Unit) => w_Mr g a0 out.2 ++ (w_Tr g a1 s1 ++ (w_Tr g a2 s2 ++ (rest))))) args s 0 0 A) (F0 m 0 ls []) := by
  have X1 := X
  obtain ⟨hx, hb, hml, hown, hts, hr, hlocks, hKK⟩ := X1
  have ht : ∀ w ∈ TB, w.before args s = true := fun w h => hts w (List.mem_cons_of_mem _ h)
  have hK := hKK.1
  unfold B_Mr_textFits_0 at h
  refine lv_aload_n hx hb d_Mr_textFits_0 rfl (lv_at hl 1 rfl) ?_
  refine lv_iload_n hx hb d_Mr_textFits_1 rfl (lv_at hl 2 rfl) ?_
  obtain ⟨o1, ho2, h⟩ := bd_s h
  refine cl_i (W1 := fun (_ : Unit) => w_Mr g a0 s0 ++ (w_Tr g a1 s1 ++ (w_Tr g a2 s2 ++ (rest)))) (va_runV (As := [.int x2]) (rest := []) ⟨hx, hb, hml, hown, ht⟩ (c_Tr_textLength (l := l) (D := D) (A := A) (g := g) (rest := w_Mr g a0 s0 ++ (w_Tr g a2 s2 ++ (rest))) (a0 := a1) ho2) (cwV 1 ht (gd_V m_635 m_585 m_586 m_9 m_587) rfl rfl rfl (by decide +kernel) ⟨(Nat.le_of_ble_eq_true rfl), (Nat.le_of_ble_eq_true rfl)⟩) (prV (ci := 7) (q0 := 0) hKK hI (mv_1) rfl rfl rfl) rfl rfl hl.1 rfl (lv_room (Nat.le_of_ble_eq_true rfl)) d_Mr_textFits_2 ⟨(Nat.le_of_ble_eq_true rfl), (Nat.le_of_ble_eq_true rfl)⟩) hS (fun _ => ((mv_1)).symm) (fun _ H locs hI hS => ?_)
  have hI : Iw D A (w_Mr g a0 s0 ++ (w_Tr g a1 s1 ++ (w_Tr g a2 s2 ++ (rest)))) H := hI
  refine lv_istore hx hb d_Mr_textFits_5 hl (Nat.le_of_ble_eq_true rfl) rfl (fun ls hl => ?_)
  have hl : lv_has ls 11 [(5, .int o1), (0, .ref (a0 0)), (1, .ref (a1 0)), (2, .int x2), (3, .ref (a2 0)), (4, .int x4)] := hl
  refine lv_bipush (v := 16) hx hb d_Mr_textFits_7 (by decide) ?_
  refine lv_aload_n hx hb d_Mr_textFits_9 rfl (lv_at hl 4 rfl) ?_
  refine lv_iload hx hb d_Mr_textFits_10 (lv_at hl 5 rfl) ?_
  obtain ⟨o3, ho4, h⟩ := bd_s h
  refine cl_i (W1 := fun (_ : Unit) => w_Mr g a0 s0 ++ (w_Tr g a1 s1 ++ (w_Tr g a2 s2 ++ (rest)))) (va_runV (As := [.int x4]) (rest := [.int (16 : Int32)]) ⟨hx, hb, hml, hown, ht⟩ (c_Tr_textLength (l := l) (D := D) (A := A) (g := g) (rest := w_Mr g a0 s0 ++ (w_Tr g a1 s1 ++ (rest))) (a0 := a2) ho4) (cwV 1 ht (gd_V m_635 m_585 m_586 m_9 m_587) rfl rfl rfl (by decide +kernel) ⟨(Nat.le_of_ble_eq_true rfl), (Nat.le_of_ble_eq_true rfl)⟩) (prV (ci := 7) (q0 := 0) hKK hI (mv_2) rfl rfl rfl) rfl rfl hl.1 rfl (lv_room (Nat.le_of_ble_eq_true rfl)) d_Mr_textFits_12 ⟨(Nat.le_of_ble_eq_true rfl), (Nat.le_of_ble_eq_true rfl)⟩) hS (fun _ => ((mv_2)).symm) (fun _ H locs hI hS => ?_)
  have hI : Iw D A (w_Mr g a0 s0 ++ (w_Tr g a1 s1 ++ (w_Tr g a2 s2 ++ (rest)))) H := hI
  refine va_mmin hx hb (by rw [hml]; exact hl.1.symm) hown (ht _ m_636) (ht _ m_104) (ht _ m_7) (ht _ m_105) (Nat.le_of_ble_eq_true rfl) (Nat.le_of_ble_eq_true rfl) (Nat.le_of_ble_eq_true rfl) (Nat.le_of_ble_eq_true rfl) d_Mr_textFits_15 ?_
  refine lv_istore hx hb d_Mr_textFits_18 hl (Nat.le_of_ble_eq_true rfl) rfl (fun ls hl => ?_)
  have hl : lv_has ls 11 [(6, .int (if o3 < (16 : Int32) then o3 else (16 : Int32))), (5, .int o1), (0, .ref (a0 0)), (1, .ref (a1 0)), (2, .int x2), (3, .ref (a2 0)), (4, .int x4)] := hl
  refine lv_iload hx hb d_Mr_textFits_20 (lv_at hl 1 rfl) ?_
  refine lv_if_ne (tgt := 27) hx hb d_Mr_textFits_22 (by decide) (fun hc => ?_) (fun hc => ?_)
  · have h := it_f h hc
    exact t_Mr_textFits_27 X (lv_sub hl [2, 3, 4, 5, 6, 1, 0] rfl) hI hS h
  · have h := it_t h hc
    exact t_Mr_textFits_25 X (lv_sub hl [] rfl) hI hS h
set_option maxRecDepth 100000 in
set_option maxHeartbeats 4000000 in
theorem c_Mr_textFits {l : Launch} {D : va_G} {A : Nat → Prop} {g : Nat → ClassId} {rest : va_W} {a0 : Nat → Nat} {a1 : Nat → Nat} {a2 : Nat → Nat} {s0 : S_Mr} {s1 : S_Tr} {s2 : S_Tr} {x2 : Int32} {x4 : Int32} {out : Int32 × S_Mr} (h : F_Mr_textFits s0 s1 s2 x2 x4 = some out) : Met l y_Mr_textFits ws_Mr_textFits { frames := 1, cells := 0, slots := 0, locals := 23 } (PcW D A g [.ref (a0 0), .ref (a1 0), .int x2, .ref (a2 0), .int x4] (w_Mr g a0 s0 ++ (w_Tr g a1 s1 ++ (w_Tr g a2 s2 ++ (rest))))) (QcI D A g out.1 (fun (_ : Unit) => w_Mr g a0 out.2 ++ (w_Tr g a1 s1 ++ (w_Tr g a2 s2 ++ (rest))))) 0 0 A := by
  refine Met.ofW (cc := prog_4_method_4_code) (maxL := 11) (ret := (some .boolean)) (by decide) rfl ?_
  intro p e s m args below meth c s₁ B hml hv
  obtain ⟨rfl, hI, hK⟩ := hv
  have hl := lv_entry [.ref (a0 0), .ref (a1 0), .int x2, .ref (a2 0), .int x4] (n := 11) (Nat.le_of_ble_eq_true rfl)
  rw [lg_entry_eq]
  generalize (lg_sl [.ref (a0 0), .ref (a1 0), .int x2, .ref (a2 0), .int x4] ++ List.replicate (11 - (lg_sl [.ref (a0 0), .ref (a1 0), .int x2, .ref (a2 0), .int x4]).length) Slot.unset).toArray = ls at hl ⊢
  have hl : lv_has ls 11 [(0, .ref (a0 0)), (1, .ref (a1 0)), (2, .int x2), (3, .ref (a2 0)), (4, .int x4)] := hl
  exact t_Mr_textFits_0 ⟨B.exec, B.bytes, hml, findClass_of_methodNamed B.named, atoms_spec (ws := ws_Mr_textFits) B.pre, B.returns, B.notSynchronized, hK⟩ (lv_sub hl [0, 1, 2, 3, 4] rfl) hI va_S.rf h
def ws_Mr_fits2 : List Cond := .code y_Mr_fits prog_4_method_3_code 11 (some .boolean) :: TB
def B_Mr_fits2_147 (s1 : S_Tr) (s2 : S_Tr) (s0 : S_Mr) (x9 : Int32) : Option (Int32 × S_Mr) :=
  (if x9 = 0 ∨ x9 = 1 then some (x9, s0) else none)
def B_Mr_fits2_131 (k81 : S_Mr × Int32 × Int32 × Int32 × Int32 × Int32 × Int32 → Option (Int32 × S_Mr)) (s1 : S_Tr) (s2 : S_Tr) (s0 : S_Mr) (x4 : Int32) (x5 : Int32) (x7 : Int32) (x8 : Int32) (x10 : Int32) (y0 : Int32) : Option (Int32 × S_Mr) :=
  ((F_Tr_behind s2 x8).bind fun o1 => (k81 (s0, x4, x5, x7, o1, y0, (x10 + 1))))
def B_Mr_fits2_130 (k81 : S_Mr × Int32 × Int32 × Int32 × Int32 × Int32 × Int32 → Option (Int32 × S_Mr)) (s1 : S_Tr) (s2 : S_Tr) (s0 : S_Mr) (x4 : Int32) (x5 : Int32) (x7 : Int32) (x8 : Int32) (x10 : Int32) : Option (Int32 × S_Mr) :=
  (B_Mr_fits2_131 k81 s1 s2 s0 x4 x5 x7 x8 x10 (0 : Int32))
def B_Mr_fits2_109 (k81 : S_Mr × Int32 × Int32 × Int32 × Int32 × Int32 × Int32 → Option (Int32 × S_Mr)) (s1 : S_Tr) (s2 : S_Tr) (s0 : S_Mr) (x4 : Int32) (x5 : Int32) (x7 : Int32) (x8 : Int32) (x10 : Int32) : Option (Int32 × S_Mr) :=
  none
def B_Mr_fits2_103 (k81 : S_Mr × Int32 × Int32 × Int32 × Int32 × Int32 × Int32 → Option (Int32 × S_Mr)) (s1 : S_Tr) (s2 : S_Tr) (s0 : S_Mr) (x4 : Int32) (x5 : Int32) (x7 : Int32) (x8 : Int32) (x10 : Int32) : Option (Int32 × S_Mr) :=
  (if (2 : Int32) ≤ x5 then (B_Mr_fits2_130 k81 s1 s2 s0 x4 x5 x7 x8 x10) else (B_Mr_fits2_109 k81 s1 s2 s0 x4 x5 x7 x8 x10))
def B_Mr_fits2_98 (k81 : S_Mr × Int32 × Int32 × Int32 × Int32 × Int32 × Int32 → Option (Int32 × S_Mr)) (s1 : S_Tr) (s2 : S_Tr) (s0 : S_Mr) (x4 : Int32) (x5 : Int32) (x7 : Int32) (x8 : Int32) (x9 : Int32) (x10 : Int32) : Option (Int32 × S_Mr) :=
  (if x9 = 0 then (B_Mr_fits2_103 k81 s1 s2 s0 x4 x5 x7 x8 x10) else (B_Mr_fits2_147 s1 s2 s0 x9))
def B_Mr_fits2_87 (k81 : S_Mr × Int32 × Int32 × Int32 × Int32 × Int32 × Int32 → Option (Int32 × S_Mr)) (s1 : S_Tr) (s2 : S_Tr) (s0 : S_Mr) (x4 : Int32) (x5 : Int32) (x7 : Int32) (x8 : Int32) (x9 : Int32) (x10 : Int32) : Option (Int32 × S_Mr) :=
  ((F_Tr_behind s2 x4).bind fun o1 => (if o1 ≤ x8 then (B_Mr_fits2_147 s1 s2 s0 x9) else (B_Mr_fits2_98 k81 s1 s2 s0 x4 x5 x7 x8 x9 x10)))
def B_Mr_fits2_81 (k81 : S_Mr × Int32 × Int32 × Int32 × Int32 × Int32 × Int32 → Option (Int32 × S_Mr)) (s1 : S_Tr) (s2 : S_Tr) (s0 : S_Mr) (x4 : Int32) (x5 : Int32) (x7 : Int32) (x8 : Int32) (x9 : Int32) (x10 : Int32) : Option (Int32 × S_Mr) :=
  (if (4 : Int32) ≤ x10 then (B_Mr_fits2_147 s1 s2 s0 x9) else (B_Mr_fits2_87 k81 s1 s2 s0 x4 x5 x7 x8 x9 x10))
def L_Mr_fits2_81 (s1 : S_Tr) (s2 : S_Tr) (v : S_Mr × Int32 × Int32 × Int32 × Int32 × Int32 × Int32) : Option (Int32 × S_Mr) := lp (fun k81 v => B_Mr_fits2_81  k81 s1 s2 v.1 v.2.1 v.2.2.1 v.2.2.2.1 v.2.2.2.2.1 v.2.2.2.2.2.1 v.2.2.2.2.2.2) FU v
def B_Mr_fits2_69 (s1 : S_Tr) (s2 : S_Tr) (s0 : S_Mr) (x4 : Int32) (x5 : Int32) (x7 : Int32) : Option (Int32 × S_Mr) :=
  (L_Mr_fits2_81 s1 s2 (s0, x4, x5, x7, (x4 + (1 : Int32)), (0 : Int32), (0 : Int32)))
def B_Mr_fits2_67 (s1 : S_Tr) (s2 : S_Tr) (s0 : S_Mr) : Option (Int32 × S_Mr) :=
  some ((1 : Int32), s0)
def B_Mr_fits2_52 (s1 : S_Tr) (s2 : S_Tr) (s0 : S_Mr) (x2 : Int32) (x4 : Int32) (x5 : Int32) : Option (Int32 × S_Mr) :=
  ((F_Tr_behind s1 x2).bind fun o1 => (if (x2 + (1 : Int32)) = o1 then (B_Mr_fits2_67 s1 s2 s0) else (B_Mr_fits2_69 s1 s2 s0 x4 x5 (x2 + (1 : Int32)))))
def B_Mr_fits2_42 (s1 : S_Tr) (s2 : S_Tr) (s0 : S_Mr) (x2 : Int32) (x4 : Int32) : Option (Int32 × S_Mr) :=
  ((F_Mr_textFits s0 s1 s2 x2 x4).bind fun o1 => (if o1.1 = 0 ∨ o1.1 = 1 then some (o1.1, o1.2) else none))
def B_Mr_fits2_36 (s1 : S_Tr) (s2 : S_Tr) (s0 : S_Mr) (x2 : Int32) (x4 : Int32) (x5 : Int32) (x6 : Int32) : Option (Int32 × S_Mr) :=
  (if x6 = (2 : Int32) then (B_Mr_fits2_42 s1 s2 s0 x2 x4) else (B_Mr_fits2_52 s1 s2 s0 x2 x4 x5))
def B_Mr_fits2_35 (s1 : S_Tr) (s2 : S_Tr) (s0 : S_Mr) (y0 : Int32) : Option (Int32 × S_Mr) :=
  (if y0 = 0 ∨ y0 = 1 then some (y0, s0) else none)
def B_Mr_fits2_34 (s1 : S_Tr) (s2 : S_Tr) (s0 : S_Mr) : Option (Int32 × S_Mr) :=
  (B_Mr_fits2_35 s1 s2 s0 (0 : Int32))
def B_Mr_fits2_30 (s1 : S_Tr) (s2 : S_Tr) (s0 : S_Mr) : Option (Int32 × S_Mr) :=
  (B_Mr_fits2_35 s1 s2 s0 (1 : Int32))
def B_Mr_fits2_16 (s1 : S_Tr) (s2 : S_Tr) (s0 : S_Mr) (x2 : Int32) (x4 : Int32) : Option (Int32 × S_Mr) :=
  ((F_Tr_number s1 x2).bind fun o1 => ((F_Tr_number s2 x4).bind fun o3 => (if o1 = o3 then (B_Mr_fits2_30 s1 s2 s0) else (B_Mr_fits2_34 s1 s2 s0))))
def B_Mr_fits2_0 (s1 : S_Tr) (s2 : S_Tr) (s0 : S_Mr) (x2 : Int32) (x4 : Int32) (x5 : Int32) : Option (Int32 × S_Mr) :=
  ((F_Tr_tag s1 x2).bind fun o1 => ((F_Rn_kindOf o1).bind fun o3 => (if o3 = (1 : Int32) then (B_Mr_fits2_16 s1 s2 s0 x2 x4) else (B_Mr_fits2_36 s1 s2 s0 x2 x4 x5 o3))))
def F_Mr_fits2 (s0 : S_Mr) (s1 : S_Tr) (s2 : S_Tr) (x2 : Int32) (x4 : Int32) (x5 : Int32) : Option (Int32 × S_Mr) := B_Mr_fits2_0 s1 s2 s0 x2 x4 x5
set_option maxRecDepth 100000 in
set_option maxHeartbeats 4000000 in
theorem t_Mr_fits2_147 {p : Program} {l : Launch} {e : Env} {s : State} {m : MethodId} {args : Array Value} {below : List Frame} {meth : Method} {c : Code} {D : va_G} {A : Nat → Prop} {g : Nat → ClassId} {rest : va_W} {a0 : Nat → Nat} {a1 : Nat → Nat} {a2 : Nat → Nat} {ls : Array Slot} {H : Heap} {locs : List Loc} {s1 : S_Tr} {s2 : S_Tr} {s0 : S_Mr} {x9 : Int32} {out : Int32 × S_Mr} (X : Cx p s m args meth c prog_4_method_3_code 11 ws_Mr_fits2 R_Mr (some .boolean) D g) (hl : lv_has ls 11 [(9, .int x9)]) (hI : Iw D A (w_Mr g a0 s0 ++ (w_Tr g a1 s1 ++ (w_Tr g a2 s2 ++ (rest)))) H) (hS : va_S A s.heap H locs) (h : B_Mr_fits2_147  s1 s2 s0 x9 = some out) : W p l e (headSpec ws_Mr_fits2 { frames := 2, cells := 0, slots := 0, locals := 53 }).room s m args below meth c H locs 0 0 (MQ below (QcI D A g out.1 (fun (_ : Unit) => w_Mr g a0 out.2 ++ (w_Tr g a1 s1 ++ (w_Tr g a2 s2 ++ (rest))))) args s 0 0 A) (F0 m 147 ls []) := by
  have X1 := X
  obtain ⟨hx, hb, hml, hown, hts, hr, hlocks, hKK⟩ := X1
  have ht : ∀ w ∈ TB, w.before args s = true := fun w h => hts w (List.mem_cons_of_mem _ h)
  have hK := hKK.1
  unfold B_Mr_fits2_147 at h
  refine lv_iload hx hb d_Mr_fits_147 (lv_at hl 0 rfl) ?_
  have hc1 : x9 = 0 ∨ x9 = 1 := by
    by_cases z : x9 = 0 ∨ x9 = 1
    · exact z
    · exact no_s (it_f h z)
  have h := it_t h hc1
  have h9 := Option.some.inj h
  subst h9
  exact W.zret (v := x9) hx hb hr (by rcases hc1 with z | z <;> rw [z] <;> rfl) (fun t ht hW => ⟨⟨_, (), rfl, rfl, ⟨by rw [ht]; exact hI, hKK.moved hW⟩⟩, hS.F ht⟩) hS.2.2 d_Mr_fits_149
set_option maxRecDepth 100000 in
set_option maxHeartbeats 4000000 in
theorem t_Mr_fits2_131 {p : Program} {l : Launch} {e : Env} {s : State} {m : MethodId} {args : Array Value} {below : List Frame} {meth : Method} {c : Code} {D : va_G} {A : Nat → Prop} {g : Nat → ClassId} {rest : va_W} {a0 : Nat → Nat} {a1 : Nat → Nat} {a2 : Nat → Nat} {ls : Array Slot} {H : Heap} {locs : List Loc} {k81 : S_Mr × Int32 × Int32 × Int32 × Int32 × Int32 × Int32 → Option (Int32 × S_Mr)} {s1 : S_Tr} {s2 : S_Tr} {s0 : S_Mr} {x4 : Int32} {x5 : Int32} {x7 : Int32} {x8 : Int32} {x10 : Int32} {y0 : Int32} {out : Int32 × S_Mr} (X : Cx p s m args meth c prog_4_method_3_code 11 ws_Mr_fits2 R_Mr (some .boolean) D g) (hk81 : ∀ (v : S_Mr × Int32 × Int32 × Int32 × Int32 × Int32 × Int32) (ls : Array Slot) (H : Heap) (locs : List Loc), lv_has ls 11 [(0, .ref (a0 0)), (1, .ref (a1 0)), (3, .ref (a2 0)), (4, .int v.2.1), (5, .int v.2.2.1), (7, .int v.2.2.2.1), (8, .int v.2.2.2.2.1), (9, .int v.2.2.2.2.2.1), (10, .int v.2.2.2.2.2.2)] → Iw D A (w_Mr g a0 v.1 ++ (w_Tr g a1 s1 ++ (w_Tr g a2 s2 ++ (rest)))) H → va_S A s.heap H locs → k81 v = some out → W p l e (headSpec ws_Mr_fits2 { frames := 2, cells := 0, slots := 0, locals := 53 }).room s m args below meth c H locs 0 0 (MQ below (QcI D A g out.1 (fun (_ : Unit) => w_Mr g a0 out.2 ++ (w_Tr g a1 s1 ++ (w_Tr g a2 s2 ++ (rest))))) args s 0 0 A) (F0 m 81 ls [])) (hl : lv_has ls 11 [(0, .ref (a0 0)), (1, .ref (a1 0)), (3, .ref (a2 0)), (4, .int x4), (5, .int x5), (7, .int x7), (8, .int x8), (10, .int x10)]) (hI : Iw D A (w_Mr g a0 s0 ++ (w_Tr g a1 s1 ++ (w_Tr g a2 s2 ++ (rest)))) H) (hS : va_S A s.heap H locs) (h : B_Mr_fits2_131 k81 s1 s2 s0 x4 x5 x7 x8 x10 y0 = some out) : W p l e (headSpec ws_Mr_fits2 { frames := 2, cells := 0, slots := 0, locals := 53 }).room s m args below meth c H locs 0 0 (MQ below (QcI D A g out.1 (fun (_ : Unit) => w_Mr g a0 out.2 ++ (w_Tr g a1 s1 ++ (w_Tr g a2 s2 ++ (rest))))) args s 0 0 A) (F0 m 131 ls [.int y0]) := by
  have X1 := X
  obtain ⟨hx, hb, hml, hown, hts, hr, hlocks, hKK⟩ := X1
  have ht : ∀ w ∈ TB, w.before args s = true := fun w h => hts w (List.mem_cons_of_mem _ h)
  have hK := hKK.1
  unfold B_Mr_fits2_131 at h
  refine lv_istore hx hb d_Mr_fits_131 hl (Nat.le_of_ble_eq_true rfl) rfl (fun ls hl => ?_)
  have hl : lv_has ls 11 [(9, .int y0), (0, .ref (a0 0)), (1, .ref (a1 0)), (3, .ref (a2 0)), (4, .int x4), (5, .int x5), (7, .int x7), (8, .int x8), (10, .int x10)] := hl
  refine lv_aload_n hx hb d_Mr_fits_133 rfl (lv_at hl 3 rfl) ?_
  refine lv_iload hx hb d_Mr_fits_134 (lv_at hl 7 rfl) ?_
  obtain ⟨o1, ho2, h⟩ := bd_s h
  refine cl_i (W1 := fun (_ : Unit) => w_Mr g a0 s0 ++ (w_Tr g a1 s1 ++ (w_Tr g a2 s2 ++ (rest)))) (va_runV (As := [.int x8]) (rest := []) ⟨hx, hb, hml, hown, ht⟩ (c_Tr_behind (l := l) (D := D) (A := A) (g := g) (rest := w_Mr g a0 s0 ++ (w_Tr g a1 s1 ++ (rest))) (a0 := a2) ho2) (cwV 1 ht (gd_V m_622 m_508 m_509 m_9 m_510) rfl rfl rfl (by decide +kernel) ⟨(Nat.le_of_ble_eq_true rfl), (Nat.le_of_ble_eq_true rfl)⟩) (prV (ci := 7) (q0 := 0) hKK hI (mv_2) rfl rfl rfl) rfl rfl hl.1 rfl (lv_room (Nat.le_of_ble_eq_true rfl)) d_Mr_fits_136 ⟨(Nat.le_of_ble_eq_true rfl), (Nat.le_of_ble_eq_true rfl)⟩) hS (fun _ => ((mv_2)).symm) (fun _ H locs hI hS => ?_)
  have hI : Iw D A (w_Mr g a0 s0 ++ (w_Tr g a1 s1 ++ (w_Tr g a2 s2 ++ (rest)))) H := hI
  refine lv_istore hx hb d_Mr_fits_139 hl (Nat.le_of_ble_eq_true rfl) rfl (fun ls hl => ?_)
  have hl : lv_has ls 11 [(8, .int o1), (9, .int y0), (0, .ref (a0 0)), (1, .ref (a1 0)), (3, .ref (a2 0)), (4, .int x4), (5, .int x5), (7, .int x7), (10, .int x10)] := hl
  refine lv_iinc (k := 8) (v := (x10 + 1)) hx hb d_Mr_fits_141 hl rfl (congrArg (fun z => x10 + z) (by decide)) (Nat.le_of_ble_eq_true rfl) rfl (fun ls hl => ?_)
  have hl : lv_has ls 11 [(10, .int (x10 + 1)), (8, .int o1), (9, .int y0), (0, .ref (a0 0)), (1, .ref (a1 0)), (3, .ref (a2 0)), (4, .int x4), (5, .int x5), (7, .int x7)] := hl
  refine lv_goto (tgt := 81) hx hb d_Mr_fits_144 (by decide) ?_
  exact hk81 (s0, x4, x5, x7, o1, y0, (x10 + 1)) _ _ _ (lv_sub hl [3, 4, 5, 6, 7, 8, 1, 2, 0] rfl) hI hS h
set_option maxRecDepth 100000 in
set_option maxHeartbeats 4000000 in
theorem t_Mr_fits2_130 {p : Program} {l : Launch} {e : Env} {s : State} {m : MethodId} {args : Array Value} {below : List Frame} {meth : Method} {c : Code} {D : va_G} {A : Nat → Prop} {g : Nat → ClassId} {rest : va_W} {a0 : Nat → Nat} {a1 : Nat → Nat} {a2 : Nat → Nat} {ls : Array Slot} {H : Heap} {locs : List Loc} {k81 : S_Mr × Int32 × Int32 × Int32 × Int32 × Int32 × Int32 → Option (Int32 × S_Mr)} {s1 : S_Tr} {s2 : S_Tr} {s0 : S_Mr} {x4 : Int32} {x5 : Int32} {x7 : Int32} {x8 : Int32} {x10 : Int32} {out : Int32 × S_Mr} (X : Cx p s m args meth c prog_4_method_3_code 11 ws_Mr_fits2 R_Mr (some .boolean) D g) (hk81 : ∀ (v : S_Mr × Int32 × Int32 × Int32 × Int32 × Int32 × Int32) (ls : Array Slot) (H : Heap) (locs : List Loc), lv_has ls 11 [(0, .ref (a0 0)), (1, .ref (a1 0)), (3, .ref (a2 0)), (4, .int v.2.1), (5, .int v.2.2.1), (7, .int v.2.2.2.1), (8, .int v.2.2.2.2.1), (9, .int v.2.2.2.2.2.1), (10, .int v.2.2.2.2.2.2)] → Iw D A (w_Mr g a0 v.1 ++ (w_Tr g a1 s1 ++ (w_Tr g a2 s2 ++ (rest)))) H → va_S A s.heap H locs → k81 v = some out → W p l e (headSpec ws_Mr_fits2 { frames := 2, cells := 0, slots := 0, locals := 53 }).room s m args below meth c H locs 0 0 (MQ below (QcI D A g out.1 (fun (_ : Unit) => w_Mr g a0 out.2 ++ (w_Tr g a1 s1 ++ (w_Tr g a2 s2 ++ (rest))))) args s 0 0 A) (F0 m 81 ls [])) (hl : lv_has ls 11 [(0, .ref (a0 0)), (1, .ref (a1 0)), (3, .ref (a2 0)), (4, .int x4), (5, .int x5), (7, .int x7), (8, .int x8), (10, .int x10)]) (hI : Iw D A (w_Mr g a0 s0 ++ (w_Tr g a1 s1 ++ (w_Tr g a2 s2 ++ (rest)))) H) (hS : va_S A s.heap H locs) (h : B_Mr_fits2_130 k81 s1 s2 s0 x4 x5 x7 x8 x10 = some out) : W p l e (headSpec ws_Mr_fits2 { frames := 2, cells := 0, slots := 0, locals := 53 }).room s m args below meth c H locs 0 0 (MQ below (QcI D A g out.1 (fun (_ : Unit) => w_Mr g a0 out.2 ++ (w_Tr g a1 s1 ++ (w_Tr g a2 s2 ++ (rest))))) args s 0 0 A) (F0 m 130 ls []) := by
  have X1 := X
  obtain ⟨hx, hb, hml, hown, hts, hr, hlocks, hKK⟩ := X1
  have ht : ∀ w ∈ TB, w.before args s = true := fun w h => hts w (List.mem_cons_of_mem _ h)
  have hK := hKK.1
  unfold B_Mr_fits2_130 at h
  refine lv_iconst (v := 0) hx hb d_Mr_fits_130 (by decide) ?_
  exact t_Mr_fits2_131 X hk81 (lv_sub hl [0, 1, 2, 3, 4, 5, 6, 7] rfl) hI hS h
set_option maxRecDepth 100000 in
set_option maxHeartbeats 4000000 in
theorem t_Mr_fits2_109 {p : Program} {l : Launch} {e : Env} {s : State} {m : MethodId} {args : Array Value} {below : List Frame} {meth : Method} {c : Code} {D : va_G} {A : Nat → Prop} {g : Nat → ClassId} {rest : va_W} {a0 : Nat → Nat} {a1 : Nat → Nat} {a2 : Nat → Nat} {ls : Array Slot} {H : Heap} {locs : List Loc} {k81 : S_Mr × Int32 × Int32 × Int32 × Int32 × Int32 × Int32 → Option (Int32 × S_Mr)} {s1 : S_Tr} {s2 : S_Tr} {s0 : S_Mr} {x4 : Int32} {x5 : Int32} {x7 : Int32} {x8 : Int32} {x10 : Int32} {out : Int32 × S_Mr} (X : Cx p s m args meth c prog_4_method_3_code 11 ws_Mr_fits2 R_Mr (some .boolean) D g) (hk81 : ∀ (v : S_Mr × Int32 × Int32 × Int32 × Int32 × Int32 × Int32) (ls : Array Slot) (H : Heap) (locs : List Loc), lv_has ls 11 [(0, .ref (a0 0)), (1, .ref (a1 0)), (3, .ref (a2 0)), (4, .int v.2.1), (5, .int v.2.2.1), (7, .int v.2.2.2.1), (8, .int v.2.2.2.2.1), (9, .int v.2.2.2.2.2.1), (10, .int v.2.2.2.2.2.2)] → Iw D A (w_Mr g a0 v.1 ++ (w_Tr g a1 s1 ++ (w_Tr g a2 s2 ++ (rest)))) H → va_S A s.heap H locs → k81 v = some out → W p l e (headSpec ws_Mr_fits2 { frames := 2, cells := 0, slots := 0, locals := 53 }).room s m args below meth c H locs 0 0 (MQ below (QcI D A g out.1 (fun (_ : Unit) => w_Mr g a0 out.2 ++ (w_Tr g a1 s1 ++ (w_Tr g a2 s2 ++ (rest))))) args s 0 0 A) (F0 m 81 ls [])) (hl : lv_has ls 11 [(0, .ref (a0 0)), (1, .ref (a1 0)), (3, .ref (a2 0)), (4, .int x4), (5, .int x5), (7, .int x7), (8, .int x8), (10, .int x10)]) (hI : Iw D A (w_Mr g a0 s0 ++ (w_Tr g a1 s1 ++ (w_Tr g a2 s2 ++ (rest)))) H) (hS : va_S A s.heap H locs) (h : B_Mr_fits2_109 k81 s1 s2 s0 x4 x5 x7 x8 x10 = some out) : W p l e (headSpec ws_Mr_fits2 { frames := 2, cells := 0, slots := 0, locals := 53 }).room s m args below meth c H locs 0 0 (MQ below (QcI D A g out.1 (fun (_ : Unit) => w_Mr g a0 out.2 ++ (w_Tr g a1 s1 ++ (w_Tr g a2 s2 ++ (rest))))) args s 0 0 A) (F0 m 109 ls []) := by
  have X1 := X
  obtain ⟨hx, hb, hml, hown, hts, hr, hlocks, hKK⟩ := X1
  have ht : ∀ w ∈ TB, w.before args s = true := fun w h => hts w (List.mem_cons_of_mem _ h)
  have hK := hKK.1
  unfold B_Mr_fits2_109 at h
  refine lv_aload_n hx hb d_Mr_fits_109 rfl (lv_at hl 0 rfl) ?_
  refine lv_aload_n hx hb d_Mr_fits_110 rfl (lv_at hl 1 rfl) ?_
  refine lv_iload hx hb d_Mr_fits_111 (lv_at hl 5 rfl) ?_
  refine lv_aload_n hx hb d_Mr_fits_113 rfl (lv_at hl 2 rfl) ?_
  refine lv_iload hx hb d_Mr_fits_114 (lv_at hl 6 rfl) ?_
  refine lv_iload hx hb d_Mr_fits_116 (lv_at hl 4 rfl) ?_
  refine lv_iconst (v := 1) hx hb d_Mr_fits_118 (by decide) ?_
  refine lv_iadd hx hb d_Mr_fits_119 ?_
  exact no_s h
set_option maxRecDepth 100000 in
set_option maxHeartbeats 4000000 in
theorem t_Mr_fits2_103 {p : Program} {l : Launch} {e : Env} {s : State} {m : MethodId} {args : Array Value} {below : List Frame} {meth : Method} {c : Code} {D : va_G} {A : Nat → Prop} {g : Nat → ClassId} {rest : va_W} {a0 : Nat → Nat} {a1 : Nat → Nat} {a2 : Nat → Nat} {ls : Array Slot} {H : Heap} {locs : List Loc} {k81 : S_Mr × Int32 × Int32 × Int32 × Int32 × Int32 × Int32 → Option (Int32 × S_Mr)} {s1 : S_Tr} {s2 : S_Tr} {s0 : S_Mr} {x4 : Int32} {x5 : Int32} {x7 : Int32} {x8 : Int32} {x10 : Int32} {out : Int32 × S_Mr} (X : Cx p s m args meth c prog_4_method_3_code 11 ws_Mr_fits2 R_Mr (some .boolean) D g) (hk81 : ∀ (v : S_Mr × Int32 × Int32 × Int32 × Int32 × Int32 × Int32) (ls : Array Slot) (H : Heap) (locs : List Loc), lv_has ls 11 [(0, .ref (a0 0)), (1, .ref (a1 0)), (3, .ref (a2 0)), (4, .int v.2.1), (5, .int v.2.2.1), (7, .int v.2.2.2.1), (8, .int v.2.2.2.2.1), (9, .int v.2.2.2.2.2.1), (10, .int v.2.2.2.2.2.2)] → Iw D A (w_Mr g a0 v.1 ++ (w_Tr g a1 s1 ++ (w_Tr g a2 s2 ++ (rest)))) H → va_S A s.heap H locs → k81 v = some out → W p l e (headSpec ws_Mr_fits2 { frames := 2, cells := 0, slots := 0, locals := 53 }).room s m args below meth c H locs 0 0 (MQ below (QcI D A g out.1 (fun (_ : Unit) => w_Mr g a0 out.2 ++ (w_Tr g a1 s1 ++ (w_Tr g a2 s2 ++ (rest))))) args s 0 0 A) (F0 m 81 ls [])) (hl : lv_has ls 11 [(0, .ref (a0 0)), (1, .ref (a1 0)), (3, .ref (a2 0)), (4, .int x4), (5, .int x5), (7, .int x7), (8, .int x8), (10, .int x10)]) (hI : Iw D A (w_Mr g a0 s0 ++ (w_Tr g a1 s1 ++ (w_Tr g a2 s2 ++ (rest)))) H) (hS : va_S A s.heap H locs) (h : B_Mr_fits2_103 k81 s1 s2 s0 x4 x5 x7 x8 x10 = some out) : W p l e (headSpec ws_Mr_fits2 { frames := 2, cells := 0, slots := 0, locals := 53 }).room s m args below meth c H locs 0 0 (MQ below (QcI D A g out.1 (fun (_ : Unit) => w_Mr g a0 out.2 ++ (w_Tr g a1 s1 ++ (w_Tr g a2 s2 ++ (rest))))) args s 0 0 A) (F0 m 103 ls []) := by
  have X1 := X
  obtain ⟨hx, hb, hml, hown, hts, hr, hlocks, hKK⟩ := X1
  have ht : ∀ w ∈ TB, w.before args s = true := fun w h => hts w (List.mem_cons_of_mem _ h)
  have hK := hKK.1
  unfold B_Mr_fits2_103 at h
  refine lv_iload hx hb d_Mr_fits_103 (lv_at hl 4 rfl) ?_
  refine lv_iconst (v := 2) hx hb d_Mr_fits_105 (by decide) ?_
  refine lv_icmp_ge (tgt := 130) hx hb d_Mr_fits_106 (by decide) (fun hc => ?_) (fun hc => ?_)
  · have h := it_t h hc
    exact t_Mr_fits2_130 X hk81 (lv_sub hl [0, 1, 2, 3, 4, 5, 6, 7] rfl) hI hS h
  · have h := it_f h hc
    exact t_Mr_fits2_109 X hk81 (lv_sub hl [0, 1, 2, 3, 4, 5, 6, 7] rfl) hI hS h
set_option maxRecDepth 100000 in
set_option maxHeartbeats 4000000 in
theorem t_Mr_fits2_98 {p : Program} {l : Launch} {e : Env} {s : State} {m : MethodId} {args : Array Value} {below : List Frame} {meth : Method} {c : Code} {D : va_G} {A : Nat → Prop} {g : Nat → ClassId} {rest : va_W} {a0 : Nat → Nat} {a1 : Nat → Nat} {a2 : Nat → Nat} {ls : Array Slot} {H : Heap} {locs : List Loc} {k81 : S_Mr × Int32 × Int32 × Int32 × Int32 × Int32 × Int32 → Option (Int32 × S_Mr)} {s1 : S_Tr} {s2 : S_Tr} {s0 : S_Mr} {x4 : Int32} {x5 : Int32} {x7 : Int32} {x8 : Int32} {x9 : Int32} {x10 : Int32} {out : Int32 × S_Mr} (X : Cx p s m args meth c prog_4_method_3_code 11 ws_Mr_fits2 R_Mr (some .boolean) D g) (hk81 : ∀ (v : S_Mr × Int32 × Int32 × Int32 × Int32 × Int32 × Int32) (ls : Array Slot) (H : Heap) (locs : List Loc), lv_has ls 11 [(0, .ref (a0 0)), (1, .ref (a1 0)), (3, .ref (a2 0)), (4, .int v.2.1), (5, .int v.2.2.1), (7, .int v.2.2.2.1), (8, .int v.2.2.2.2.1), (9, .int v.2.2.2.2.2.1), (10, .int v.2.2.2.2.2.2)] → Iw D A (w_Mr g a0 v.1 ++ (w_Tr g a1 s1 ++ (w_Tr g a2 s2 ++ (rest)))) H → va_S A s.heap H locs → k81 v = some out → W p l e (headSpec ws_Mr_fits2 { frames := 2, cells := 0, slots := 0, locals := 53 }).room s m args below meth c H locs 0 0 (MQ below (QcI D A g out.1 (fun (_ : Unit) => w_Mr g a0 out.2 ++ (w_Tr g a1 s1 ++ (w_Tr g a2 s2 ++ (rest))))) args s 0 0 A) (F0 m 81 ls [])) (hl : lv_has ls 11 [(0, .ref (a0 0)), (1, .ref (a1 0)), (3, .ref (a2 0)), (4, .int x4), (5, .int x5), (7, .int x7), (8, .int x8), (9, .int x9), (10, .int x10)]) (hI : Iw D A (w_Mr g a0 s0 ++ (w_Tr g a1 s1 ++ (w_Tr g a2 s2 ++ (rest)))) H) (hS : va_S A s.heap H locs) (h : B_Mr_fits2_98 k81 s1 s2 s0 x4 x5 x7 x8 x9 x10 = some out) : W p l e (headSpec ws_Mr_fits2 { frames := 2, cells := 0, slots := 0, locals := 53 }).room s m args below meth c H locs 0 0 (MQ below (QcI D A g out.1 (fun (_ : Unit) => w_Mr g a0 out.2 ++ (w_Tr g a1 s1 ++ (w_Tr g a2 s2 ++ (rest))))) args s 0 0 A) (F0 m 98 ls []) := by
  have X1 := X
  obtain ⟨hx, hb, hml, hown, hts, hr, hlocks, hKK⟩ := X1
  have ht : ∀ w ∈ TB, w.before args s = true := fun w h => hts w (List.mem_cons_of_mem _ h)
  have hK := hKK.1
  unfold B_Mr_fits2_98 at h
  refine lv_iload hx hb d_Mr_fits_98 (lv_at hl 7 rfl) ?_
  refine lv_if_ne (tgt := 147) hx hb d_Mr_fits_100 (by decide) (fun hc => ?_) (fun hc => ?_)
  · have h := it_f h hc
    exact t_Mr_fits2_147 X (lv_sub hl [7] rfl) hI hS h
  · have h := it_t h hc
    exact t_Mr_fits2_103 X hk81 (lv_sub hl [0, 1, 2, 3, 4, 5, 6, 8] rfl) hI hS h
set_option maxRecDepth 100000 in
set_option maxHeartbeats 4000000 in
theorem t_Mr_fits2_87 {p : Program} {l : Launch} {e : Env} {s : State} {m : MethodId} {args : Array Value} {below : List Frame} {meth : Method} {c : Code} {D : va_G} {A : Nat → Prop} {g : Nat → ClassId} {rest : va_W} {a0 : Nat → Nat} {a1 : Nat → Nat} {a2 : Nat → Nat} {ls : Array Slot} {H : Heap} {locs : List Loc} {k81 : S_Mr × Int32 × Int32 × Int32 × Int32 × Int32 × Int32 → Option (Int32 × S_Mr)} {s1 : S_Tr} {s2 : S_Tr} {s0 : S_Mr} {x4 : Int32} {x5 : Int32} {x7 : Int32} {x8 : Int32} {x9 : Int32} {x10 : Int32} {out : Int32 × S_Mr} (X : Cx p s m args meth c prog_4_method_3_code 11 ws_Mr_fits2 R_Mr (some .boolean) D g) (hk81 : ∀ (v : S_Mr × Int32 × Int32 × Int32 × Int32 × Int32 × Int32) (ls : Array Slot) (H : Heap) (locs : List Loc), lv_has ls 11 [(0, .ref (a0 0)), (1, .ref (a1 0)), (3, .ref (a2 0)), (4, .int v.2.1), (5, .int v.2.2.1), (7, .int v.2.2.2.1), (8, .int v.2.2.2.2.1), (9, .int v.2.2.2.2.2.1), (10, .int v.2.2.2.2.2.2)] → Iw D A (w_Mr g a0 v.1 ++ (w_Tr g a1 s1 ++ (w_Tr g a2 s2 ++ (rest)))) H → va_S A s.heap H locs → k81 v = some out → W p l e (headSpec ws_Mr_fits2 { frames := 2, cells := 0, slots := 0, locals := 53 }).room s m args below meth c H locs 0 0 (MQ below (QcI D A g out.1 (fun (_ : Unit) => w_Mr g a0 out.2 ++ (w_Tr g a1 s1 ++ (w_Tr g a2 s2 ++ (rest))))) args s 0 0 A) (F0 m 81 ls [])) (hl : lv_has ls 11 [(0, .ref (a0 0)), (1, .ref (a1 0)), (3, .ref (a2 0)), (4, .int x4), (5, .int x5), (7, .int x7), (8, .int x8), (9, .int x9), (10, .int x10)]) (hI : Iw D A (w_Mr g a0 s0 ++ (w_Tr g a1 s1 ++ (w_Tr g a2 s2 ++ (rest)))) H) (hS : va_S A s.heap H locs) (h : B_Mr_fits2_87 k81 s1 s2 s0 x4 x5 x7 x8 x9 x10 = some out) : W p l e (headSpec ws_Mr_fits2 { frames := 2, cells := 0, slots := 0, locals := 53 }).room s m args below meth c H locs 0 0 (MQ below (QcI D A g out.1 (fun (_ : Unit) => w_Mr g a0 out.2 ++ (w_Tr g a1 s1 ++ (w_Tr g a2 s2 ++ (rest))))) args s 0 0 A) (F0 m 87 ls []) := by
  have X1 := X
  obtain ⟨hx, hb, hml, hown, hts, hr, hlocks, hKK⟩ := X1
  have ht : ∀ w ∈ TB, w.before args s = true := fun w h => hts w (List.mem_cons_of_mem _ h)
  have hK := hKK.1
  unfold B_Mr_fits2_87 at h
  refine lv_iload hx hb d_Mr_fits_87 (lv_at hl 6 rfl) ?_
  refine lv_aload_n hx hb d_Mr_fits_89 rfl (lv_at hl 2 rfl) ?_
  refine lv_iload hx hb d_Mr_fits_90 (lv_at hl 3 rfl) ?_
  obtain ⟨o1, ho2, h⟩ := bd_s h
  refine cl_i (W1 := fun (_ : Unit) => w_Mr g a0 s0 ++ (w_Tr g a1 s1 ++ (w_Tr g a2 s2 ++ (rest)))) (va_runV (As := [.int x4]) (rest := [.int x8]) ⟨hx, hb, hml, hown, ht⟩ (c_Tr_behind (l := l) (D := D) (A := A) (g := g) (rest := w_Mr g a0 s0 ++ (w_Tr g a1 s1 ++ (rest))) (a0 := a2) ho2) (cwV 1 ht (gd_V m_622 m_508 m_509 m_9 m_510) rfl rfl rfl (by decide +kernel) ⟨(Nat.le_of_ble_eq_true rfl), (Nat.le_of_ble_eq_true rfl)⟩) (prV (ci := 7) (q0 := 0) hKK hI (mv_2) rfl rfl rfl) rfl rfl hl.1 rfl (lv_room (Nat.le_of_ble_eq_true rfl)) d_Mr_fits_92 ⟨(Nat.le_of_ble_eq_true rfl), (Nat.le_of_ble_eq_true rfl)⟩) hS (fun _ => ((mv_2)).symm) (fun _ H locs hI hS => ?_)
  have hI : Iw D A (w_Mr g a0 s0 ++ (w_Tr g a1 s1 ++ (w_Tr g a2 s2 ++ (rest)))) H := hI
  refine lv_icmp_ge (tgt := 147) hx hb d_Mr_fits_95 (by decide) (fun hc => ?_) (fun hc => ?_)
  · have h := it_t h hc
    exact t_Mr_fits2_147 X (lv_sub hl [7] rfl) hI hS h
  · have h := it_f h hc
    exact t_Mr_fits2_98 X hk81 (lv_sub hl [0, 1, 2, 3, 4, 5, 6, 7, 8] rfl) hI hS h
set_option maxRecDepth 100000 in
set_option maxHeartbeats 4000000 in
theorem t_Mr_fits2_81 {p : Program} {l : Launch} {e : Env} {s : State} {m : MethodId} {args : Array Value} {below : List Frame} {meth : Method} {c : Code} {D : va_G} {A : Nat → Prop} {g : Nat → ClassId} {rest : va_W} {a0 : Nat → Nat} {a1 : Nat → Nat} {a2 : Nat → Nat} {ls : Array Slot} {H : Heap} {locs : List Loc} {k81 : S_Mr × Int32 × Int32 × Int32 × Int32 × Int32 × Int32 → Option (Int32 × S_Mr)} {s1 : S_Tr} {s2 : S_Tr} {s0 : S_Mr} {x4 : Int32} {x5 : Int32} {x7 : Int32} {x8 : Int32} {x9 : Int32} {x10 : Int32} {out : Int32 × S_Mr} (X : Cx p s m args meth c prog_4_method_3_code 11 ws_Mr_fits2 R_Mr (some .boolean) D g) (hk81 : ∀ (v : S_Mr × Int32 × Int32 × Int32 × Int32 × Int32 × Int32) (ls : Array Slot) (H : Heap) (locs : List Loc), lv_has ls 11 [(0, .ref (a0 0)), (1, .ref (a1 0)), (3, .ref (a2 0)), (4, .int v.2.1), (5, .int v.2.2.1), (7, .int v.2.2.2.1), (8, .int v.2.2.2.2.1), (9, .int v.2.2.2.2.2.1), (10, .int v.2.2.2.2.2.2)] → Iw D A (w_Mr g a0 v.1 ++ (w_Tr g a1 s1 ++ (w_Tr g a2 s2 ++ (rest)))) H → va_S A s.heap H locs → k81 v = some out → W p l e (headSpec ws_Mr_fits2 { frames := 2, cells := 0, slots := 0, locals := 53 }).room s m args below meth c H locs 0 0 (MQ below (QcI D A g out.1 (fun (_ : Unit) => w_Mr g a0 out.2 ++ (w_Tr g a1 s1 ++ (w_Tr g a2 s2 ++ (rest))))) args s 0 0 A) (F0 m 81 ls [])) (hl : lv_has ls 11 [(0, .ref (a0 0)), (1, .ref (a1 0)), (3, .ref (a2 0)), (4, .int x4), (5, .int x5), (7, .int x7), (8, .int x8), (9, .int x9), (10, .int x10)]) (hI : Iw D A (w_Mr g a0 s0 ++ (w_Tr g a1 s1 ++ (w_Tr g a2 s2 ++ (rest)))) H) (hS : va_S A s.heap H locs) (h : B_Mr_fits2_81 k81 s1 s2 s0 x4 x5 x7 x8 x9 x10 = some out) : W p l e (headSpec ws_Mr_fits2 { frames := 2, cells := 0, slots := 0, locals := 53 }).room s m args below meth c H locs 0 0 (MQ below (QcI D A g out.1 (fun (_ : Unit) => w_Mr g a0 out.2 ++ (w_Tr g a1 s1 ++ (w_Tr g a2 s2 ++ (rest))))) args s 0 0 A) (F0 m 81 ls []) := by
  have X1 := X
  obtain ⟨hx, hb, hml, hown, hts, hr, hlocks, hKK⟩ := X1
  have ht : ∀ w ∈ TB, w.before args s = true := fun w h => hts w (List.mem_cons_of_mem _ h)
  have hK := hKK.1
  unfold B_Mr_fits2_81 at h
  refine lv_iload hx hb d_Mr_fits_81 (lv_at hl 8 rfl) ?_
  refine lv_iconst (v := 4) hx hb d_Mr_fits_83 (by decide) ?_
  refine lv_icmp_ge (tgt := 147) hx hb d_Mr_fits_84 (by decide) (fun hc => ?_) (fun hc => ?_)
  · have h := it_t h hc
    exact t_Mr_fits2_147 X (lv_sub hl [7] rfl) hI hS h
  · have h := it_f h hc
    exact t_Mr_fits2_87 X hk81 (lv_sub hl [0, 1, 2, 3, 4, 5, 6, 7, 8] rfl) hI hS h
set_option maxRecDepth 100000 in
set_option maxHeartbeats 4000000 in
theorem T_Mr_fits2_81 {p : Program} {l : Launch} {e : Env} {s : State} {m : MethodId} {args : Array Value} {below : List Frame} {meth : Method} {c : Code} {D : va_G} {A : Nat → Prop} {g : Nat → ClassId} {rest : va_W} {a0 : Nat → Nat} {a1 : Nat → Nat} {a2 : Nat → Nat} {ls : Array Slot} {H : Heap} {locs : List Loc} {s1 : S_Tr} {s2 : S_Tr} {s0 : S_Mr} {x4 : Int32} {x5 : Int32} {x7 : Int32} {x8 : Int32} {x9 : Int32} {x10 : Int32} {out : Int32 × S_Mr} (X : Cx p s m args meth c prog_4_method_3_code 11 ws_Mr_fits2 R_Mr (some .boolean) D g) (hl : lv_has ls 11 [(0, .ref (a0 0)), (1, .ref (a1 0)), (3, .ref (a2 0)), (4, .int x4), (5, .int x5), (7, .int x7), (8, .int x8), (9, .int x9), (10, .int x10)]) (hI : Iw D A (w_Mr g a0 s0 ++ (w_Tr g a1 s1 ++ (w_Tr g a2 s2 ++ (rest)))) H) (hS : va_S A s.heap H locs) (h : L_Mr_fits2_81  s1 s2 (s0, x4, x5, x7, x8, x9, x10) = some out) : W p l e (headSpec ws_Mr_fits2 { frames := 2, cells := 0, slots := 0, locals := 53 }).room s m args below meth c H locs 0 0 (MQ below (QcI D A g out.1 (fun (_ : Unit) => w_Mr g a0 out.2 ++ (w_Tr g a1 s1 ++ (w_Tr g a2 s2 ++ (rest))))) args s 0 0 A) (F0 m 81 ls []) := by
  unfold L_Mr_fits2_81 at h
  exact lp_ind (P := fun v => ∀ (ls : Array Slot) (H : Heap) (locs : List Loc), lv_has ls 11 [(0, .ref (a0 0)), (1, .ref (a1 0)), (3, .ref (a2 0)), (4, .int v.2.1), (5, .int v.2.2.1), (7, .int v.2.2.2.1), (8, .int v.2.2.2.2.1), (9, .int v.2.2.2.2.2.1), (10, .int v.2.2.2.2.2.2)] → Iw D A (w_Mr g a0 v.1 ++ (w_Tr g a1 s1 ++ (w_Tr g a2 s2 ++ (rest)))) H → va_S A s.heap H locs → W p l e (headSpec ws_Mr_fits2 { frames := 2, cells := 0, slots := 0, locals := 53 }).room s m args below meth c H locs 0 0 (MQ below (QcI D A g out.1 (fun (_ : Unit) => w_Mr g a0 out.2 ++ (w_Tr g a1 s1 ++ (w_Tr g a2 s2 ++ (rest))))) args s 0 0 A) (F0 m 81 ls [])) (fun k v ih hb ls H locs  hl hI hS => t_Mr_fits2_81 X  (fun v' ls H locs  hl hI hS h' => ih v' h' ls H locs  hl hI hS) hl hI hS hb) FU _ h ls H locs  hl hI hS
set_option maxRecDepth 100000 in
set_option maxHeartbeats 4000000 in
theorem t_Mr_fits2_69 {p : Program} {l : Launch} {e : Env} {s : State} {m : MethodId} {args : Array Value} {below : List Frame} {meth : Method} {c : Code} {D : va_G} {A : Nat → Prop} {g : Nat → ClassId} {rest : va_W} {a0 : Nat → Nat} {a1 : Nat → Nat} {a2 : Nat → Nat} {ls : Array Slot} {H : Heap} {locs : List Loc} {s1 : S_Tr} {s2 : S_Tr} {s0 : S_Mr} {x4 : Int32} {x5 : Int32} {x7 : Int32} {out : Int32 × S_Mr} (X : Cx p s m args meth c prog_4_method_3_code 11 ws_Mr_fits2 R_Mr (some .boolean) D g) (hl : lv_has ls 11 [(0, .ref (a0 0)), (1, .ref (a1 0)), (3, .ref (a2 0)), (4, .int x4), (5, .int x5), (7, .int x7)]) (hI : Iw D A (w_Mr g a0 s0 ++ (w_Tr g a1 s1 ++ (w_Tr g a2 s2 ++ (rest)))) H) (hS : va_S A s.heap H locs) (h : B_Mr_fits2_69  s1 s2 s0 x4 x5 x7 = some out) : W p l e (headSpec ws_Mr_fits2 { frames := 2, cells := 0, slots := 0, locals := 53 }).room s m args below meth c H locs 0 0 (MQ below (QcI D A g out.1 (fun (_ : Unit) => w_Mr g a0 out.2 ++ (w_Tr g a1 s1 ++ (w_Tr g a2 s2 ++ (rest))))) args s 0 0 A) (F0 m 69 ls []) := by
  have X1 := X
  obtain ⟨hx, hb, hml, hown, hts, hr, hlocks, hKK⟩ := X1
  have ht : ∀ w ∈ TB, w.before args s = true := fun w h => hts w (List.mem_cons_of_mem _ h)
  have hK := hKK.1
  unfold B_Mr_fits2_69 at h
  refine lv_iload hx hb d_Mr_fits_69 (lv_at hl 3 rfl) ?_
  refine lv_iconst (v := 1) hx hb d_Mr_fits_71 (by decide) ?_
  refine lv_iadd hx hb d_Mr_fits_72 ?_
  refine lv_istore hx hb d_Mr_fits_73 hl (Nat.le_of_ble_eq_true rfl) rfl (fun ls hl => ?_)
  have hl : lv_has ls 11 [(8, .int (x4 + (1 : Int32))), (0, .ref (a0 0)), (1, .ref (a1 0)), (3, .ref (a2 0)), (4, .int x4), (5, .int x5), (7, .int x7)] := hl
  refine lv_iconst (v := 0) hx hb d_Mr_fits_75 (by decide) ?_
  refine lv_istore hx hb d_Mr_fits_76 hl (Nat.le_of_ble_eq_true rfl) rfl (fun ls hl => ?_)
  have hl : lv_has ls 11 [(9, .int (0 : Int32)), (8, .int (x4 + (1 : Int32))), (0, .ref (a0 0)), (1, .ref (a1 0)), (3, .ref (a2 0)), (4, .int x4), (5, .int x5), (7, .int x7)] := hl
  refine lv_iconst (v := 0) hx hb d_Mr_fits_78 (by decide) ?_
  refine lv_istore hx hb d_Mr_fits_79 hl (Nat.le_of_ble_eq_true rfl) rfl (fun ls hl => ?_)
  have hl : lv_has ls 11 [(10, .int (0 : Int32)), (9, .int (0 : Int32)), (8, .int (x4 + (1 : Int32))), (0, .ref (a0 0)), (1, .ref (a1 0)), (3, .ref (a2 0)), (4, .int x4), (5, .int x5), (7, .int x7)] := hl
  exact T_Mr_fits2_81 X (lv_sub hl [3, 4, 5, 6, 7, 8, 2, 1, 0] rfl) hI hS h
set_option maxRecDepth 100000 in
set_option maxHeartbeats 4000000 in
theorem t_Mr_fits2_67 {p : Program} {l : Launch} {e : Env} {s : State} {m : MethodId} {args : Array Value} {below : List Frame} {meth : Method} {c : Code} {D : va_G} {A : Nat → Prop} {g : Nat → ClassId} {rest : va_W} {a0 : Nat → Nat} {a1 : Nat → Nat} {a2 : Nat → Nat} {ls : Array Slot} {H : Heap} {locs : List Loc} {s1 : S_Tr} {s2 : S_Tr} {s0 : S_Mr} {out : Int32 × S_Mr} (X : Cx p s m args meth c prog_4_method_3_code 11 ws_Mr_fits2 R_Mr (some .boolean) D g) (hl : lv_has ls 11 []) (hI : Iw D A (w_Mr g a0 s0 ++ (w_Tr g a1 s1 ++ (w_Tr g a2 s2 ++ (rest)))) H) (hS : va_S A s.heap H locs) (h : B_Mr_fits2_67  s1 s2 s0 = some out) : W p l e (headSpec ws_Mr_fits2 { frames := 2, cells := 0, slots := 0, locals := 53 }).room s m args below meth c H locs 0 0 (MQ below (QcI D A g out.1 (fun (_ : Unit) => w_Mr g a0 out.2 ++ (w_Tr g a1 s1 ++ (w_Tr g a2 s2 ++ (rest))))) args s 0 0 A) (F0 m 67 ls []) := by
  have X1 := X
  obtain ⟨hx, hb, hml, hown, hts, hr, hlocks, hKK⟩ := X1
  have ht : ∀ w ∈ TB, w.before args s = true := fun w h => hts w (List.mem_cons_of_mem _ h)
  have hK := hKK.1
  unfold B_Mr_fits2_67 at h
  refine lv_iconst (v := 1) hx hb d_Mr_fits_67 (by decide) ?_
  have h9 := Option.some.inj h
  subst h9
  exact W.zret (v := (1 : Int32)) hx hb hr rfl (fun t ht hW => ⟨⟨_, (), rfl, rfl, ⟨by rw [ht]; exact hI, hKK.moved hW⟩⟩, hS.F ht⟩) hS.2.2 d_Mr_fits_68
set_option maxRecDepth 100000 in
set_option maxHeartbeats 4000000 in
theorem t_Mr_fits2_52 {p : Program} {l : Launch} {e : Env} {s : State} {m : MethodId} {args : Array Value} {below : List Frame} {meth : Method} {c : Code} {D : va_G} {A : Nat → Prop} {g : Nat → ClassId} {rest : va_W} {a0 : Nat → Nat} {a1 : Nat → Nat} {a2 : Nat → Nat} {ls : Array Slot} {H : Heap} {locs : List Loc} {s1 : S_Tr} {s2 : S_Tr} {s0 : S_Mr} {x2 : Int32} {x4 : Int32} {x5 : Int32} {out : Int32 × S_Mr} (X : Cx p s m args meth c prog_4_method_3_code 11 ws_Mr_fits2 R_Mr (some .boolean) D g) (hl : lv_has ls 11 [(0, .ref (a0 0)), (1, .ref (a1 0)), (2, .int x2), (3, .ref (a2 0)), (4, .int x4), (5, .int x5)]) (hI : Iw D A (w_Mr g a0 s0 ++ (w_Tr g a1 s1 ++ (w_Tr g a2 s2 ++ (rest)))) H) (hS : va_S A s.heap H locs) (h : B_Mr_fits2_52  s1 s2 s0 x2 x4 x5 = some out) : W p l e (headSpec ws_Mr_fits2 { frames := 2, cells := 0, slots := 0, locals := 53 }).room s m args below meth c H locs 0 0 (MQ below (QcI D A g out.1 (fun (_ : Unit) => w_Mr g a0 out.2 ++ (w_Tr g a1 s1 ++ (w_Tr g a2 s2 ++ (rest))))) args s 0 0 A) (F0 m 52 ls []) := by
  have X1 := X
  obtain ⟨hx, hb, hml, hown, hts, hr, hlocks, hKK⟩ := X1
  have ht : ∀ w ∈ TB, w.before args s = true := fun w h => hts w (List.mem_cons_of_mem _ h)
  have hK := hKK.1
  unfold B_Mr_fits2_52 at h
  refine lv_iload_n hx hb d_Mr_fits_52 rfl (lv_at hl 2 rfl) ?_
  refine lv_iconst (v := 1) hx hb d_Mr_fits_53 (by decide) ?_
  refine lv_iadd hx hb d_Mr_fits_54 ?_
  refine lv_istore hx hb d_Mr_fits_55 hl (Nat.le_of_ble_eq_true rfl) rfl (fun ls hl => ?_)
  have hl : lv_has ls 11 [(7, .int (x2 + (1 : Int32))), (0, .ref (a0 0)), (1, .ref (a1 0)), (2, .int x2), (3, .ref (a2 0)), (4, .int x4), (5, .int x5)] := hl
  refine lv_iload hx hb d_Mr_fits_57 (lv_at hl 0 rfl) ?_
  refine lv_aload_n hx hb d_Mr_fits_59 rfl (lv_at hl 2 rfl) ?_
  refine lv_iload_n hx hb d_Mr_fits_60 rfl (lv_at hl 3 rfl) ?_
  obtain ⟨o1, ho2, h⟩ := bd_s h
  refine cl_i (W1 := fun (_ : Unit) => w_Mr g a0 s0 ++ (w_Tr g a1 s1 ++ (w_Tr g a2 s2 ++ (rest)))) (va_runV (As := [.int x2]) (rest := [.int (x2 + (1 : Int32))]) ⟨hx, hb, hml, hown, ht⟩ (c_Tr_behind (l := l) (D := D) (A := A) (g := g) (rest := w_Mr g a0 s0 ++ (w_Tr g a2 s2 ++ (rest))) (a0 := a1) ho2) (cwV 1 ht (gd_V m_622 m_508 m_509 m_9 m_510) rfl rfl rfl (by decide +kernel) ⟨(Nat.le_of_ble_eq_true rfl), (Nat.le_of_ble_eq_true rfl)⟩) (prV (ci := 7) (q0 := 0) hKK hI (mv_1) rfl rfl rfl) rfl rfl hl.1 rfl (lv_room (Nat.le_of_ble_eq_true rfl)) d_Mr_fits_61 ⟨(Nat.le_of_ble_eq_true rfl), (Nat.le_of_ble_eq_true rfl)⟩) hS (fun _ => ((mv_1)).symm) (fun _ H locs hI hS => ?_)
  have hI : Iw D A (w_Mr g a0 s0 ++ (w_Tr g a1 s1 ++ (w_Tr g a2 s2 ++ (rest)))) H := hI
  refine lv_icmp_ne (tgt := 69) hx hb d_Mr_fits_64 (by decide) (fun hc => ?_) (fun hc => ?_)
  · have h := it_f h hc
    exact t_Mr_fits2_69 X (lv_sub hl [1, 2, 4, 5, 6, 0] rfl) hI hS h
  · have h := it_t h hc
    exact t_Mr_fits2_67 X (lv_sub hl [] rfl) hI hS h
set_option maxRecDepth 100000 in
set_option maxHeartbeats 4000000 in
theorem t_Mr_fits2_42 {p : Program} {l : Launch} {e : Env} {s : State} {m : MethodId} {args : Array Value} {below : List Frame} {meth : Method} {c : Code} {D : va_G} {A : Nat → Prop} {g : Nat → ClassId} {rest : va_W} {a0 : Nat → Nat} {a1 : Nat → Nat} {a2 : Nat → Nat} {ls : Array Slot} {H : Heap} {locs : List Loc} {s1 : S_Tr} {s2 : S_Tr} {s0 : S_Mr} {x2 : Int32} {x4 : Int32} {out : Int32 × S_Mr} (X : Cx p s m args meth c prog_4_method_3_code 11 ws_Mr_fits2 R_Mr (some .boolean) D g) (hl : lv_has ls 11 [(0, .ref (a0 0)), (1, .ref (a1 0)), (2, .int x2), (3, .ref (a2 0)), (4, .int x4)]) (hI : Iw D A (w_Mr g a0 s0 ++ (w_Tr g a1 s1 ++ (w_Tr g a2 s2 ++ (rest)))) H) (hS : va_S A s.heap H locs) (h : B_Mr_fits2_42  s1 s2 s0 x2 x4 = some out) : W p l e (headSpec ws_Mr_fits2 { frames := 2, cells := 0, slots := 0, locals := 53 }).room s m args below meth c H locs 0 0 (MQ below (QcI D A g out.1 (fun (_ : Unit) => w_Mr g a0 out.2 ++ (w_Tr g a1 s1 ++ (w_Tr g a2 s2 ++ (rest))))) args s 0 0 A) (F0 m 42 ls []) := by
  have X1 := X
  obtain ⟨hx, hb, hml, hown, hts, hr, hlocks, hKK⟩ := X1
  have ht : ∀ w ∈ TB, w.before args s = true := fun w h => hts w (List.mem_cons_of_mem _ h)
  have hK := hKK.1
  unfold B_Mr_fits2_42 at h
  refine lv_aload_n hx hb d_Mr_fits_42 rfl (lv_at hl 0 rfl) ?_
  refine lv_aload_n hx hb d_Mr_fits_43 rfl (lv_at hl 1 rfl) ?_
  refine lv_iload_n hx hb d_Mr_fits_44 rfl (lv_at hl 2 rfl) ?_
  refine lv_aload_n hx hb d_Mr_fits_45 rfl (lv_at hl 3 rfl) ?_
  refine lv_iload hx hb d_Mr_fits_46 (lv_at hl 4 rfl) ?_
  obtain ⟨o1, ho2, h⟩ := bd_s h
  refine cl_i (W1 := fun (_ : Unit) => w_Mr g a0 o1.2 ++ (w_Tr g a1 s1 ++ (w_Tr g a2 s2 ++ (rest)))) (va_runV (As := [.ref (a1 0), .int x2, .ref (a2 0), .int x4]) (rest := []) ⟨hx, hb, hml, hown, ht⟩ (c_Mr_textFits (l := l) (D := D) (A := A) (g := g) (rest := rest) (a0 := a0) (a1 := a1) (a2 := a2) ho2) (cwV 4 ht (gd_V m_631 m_633 mp_35 m_10 m_634) rfl rfl rfl (by decide +kernel) ⟨(Nat.le_of_ble_eq_true rfl), (Nat.le_of_ble_eq_true rfl)⟩) (prV (ci := 2) (q0 := 0) hKK hI ((mv_2).trans ((mv_2).trans (mv_2))) rfl rfl rfl) rfl rfl hl.1 rfl (lv_room (Nat.le_of_ble_eq_true rfl)) d_Mr_fits_48 ⟨(Nat.le_of_ble_eq_true rfl), (Nat.le_of_ble_eq_true rfl)⟩) hS (fun _ => (((mv_2).trans ((mv_2).trans (mv_2)))).symm) (fun _ H locs hI hS => ?_)
  have hI : Iw D A (w_Mr g a0 o1.2 ++ (w_Tr g a1 s1 ++ (w_Tr g a2 s2 ++ (rest)))) H := hI
  have hc3 : o1.1 = 0 ∨ o1.1 = 1 := by
    by_cases z : o1.1 = 0 ∨ o1.1 = 1
    · exact z
    · exact no_s (it_f h z)
  have h := it_t h hc3
  have h9 := Option.some.inj h
  subst h9
  exact W.zret (v := o1.1) hx hb hr (by rcases hc3 with z | z <;> rw [z] <;> rfl) (fun t ht hW => ⟨⟨_, (), rfl, rfl, ⟨by rw [ht]; exact hI, hKK.moved hW⟩⟩, hS.F ht⟩) hS.2.2 d_Mr_fits_51
set_option maxRecDepth 100000 in
set_option maxHeartbeats 4000000 in
theorem t_Mr_fits2_36 {p : Program} {l : Launch} {e : Env} {s : State} {m : MethodId} {args : Array Value} {below : List Frame} {meth : Method} {c : Code} {D : va_G} {A : Nat → Prop} {g : Nat → ClassId} {rest : va_W} {a0 : Nat → Nat} {a1 : Nat → Nat} {a2 : Nat → Nat} {ls : Array Slot} {H : Heap} {locs : List Loc} {s1 : S_Tr} {s2 : S_Tr} {s0 : S_Mr} {x2 : Int32} {x4 : Int32} {x5 : Int32} {x6 : Int32} {out : Int32 × S_Mr} (X : Cx p s m args meth c prog_4_method_3_code 11 ws_Mr_fits2 R_Mr (some .boolean) D g) (hl : lv_has ls 11 [(0, .ref (a0 0)), (1, .ref (a1 0)), (2, .int x2), (3, .ref (a2 0)), (4, .int x4), (5, .int x5), (6, .int x6)]) (hI : Iw D A (w_Mr g a0 s0 ++ (w_Tr g a1 s1 ++ (w_Tr g a2 s2 ++ (rest)))) H) (hS : va_S A s.heap H locs) (h : B_Mr_fits2_36  s1 s2 s0 x2 x4 x5 x6 = some out) : W p l e (headSpec ws_Mr_fits2 { frames := 2, cells := 0, slots := 0, locals := 53 }).room s m args below meth c H locs 0 0 (MQ below (QcI D A g out.1 (fun (_ : Unit) => w_Mr g a0 out.2 ++ (w_Tr g a1 s1 ++ (w_Tr g a2 s2 ++ (rest))))) args s 0 0 A) (F0 m 36 ls []) := by
  have X1 := X
  obtain ⟨hx, hb, hml, hown, hts, hr, hlocks, hKK⟩ := X1
  have ht : ∀ w ∈ TB, w.before args s = true := fun w h => hts w (List.mem_cons_of_mem _ h)
  have hK := hKK.1
  unfold B_Mr_fits2_36 at h
  refine lv_iload hx hb d_Mr_fits_36 (lv_at hl 6 rfl) ?_
  refine lv_iconst (v := 2) hx hb d_Mr_fits_38 (by decide) ?_
  refine lv_icmp_ne (tgt := 52) hx hb d_Mr_fits_39 (by decide) (fun hc => ?_) (fun hc => ?_)
  · have h := it_f h hc
    exact t_Mr_fits2_52 X (lv_sub hl [0, 1, 2, 3, 4, 5] rfl) hI hS h
  · have h := it_t h hc
    exact t_Mr_fits2_42 X (lv_sub hl [0, 1, 2, 3, 4] rfl) hI hS h
set_option maxRecDepth 100000 in
set_option maxHeartbeats 4000000 in
theorem t_Mr_fits2_35 {p : Program} {l : Launch} {e : Env} {s : State} {m : MethodId} {args : Array Value} {below : List Frame} {meth : Method} {c : Code} {D : va_G} {A : Nat → Prop} {g : Nat → ClassId} {rest : va_W} {a0 : Nat → Nat} {a1 : Nat → Nat} {a2 : Nat → Nat} {ls : Array Slot} {H : Heap} {locs : List Loc} {s1 : S_Tr} {s2 : S_Tr} {s0 : S_Mr} {y0 : Int32} {out : Int32 × S_Mr} (X : Cx p s m args meth c prog_4_method_3_code 11 ws_Mr_fits2 R_Mr (some .boolean) D g) (hl : lv_has ls 11 []) (hI : Iw D A (w_Mr g a0 s0 ++ (w_Tr g a1 s1 ++ (w_Tr g a2 s2 ++ (rest)))) H) (hS : va_S A s.heap H locs) (h : B_Mr_fits2_35  s1 s2 s0 y0 = some out) : W p l e (headSpec ws_Mr_fits2 { frames := 2, cells := 0, slots := 0, locals := 53 }).room s m args below meth c H locs 0 0 (MQ below (QcI D A g out.1 (fun (_ : Unit) => w_Mr g a0 out.2 ++ (w_Tr g a1 s1 ++ (w_Tr g a2 s2 ++ (rest))))) args s 0 0 A) (F0 m 35 ls [.int y0]) := by
  have X1 := X
  obtain ⟨hx, hb, hml, hown, hts, hr, hlocks, hKK⟩ := X1
  have ht : ∀ w ∈ TB, w.before args s = true := fun w h => hts w (List.mem_cons_of_mem _ h)
  have hK := hKK.1
  unfold B_Mr_fits2_35 at h
  have hc1 : y0 = 0 ∨ y0 = 1 := by
    by_cases z : y0 = 0 ∨ y0 = 1
    · exact z
    · exact no_s (it_f h z)
  have h := it_t h hc1
  have h9 := Option.some.inj h
  subst h9
  exact W.zret (v := y0) hx hb hr (by rcases hc1 with z | z <;> rw [z] <;> rfl) (fun t ht hW => ⟨⟨_, (), rfl, rfl, ⟨by rw [ht]; exact hI, hKK.moved hW⟩⟩, hS.F ht⟩) hS.2.2 d_Mr_fits_35
set_option maxRecDepth 100000 in
set_option maxHeartbeats 4000000 in
theorem t_Mr_fits2_34 {p : Program} {l : Launch} {e : Env} {s : State} {m : MethodId} {args : Array Value} {below : List Frame} {meth : Method} {c : Code} {D : va_G} {A : Nat → Prop} {g : Nat → ClassId} {rest : va_W} {a0 : Nat → Nat} {a1 : Nat → Nat} {a2 : Nat → Nat} {ls : Array Slot} {H : Heap} {locs : List Loc} {s1 : S_Tr} {s2 : S_Tr} {s0 : S_Mr} {out : Int32 × S_Mr} (X : Cx p s m args meth c prog_4_method_3_code 11 ws_Mr_fits2 R_Mr (some .boolean) D g) (hl : lv_has ls 11 []) (hI : Iw D A (w_Mr g a0 s0 ++ (w_Tr g a1 s1 ++ (w_Tr g a2 s2 ++ (rest)))) H) (hS : va_S A s.heap H locs) (h : B_Mr_fits2_34  s1 s2 s0 = some out) : W p l e (headSpec ws_Mr_fits2 { frames := 2, cells := 0, slots := 0, locals := 53 }).room s m args below meth c H locs 0 0 (MQ below (QcI D A g out.1 (fun (_ : Unit) => w_Mr g a0 out.2 ++ (w_Tr g a1 s1 ++ (w_Tr g a2 s2 ++ (rest))))) args s 0 0 A) (F0 m 34 ls []) := by
  have X1 := X
  obtain ⟨hx, hb, hml, hown, hts, hr, hlocks, hKK⟩ := X1
  have ht : ∀ w ∈ TB, w.before args s = true := fun w h => hts w (List.mem_cons_of_mem _ h)
  have hK := hKK.1
  unfold B_Mr_fits2_34 at h
  refine lv_iconst (v := 0) hx hb d_Mr_fits_34 (by decide) ?_
  exact t_Mr_fits2_35 X (lv_sub hl [] rfl) hI hS h
set_option maxRecDepth 100000 in
set_option maxHeartbeats 4000000 in
theorem t_Mr_fits2_30 {p : Program} {l : Launch} {e : Env} {s : State} {m : MethodId} {args : Array Value} {below : List Frame} {meth : Method} {c : Code} {D : va_G} {A : Nat → Prop} {g : Nat → ClassId} {rest : va_W} {a0 : Nat → Nat} {a1 : Nat → Nat} {a2 : Nat → Nat} {ls : Array Slot} {H : Heap} {locs : List Loc} {s1 : S_Tr} {s2 : S_Tr} {s0 : S_Mr} {out : Int32 × S_Mr} (X : Cx p s m args meth c prog_4_method_3_code 11 ws_Mr_fits2 R_Mr (some .boolean) D g) (hl : lv_has ls 11 []) (hI : Iw D A (w_Mr g a0 s0 ++ (w_Tr g a1 s1 ++ (w_Tr g a2 s2 ++ (rest)))) H) (hS : va_S A s.heap H locs) (h : B_Mr_fits2_30  s1 s2 s0 = some out) : W p l e (headSpec ws_Mr_fits2 { frames := 2, cells := 0, slots := 0, locals := 53 }).room s m args below meth c H locs 0 0 (MQ below (QcI D A g out.1 (fun (_ : Unit) => w_Mr g a0 out.2 ++ (w_Tr g a1 s1 ++ (w_Tr g a2 s2 ++ (rest))))) args s 0 0 A) (F0 m 30 ls []) := by
  have X1 := X
  obtain ⟨hx, hb, hml, hown, hts, hr, hlocks, hKK⟩ := X1
  have ht : ∀ w ∈ TB, w.before args s = true := fun w h => hts w (List.mem_cons_of_mem _ h)
  have hK := hKK.1
  unfold B_Mr_fits2_30 at h
  refine lv_iconst (v := 1) hx hb d_Mr_fits_30 (by decide) ?_
  refine lv_goto (tgt := 35) hx hb d_Mr_fits_31 (by decide) ?_
  exact t_Mr_fits2_35 X (lv_sub hl [] rfl) hI hS h
set_option maxRecDepth 100000 in
set_option maxHeartbeats 4000000 in
theorem t_Mr_fits2_16 {p : Program} {l : Launch} {e : Env} {s : State} {m : MethodId} {args : Array Value} {below : List Frame} {meth : Method} {c : Code} {D : va_G} {A : Nat → Prop} {g : Nat → ClassId} {rest : va_W} {a0 : Nat → Nat} {a1 : Nat → Nat} {a2 : Nat → Nat} {ls : Array Slot} {H : Heap} {locs : List Loc} {s1 : S_Tr} {s2 : S_Tr} {s0 : S_Mr} {x2 : Int32} {x4 : Int32} {out : Int32 × S_Mr} (X : Cx p s m args meth c prog_4_method_3_code 11 ws_Mr_fits2 R_Mr (some .boolean) D g) (hl : lv_has ls 11 [(1, .ref (a1 0)), (2, .int x2), (3, .ref (a2 0)), (4, .int x4)]) (hI : Iw D A (w_Mr g a0 s0 ++ (w_Tr g a1 s1 ++ (w_Tr g a2 s2 ++ (rest)))) H) (hS : va_S A s.heap H locs) (h : B_Mr_fits2_16  s1 s2 s0 x2 x4 = some out) : W p l e (headSpec ws_Mr_fits2 { frames := 2, cells := 0, slots := 0, locals := 53 }).room s m args below meth c H locs 0 0 (MQ below (QcI D A g out.1 (fun (_ : Unit) => w_Mr g a0 out.2 ++ (w_Tr g a1 s1 ++ (w_Tr g a2 s2 ++ (rest))))) args s 0 0 A) (F0 m 16 ls []) := by
  have X1 := X
  obtain ⟨hx, hb, hml, hown, hts, hr, hlocks, hKK⟩ := X1
  have ht : ∀ w ∈ TB, w.before args s = true := fun w h => hts w (List.mem_cons_of_mem _ h)
  have hK := hKK.1
  unfold B_Mr_fits2_16 at h
  refine lv_aload_n hx hb d_Mr_fits_16 rfl (lv_at hl 0 rfl) ?_
  refine lv_iload_n hx hb d_Mr_fits_17 rfl (lv_at hl 1 rfl) ?_
  obtain ⟨o1, ho2, h⟩ := bd_s h
  refine cl_i (W1 := fun (_ : Unit) => w_Mr g a0 s0 ++ (w_Tr g a1 s1 ++ (w_Tr g a2 s2 ++ (rest)))) (va_runV (As := [.int x2]) (rest := []) ⟨hx, hb, hml, hown, ht⟩ (c_Tr_number (l := l) (D := D) (A := A) (g := g) (rest := w_Mr g a0 s0 ++ (w_Tr g a2 s2 ++ (rest))) (a0 := a1) ho2) (cwV 1 ht (gd_V m_630 m_516 m_517 m_9 m_518) rfl rfl rfl (by decide +kernel) ⟨(Nat.le_of_ble_eq_true rfl), (Nat.le_of_ble_eq_true rfl)⟩) (prV (ci := 7) (q0 := 0) hKK hI (mv_1) rfl rfl rfl) rfl rfl hl.1 rfl (lv_room (Nat.le_of_ble_eq_true rfl)) d_Mr_fits_18 ⟨(Nat.le_of_ble_eq_true rfl), (Nat.le_of_ble_eq_true rfl)⟩) hS (fun _ => ((mv_1)).symm) (fun _ H locs hI hS => ?_)
  have hI : Iw D A (w_Mr g a0 s0 ++ (w_Tr g a1 s1 ++ (w_Tr g a2 s2 ++ (rest)))) H := hI
  refine lv_aload_n hx hb d_Mr_fits_21 rfl (lv_at hl 2 rfl) ?_
  refine lv_iload hx hb d_Mr_fits_22 (lv_at hl 3 rfl) ?_
  obtain ⟨o3, ho4, h⟩ := bd_s h
  refine cl_i (W1 := fun (_ : Unit) => w_Mr g a0 s0 ++ (w_Tr g a1 s1 ++ (w_Tr g a2 s2 ++ (rest)))) (va_runV (As := [.int x4]) (rest := [.int o1]) ⟨hx, hb, hml, hown, ht⟩ (c_Tr_number (l := l) (D := D) (A := A) (g := g) (rest := w_Mr g a0 s0 ++ (w_Tr g a1 s1 ++ (rest))) (a0 := a2) ho4) (cwV 1 ht (gd_V m_630 m_516 m_517 m_9 m_518) rfl rfl rfl (by decide +kernel) ⟨(Nat.le_of_ble_eq_true rfl), (Nat.le_of_ble_eq_true rfl)⟩) (prV (ci := 7) (q0 := 0) hKK hI (mv_2) rfl rfl rfl) rfl rfl hl.1 rfl (lv_room (Nat.le_of_ble_eq_true rfl)) d_Mr_fits_24 ⟨(Nat.le_of_ble_eq_true rfl), (Nat.le_of_ble_eq_true rfl)⟩) hS (fun _ => ((mv_2)).symm) (fun _ H locs hI hS => ?_)
  have hI : Iw D A (w_Mr g a0 s0 ++ (w_Tr g a1 s1 ++ (w_Tr g a2 s2 ++ (rest)))) H := hI
  refine lv_icmp_ne (tgt := 34) hx hb d_Mr_fits_27 (by decide) (fun hc => ?_) (fun hc => ?_)
  · have h := it_f h hc
    exact t_Mr_fits2_34 X (lv_sub hl [] rfl) hI hS h
  · have h := it_t h hc
    exact t_Mr_fits2_30 X (lv_sub hl [] rfl) hI hS h
set_option maxRecDepth 100000 in
set_option maxHeartbeats 4000000 in
theorem t_Mr_fits2_0 {p : Program} {l : Launch} {e : Env} {s : State} {m : MethodId} {args : Array Value} {below : List Frame} {meth : Method} {c : Code} {D : va_G} {A : Nat → Prop} {g : Nat → ClassId} {rest : va_W} {a0 : Nat → Nat} {a1 : Nat → Nat} {a2 : Nat → Nat} {ls : Array Slot} {H : Heap} {locs : List Loc} {s1 : S_Tr} {s2 : S_Tr} {s0 : S_Mr} {x2 : Int32} {x4 : Int32} {x5 : Int32} {out : Int32 × S_Mr} (X : Cx p s m args meth c prog_4_method_3_code 11 ws_Mr_fits2 R_Mr (some .boolean) D g) (hl : lv_has ls 11 [(0, .ref (a0 0)), (1, .ref (a1 0)), (2, .int x2), (3, .ref (a2 0)), (4, .int x4), (5, .int x5)]) (hI : Iw D A (w_Mr g a0 s0 ++ (w_Tr g a1 s1 ++ (w_Tr g a2 s2 ++ (rest)))) H) (hS : va_S A s.heap H locs) (h : B_Mr_fits2_0  s1 s2 s0 x2 x4 x5 = some out) : W p l e (headSpec ws_Mr_fits2 { frames := 2, cells := 0, slots := 0, locals := 53 }).room s m args below meth c H locs 0 0 (MQ below (QcI D A g out.1 (fun (_ : Unit) => w_Mr g a0 out.2 ++ (w_Tr g a1 s1 ++ (w_Tr g a2 s2 ++ (rest))))) args s 0 0 A) (F0 m 0 ls []) := by
  have X1 := X
  obtain ⟨hx, hb, hml, hown, hts, hr, hlocks, hKK⟩ := X1
  have ht : ∀ w ∈ TB, w.before args s = true := fun w h => hts w (List.mem_cons_of_mem _ h)
  have hK := hKK.1
  unfold B_Mr_fits2_0 at h
  refine lv_aload_n hx hb d_Mr_fits_0 rfl (lv_at hl 1 rfl) ?_
  refine lv_iload_n hx hb d_Mr_fits_1 rfl (lv_at hl 2 rfl) ?_
  obtain ⟨o1, ho2, h⟩ := bd_s h
  refine cl_i (W1 := fun (_ : Unit) => w_Mr g a0 s0 ++ (w_Tr g a1 s1 ++ (w_Tr g a2 s2 ++ (rest)))) (va_runV (As := [.int x2]) (rest := []) ⟨hx, hb, hml, hown, ht⟩ (c_Tr_tag (l := l) (D := D) (A := A) (g := g) (rest := w_Mr g a0 s0 ++ (w_Tr g a2 s2 ++ (rest))) (a0 := a1) ho2) (cwV 1 ht (gd_V m_623 m_512 m_513 m_9 m_514) rfl rfl rfl (by decide +kernel) ⟨(Nat.le_of_ble_eq_true rfl), (Nat.le_of_ble_eq_true rfl)⟩) (prV (ci := 7) (q0 := 0) hKK hI (mv_1) rfl rfl rfl) rfl rfl hl.1 rfl (lv_room (Nat.le_of_ble_eq_true rfl)) d_Mr_fits_2 ⟨(Nat.le_of_ble_eq_true rfl), (Nat.le_of_ble_eq_true rfl)⟩) hS (fun _ => ((mv_1)).symm) (fun _ H locs hI hS => ?_)
  have hI : Iw D A (w_Mr g a0 s0 ++ (w_Tr g a1 s1 ++ (w_Tr g a2 s2 ++ (rest)))) H := hI
  obtain ⟨o3, ho4, h⟩ := bd_s h
  refine cl_i (W1 := fun (_ : Unit) => w_Mr g a0 s0 ++ (w_Tr g a1 s1 ++ (w_Tr g a2 s2 ++ (rest)))) (va_runSN (As := [.int o1]) (rest := []) ⟨hx, hb, hml, hown, ht⟩ (c_Rn_kindOf (l := l) (D := D) (A := A) (g := g) (rest := w_Mr g a0 s0 ++ (w_Tr g a1 s1 ++ (w_Tr g a2 s2 ++ (rest))))  ho4) ⟨va_cnB 1 ht (gd_0 m_456) rfl rfl rfl hKK.2.2.2.2.1 (ht _ m_1) (by decide +kernel) ⟨(Nat.le_of_ble_eq_true rfl), (Nat.le_of_ble_eq_true rfl)⟩, ht _ m_455, trivial⟩ (prS hKK hI (List.Perm.refl _)) rfl rfl hl.1 rfl (lv_room (Nat.le_of_ble_eq_true rfl)) d_Mr_fits_5 ⟨(Nat.le_of_ble_eq_true rfl), (Nat.le_of_ble_eq_true rfl)⟩) hS (fun _ => ((List.Perm.refl _)).symm) (fun _ H locs hI hS => ?_)
  have hI : Iw D A (w_Mr g a0 s0 ++ (w_Tr g a1 s1 ++ (w_Tr g a2 s2 ++ (rest)))) H := hI
  refine lv_istore hx hb d_Mr_fits_8 hl (Nat.le_of_ble_eq_true rfl) rfl (fun ls hl => ?_)
  have hl : lv_has ls 11 [(6, .int o3), (0, .ref (a0 0)), (1, .ref (a1 0)), (2, .int x2), (3, .ref (a2 0)), (4, .int x4), (5, .int x5)] := hl
  refine lv_iload hx hb d_Mr_fits_10 (lv_at hl 0 rfl) ?_
  refine lv_iconst (v := 1) hx hb d_Mr_fits_12 (by decide) ?_
  refine lv_icmp_ne (tgt := 36) hx hb d_Mr_fits_13 (by decide) (fun hc => ?_) (fun hc => ?_)
  · have h := it_f h hc
    exact t_Mr_fits2_36 X (lv_sub hl [1, 2, 3, 4, 5, 6, 0] rfl) hI hS h
  · have h := it_t h hc
    exact t_Mr_fits2_16 X (lv_sub hl [2, 3, 4, 5] rfl) hI hS h
set_option maxRecDepth 100000 in
set_option maxHeartbeats 4000000 in
theorem c_Mr_fits2 {l : Launch} {D : va_G} {A : Nat → Prop} {g : Nat → ClassId} {rest : va_W} {a0 : Nat → Nat} {a1 : Nat → Nat} {a2 : Nat → Nat} {s0 : S_Mr} {s1 : S_Tr} {s2 : S_Tr} {x2 : Int32} {x4 : Int32} {x5 : Int32} {out : Int32 × S_Mr} (h : F_Mr_fits2 s0 s1 s2 x2 x4 x5 = some out) : Met l y_Mr_fits ws_Mr_fits2 { frames := 2, cells := 0, slots := 0, locals := 53 } (PcW D A g [.ref (a0 0), .ref (a1 0), .int x2, .ref (a2 0), .int x4, .int x5] (w_Mr g a0 s0 ++ (w_Tr g a1 s1 ++ (w_Tr g a2 s2 ++ (rest))))) (QcI D A g out.1 (fun (_ : Unit) => w_Mr g a0 out.2 ++ (w_Tr g a1 s1 ++ (w_Tr g a2 s2 ++ (rest))))) 0 0 A := by
  refine Met.ofW (cc := prog_4_method_3_code) (maxL := 11) (ret := (some .boolean)) (by decide) rfl ?_
  intro p e s m args below meth c s₁ B hml hv
  obtain ⟨rfl, hI, hK⟩ := hv
  have hl := lv_entry [.ref (a0 0), .ref (a1 0), .int x2, .ref (a2 0), .int x4, .int x5] (n := 11) (Nat.le_of_ble_eq_true rfl)
  rw [lg_entry_eq]
  generalize (lg_sl [.ref (a0 0), .ref (a1 0), .int x2, .ref (a2 0), .int x4, .int x5] ++ List.replicate (11 - (lg_sl [.ref (a0 0), .ref (a1 0), .int x2, .ref (a2 0), .int x4, .int x5]).length) Slot.unset).toArray = ls at hl ⊢
  have hl : lv_has ls 11 [(0, .ref (a0 0)), (1, .ref (a1 0)), (2, .int x2), (3, .ref (a2 0)), (4, .int x4), (5, .int x5)] := hl
  exact t_Mr_fits2_0 ⟨B.exec, B.bytes, hml, findClass_of_methodNamed B.named, atoms_spec (ws := ws_Mr_fits2) B.pre, B.returns, B.notSynchronized, hK⟩ (lv_sub hl [0, 1, 2, 3, 4, 5] rfl) hI va_S.rf h
def ws_Mr_matches2 : List Cond := .code y_Mr_matches prog_4_method_2_code 9 (some .boolean) :: TB
def B_Mr_matches2_76 (s1 : S_Tr) (s2 : S_Tr) (s0 : S_Mr) : Option (Int32 × S_Mr) :=
  some ((1 : Int32), s0)
def B_Mr_matches2_60 (s1 : S_Tr) (s2 : S_Tr) (s0 : S_Mr) : Option (Int32 × S_Mr) :=
  some ((0 : Int32), s0)
def B_Mr_matches2_62 (k8 : S_Mr × Int32 × Int32 × Int32 × Int32 × Int32 → Option (Int32 × S_Mr)) (s1 : S_Tr) (s2 : S_Tr) (s0 : S_Mr) (x2 : Int32) (x4 : Int32) (x5 : Int32) (x6 : Int32) (x7 : Int32) : Option (Int32 × S_Mr) :=
  ((F_Tr_behind s1 x6).bind fun o1 => (k8 (s0, x2, x4, x5, o1, (x7 + 1))))
def B_Mr_matches2_45 (k8 : S_Mr × Int32 × Int32 × Int32 × Int32 × Int32 → Option (Int32 × S_Mr)) (s1 : S_Tr) (s2 : S_Tr) (s0 : S_Mr) (x2 : Int32) (x4 : Int32) (x5 : Int32) (x6 : Int32) (x7 : Int32) (x8 : Int32) : Option (Int32 × S_Mr) :=
  ((F_Mr_fits2 s0 s1 s2 x6 x8 x5).bind fun o1 => (if o1.1 = 0 then (B_Mr_matches2_60 s1 s2 o1.2) else (B_Mr_matches2_62 k8 s1 s2 o1.2 x2 x4 x5 x6 x7)))
def B_Mr_matches2_25 (k8 : S_Mr × Int32 × Int32 × Int32 × Int32 × Int32 → Option (Int32 × S_Mr)) (s1 : S_Tr) (s2 : S_Tr) (s0 : S_Mr) (x2 : Int32) (x4 : Int32) (x5 : Int32) (x6 : Int32) (x7 : Int32) : Option (Int32 × S_Mr) :=
  ((F_Tr_tag s1 x6).bind fun o1 => ((F_Tr_find s2 x4 o1).bind fun o3 => (if o3 = ((-1) : Int32) then (B_Mr_matches2_60 s1 s2 s0) else (B_Mr_matches2_45 k8 s1 s2 s0 x2 x4 x5 x6 x7 o3))))
def B_Mr_matches2_15 (k8 : S_Mr × Int32 × Int32 × Int32 × Int32 × Int32 → Option (Int32 × S_Mr)) (s1 : S_Tr) (s2 : S_Tr) (s0 : S_Mr) (x2 : Int32) (x4 : Int32) (x5 : Int32) (x6 : Int32) (x7 : Int32) : Option (Int32 × S_Mr) :=
  ((F_Tr_behind s1 x2).bind fun o1 => (if o1 ≤ x6 then (B_Mr_matches2_76 s1 s2 s0) else (B_Mr_matches2_25 k8 s1 s2 s0 x2 x4 x5 x6 x7)))
def B_Mr_matches2_8 (k8 : S_Mr × Int32 × Int32 × Int32 × Int32 × Int32 → Option (Int32 × S_Mr)) (s1 : S_Tr) (s2 : S_Tr) (s0 : S_Mr) (x2 : Int32) (x4 : Int32) (x5 : Int32) (x6 : Int32) (x7 : Int32) : Option (Int32 × S_Mr) :=
  (if (10 : Int32) ≤ x7 then (B_Mr_matches2_76 s1 s2 s0) else (B_Mr_matches2_15 k8 s1 s2 s0 x2 x4 x5 x6 x7))
def L_Mr_matches2_8 (s1 : S_Tr) (s2 : S_Tr) (v : S_Mr × Int32 × Int32 × Int32 × Int32 × Int32) : Option (Int32 × S_Mr) := lp (fun k8 v => B_Mr_matches2_8  k8 s1 s2 v.1 v.2.1 v.2.2.1 v.2.2.2.1 v.2.2.2.2.1 v.2.2.2.2.2) FU v
def B_Mr_matches2_0 (s1 : S_Tr) (s2 : S_Tr) (s0 : S_Mr) (x2 : Int32) (x4 : Int32) (x5 : Int32) : Option (Int32 × S_Mr) :=
  (L_Mr_matches2_8 s1 s2 (s0, x2, x4, x5, (x2 + (1 : Int32)), (0 : Int32)))
def F_Mr_matches2 (s0 : S_Mr) (s1 : S_Tr) (s2 : S_Tr) (x2 : Int32) (x4 : Int32) (x5 : Int32) : Option (Int32 × S_Mr) := B_Mr_matches2_0 s1 s2 s0 x2 x4 x5
set_option maxRecDepth 100000 in
set_option maxHeartbeats 4000000 in
theorem t_Mr_matches2_76 {p : Program} {l : Launch} {e : Env} {s : State} {m : MethodId} {args : Array Value} {below : List Frame} {meth : Method} {c : Code} {D : va_G} {A : Nat → Prop} {g : Nat → ClassId} {rest : va_W} {a0 : Nat → Nat} {a1 : Nat → Nat} {a2 : Nat → Nat} {ls : Array Slot} {H : Heap} {locs : List Loc} {s1 : S_Tr} {s2 : S_Tr} {s0 : S_Mr} {out : Int32 × S_Mr} (X : Cx p s m args meth c prog_4_method_2_code 9 ws_Mr_matches2 R_Mr (some .boolean) D g) (hl : lv_has ls 9 []) (hI : Iw D A (w_Mr g a0 s0 ++ (w_Tr g a1 s1 ++ (w_Tr g a2 s2 ++ (rest)))) H) (hS : va_S A s.heap H locs) (h : B_Mr_matches2_76  s1 s2 s0 = some out) : W p l e (headSpec ws_Mr_matches2 { frames := 3, cells := 0, slots := 0, locals := 83 }).room s m args below meth c H locs 0 0 (MQ below (QcI D A g out.1 (fun (_ : Unit) => w_Mr g a0 out.2 ++ (w_Tr g a1 s1 ++ (w_Tr g a2 s2 ++ (rest))))) args s 0 0 A) (F0 m 76 ls []) := by
  have X1 := X
  obtain ⟨hx, hb, hml, hown, hts, hr, hlocks, hKK⟩ := X1
  have ht : ∀ w ∈ TB, w.before args s = true := fun w h => hts w (List.mem_cons_of_mem _ h)
  have hK := hKK.1
  unfold B_Mr_matches2_76 at h
  refine lv_iconst (v := 1) hx hb d_Mr_matches_76 (by decide) ?_
  have h9 := Option.some.inj h
  subst h9
  exact W.zret (v := (1 : Int32)) hx hb hr rfl (fun t ht hW => ⟨⟨_, (), rfl, rfl, ⟨by rw [ht]; exact hI, hKK.moved hW⟩⟩, hS.F ht⟩) hS.2.2 d_Mr_matches_77
set_option maxRecDepth 100000 in
set_option maxHeartbeats 4000000 in
theorem t_Mr_matches2_60 {p : Program} {l : Launch} {e : Env} {s : State} {m : MethodId} {args : Array Value} {below : List Frame} {meth : Method} {c : Code} {D : va_G} {A : Nat → Prop} {g : Nat → ClassId} {rest : va_W} {a0 : Nat → Nat} {a1 : Nat → Nat} {a2 : Nat → Nat} {ls : Array Slot} {H : Heap} {locs : List Loc} {s1 : S_Tr} {s2 : S_Tr} {s0 : S_Mr} {out : Int32 × S_Mr} (X : Cx p s m args meth c prog_4_method_2_code 9 ws_Mr_matches2 R_Mr (some .boolean) D g) (hl : lv_has ls 9 []) (hI : Iw D A (w_Mr g a0 s0 ++ (w_Tr g a1 s1 ++ (w_Tr g a2 s2 ++ (rest)))) H) (hS : va_S A s.heap H locs) (h : B_Mr_matches2_60  s1 s2 s0 = some out) : W p l e (headSpec ws_Mr_matches2 { frames := 3, cells := 0, slots := 0, locals := 83 }).room s m args below meth c H locs 0 0 (MQ below (QcI D A g out.1 (fun (_ : Unit) => w_Mr g a0 out.2 ++ (w_Tr g a1 s1 ++ (w_Tr g a2 s2 ++ (rest))))) args s 0 0 A) (F0 m 60 ls []) := by
  have X1 := X
  obtain ⟨hx, hb, hml, hown, hts, hr, hlocks, hKK⟩ := X1
  have ht : ∀ w ∈ TB, w.before args s = true := fun w h => hts w (List.mem_cons_of_mem _ h)
  have hK := hKK.1
  unfold B_Mr_matches2_60 at h
  refine lv_iconst (v := 0) hx hb d_Mr_matches_60 (by decide) ?_
  have h9 := Option.some.inj h
  subst h9
  exact W.zret (v := (0 : Int32)) hx hb hr rfl (fun t ht hW => ⟨⟨_, (), rfl, rfl, ⟨by rw [ht]; exact hI, hKK.moved hW⟩⟩, hS.F ht⟩) hS.2.2 d_Mr_matches_61
set_option maxRecDepth 100000 in
set_option maxHeartbeats 4000000 in
theorem t_Mr_matches2_62 {p : Program} {l : Launch} {e : Env} {s : State} {m : MethodId} {args : Array Value} {below : List Frame} {meth : Method} {c : Code} {D : va_G} {A : Nat → Prop} {g : Nat → ClassId} {rest : va_W} {a0 : Nat → Nat} {a1 : Nat → Nat} {a2 : Nat → Nat} {ls : Array Slot} {H : Heap} {locs : List Loc} {k8 : S_Mr × Int32 × Int32 × Int32 × Int32 × Int32 → Option (Int32 × S_Mr)} {s1 : S_Tr} {s2 : S_Tr} {s0 : S_Mr} {x2 : Int32} {x4 : Int32} {x5 : Int32} {x6 : Int32} {x7 : Int32} {out : Int32 × S_Mr} (X : Cx p s m args meth c prog_4_method_2_code 9 ws_Mr_matches2 R_Mr (some .boolean) D g) (hk8 : ∀ (v : S_Mr × Int32 × Int32 × Int32 × Int32 × Int32) (ls : Array Slot) (H : Heap) (locs : List Loc), lv_has ls 9 [(0, .ref (a0 0)), (1, .ref (a1 0)), (2, .int v.2.1), (3, .ref (a2 0)), (4, .int v.2.2.1), (5, .int v.2.2.2.1), (6, .int v.2.2.2.2.1), (7, .int v.2.2.2.2.2)] → Iw D A (w_Mr g a0 v.1 ++ (w_Tr g a1 s1 ++ (w_Tr g a2 s2 ++ (rest)))) H → va_S A s.heap H locs → k8 v = some out → W p l e (headSpec ws_Mr_matches2 { frames := 3, cells := 0, slots := 0, locals := 83 }).room s m args below meth c H locs 0 0 (MQ below (QcI D A g out.1 (fun (_ : Unit) => w_Mr g a0 out.2 ++ (w_Tr g a1 s1 ++ (w_Tr g a2 s2 ++ (rest))))) args s 0 0 A) (F0 m 8 ls [])) (hl : lv_has ls 9 [(0, .ref (a0 0)), (1, .ref (a1 0)), (2, .int x2), (3, .ref (a2 0)), (4, .int x4), (5, .int x5), (6, .int x6), (7, .int x7)]) (hI : Iw D A (w_Mr g a0 s0 ++ (w_Tr g a1 s1 ++ (w_Tr g a2 s2 ++ (rest)))) H) (hS : va_S A s.heap H locs) (h : B_Mr_matches2_62 k8 s1 s2 s0 x2 x4 x5 x6 x7 = some out) : W p l e (headSpec ws_Mr_matches2 { frames := 3, cells := 0, slots := 0, locals := 83 }).room s m args below meth c H locs 0 0 (MQ below (QcI D A g out.1 (fun (_ : Unit) => w_Mr g a0 out.2 ++ (w_Tr g a1 s1 ++ (w_Tr g a2 s2 ++ (rest))))) args s 0 0 A) (F0 m 62 ls []) := by
  have X1 := X
  obtain ⟨hx, hb, hml, hown, hts, hr, hlocks, hKK⟩ := X1
  have ht : ∀ w ∈ TB, w.before args s = true := fun w h => hts w (List.mem_cons_of_mem _ h)
  have hK := hKK.1
  unfold B_Mr_matches2_62 at h
  refine lv_aload_n hx hb d_Mr_matches_62 rfl (lv_at hl 1 rfl) ?_
  refine lv_iload hx hb d_Mr_matches_63 (lv_at hl 6 rfl) ?_
  obtain ⟨o1, ho2, h⟩ := bd_s h
  refine cl_i (W1 := fun (_ : Unit) => w_Mr g a0 s0 ++ (w_Tr g a1 s1 ++ (w_Tr g a2 s2 ++ (rest)))) (va_runV (As := [.int x6]) (rest := []) ⟨hx, hb, hml, hown, ht⟩ (c_Tr_behind (l := l) (D := D) (A := A) (g := g) (rest := w_Mr g a0 s0 ++ (w_Tr g a2 s2 ++ (rest))) (a0 := a1) ho2) (cwV 1 ht (gd_V m_622 m_508 m_509 m_9 m_510) rfl rfl rfl (by decide +kernel) ⟨(Nat.le_of_ble_eq_true rfl), (Nat.le_of_ble_eq_true rfl)⟩) (prV (ci := 7) (q0 := 0) hKK hI (mv_1) rfl rfl rfl) rfl rfl hl.1 rfl (lv_room (Nat.le_of_ble_eq_true rfl)) d_Mr_matches_65 ⟨(Nat.le_of_ble_eq_true rfl), (Nat.le_of_ble_eq_true rfl)⟩) hS (fun _ => ((mv_1)).symm) (fun _ H locs hI hS => ?_)
  have hI : Iw D A (w_Mr g a0 s0 ++ (w_Tr g a1 s1 ++ (w_Tr g a2 s2 ++ (rest)))) H := hI
  refine lv_istore hx hb d_Mr_matches_68 hl (Nat.le_of_ble_eq_true rfl) rfl (fun ls hl => ?_)
  have hl : lv_has ls 9 [(6, .int o1), (0, .ref (a0 0)), (1, .ref (a1 0)), (2, .int x2), (3, .ref (a2 0)), (4, .int x4), (5, .int x5), (7, .int x7)] := hl
  refine lv_iinc (k := 7) (v := (x7 + 1)) hx hb d_Mr_matches_70 hl rfl (congrArg (fun z => x7 + z) (by decide)) (Nat.le_of_ble_eq_true rfl) rfl (fun ls hl => ?_)
  have hl : lv_has ls 9 [(7, .int (x7 + 1)), (6, .int o1), (0, .ref (a0 0)), (1, .ref (a1 0)), (2, .int x2), (3, .ref (a2 0)), (4, .int x4), (5, .int x5)] := hl
  refine lv_goto (tgt := 8) hx hb d_Mr_matches_73 (by decide) ?_
  exact hk8 (s0, x2, x4, x5, o1, (x7 + 1)) _ _ _ (lv_sub hl [2, 3, 4, 5, 6, 7, 1, 0] rfl) hI hS h
set_option maxRecDepth 100000 in
set_option maxHeartbeats 4000000 in
theorem t_Mr_matches2_45 {p : Program} {l : Launch} {e : Env} {s : State} {m : MethodId} {args : Array Value} {below : List Frame} {meth : Method} {c : Code} {D : va_G} {A : Nat → Prop} {g : Nat → ClassId} {rest : va_W} {a0 : Nat → Nat} {a1 : Nat → Nat} {a2 : Nat → Nat} {ls : Array Slot} {H : Heap} {locs : List Loc} {k8 : S_Mr × Int32 × Int32 × Int32 × Int32 × Int32 → Option (Int32 × S_Mr)} {s1 : S_Tr} {s2 : S_Tr} {s0 : S_Mr} {x2 : Int32} {x4 : Int32} {x5 : Int32} {x6 : Int32} {x7 : Int32} {x8 : Int32} {out : Int32 × S_Mr} (X : Cx p s m args meth c prog_4_method_2_code 9 ws_Mr_matches2 R_Mr (some .boolean) D g) (hk8 : ∀ (v : S_Mr × Int32 × Int32 × Int32 × Int32 × Int32) (ls : Array Slot) (H : Heap) (locs : List Loc), lv_has ls 9 [(0, .ref (a0 0)), (1, .ref (a1 0)), (2, .int v.2.1), (3, .ref (a2 0)), (4, .int v.2.2.1), (5, .int v.2.2.2.1), (6, .int v.2.2.2.2.1), (7, .int v.2.2.2.2.2)] → Iw D A (w_Mr g a0 v.1 ++ (w_Tr g a1 s1 ++ (w_Tr g a2 s2 ++ (rest)))) H → va_S A s.heap H locs → k8 v = some out → W p l e (headSpec ws_Mr_matches2 { frames := 3, cells := 0, slots := 0, locals := 83 }).room s m args below meth c H locs 0 0 (MQ below (QcI D A g out.1 (fun (_ : Unit) => w_Mr g a0 out.2 ++ (w_Tr g a1 s1 ++ (w_Tr g a2 s2 ++ (rest))))) args s 0 0 A) (F0 m 8 ls [])) (hl : lv_has ls 9 [(0, .ref (a0 0)), (1, .ref (a1 0)), (2, .int x2), (3, .ref (a2 0)), (4, .int x4), (5, .int x5), (6, .int x6), (7, .int x7), (8, .int x8)]) (hI : Iw D A (w_Mr g a0 s0 ++ (w_Tr g a1 s1 ++ (w_Tr g a2 s2 ++ (rest)))) H) (hS : va_S A s.heap H locs) (h : B_Mr_matches2_45 k8 s1 s2 s0 x2 x4 x5 x6 x7 x8 = some out) : W p l e (headSpec ws_Mr_matches2 { frames := 3, cells := 0, slots := 0, locals := 83 }).room s m args below meth c H locs 0 0 (MQ below (QcI D A g out.1 (fun (_ : Unit) => w_Mr g a0 out.2 ++ (w_Tr g a1 s1 ++ (w_Tr g a2 s2 ++ (rest))))) args s 0 0 A) (F0 m 45 ls []) := by
  have X1 := X
  obtain ⟨hx, hb, hml, hown, hts, hr, hlocks, hKK⟩ := X1
  have ht : ∀ w ∈ TB, w.before args s = true := fun w h => hts w (List.mem_cons_of_mem _ h)
  have hK := hKK.1
  unfold B_Mr_matches2_45 at h
  refine lv_aload_n hx hb d_Mr_matches_45 rfl (lv_at hl 0 rfl) ?_
  refine lv_aload_n hx hb d_Mr_matches_46 rfl (lv_at hl 1 rfl) ?_
  refine lv_iload hx hb d_Mr_matches_47 (lv_at hl 6 rfl) ?_
  refine lv_aload_n hx hb d_Mr_matches_49 rfl (lv_at hl 3 rfl) ?_
  refine lv_iload hx hb d_Mr_matches_50 (lv_at hl 8 rfl) ?_
  refine lv_iload hx hb d_Mr_matches_52 (lv_at hl 5 rfl) ?_
  obtain ⟨o1, ho2, h⟩ := bd_s h
  refine cl_i (W1 := fun (_ : Unit) => w_Mr g a0 o1.2 ++ (w_Tr g a1 s1 ++ (w_Tr g a2 s2 ++ (rest)))) (va_runV (As := [.ref (a1 0), .int x6, .ref (a2 0), .int x8, .int x5]) (rest := []) ⟨hx, hb, hml, hown, ht⟩ (c_Mr_fits2 (l := l) (D := D) (A := A) (g := g) (rest := rest) (a0 := a0) (a1 := a1) (a2 := a2) ho2) (cwV 5 ht (gd_V m_625 m_627 mp_34 m_10 m_628) rfl rfl rfl (by decide +kernel) ⟨(Nat.le_of_ble_eq_true rfl), (Nat.le_of_ble_eq_true rfl)⟩) (prV (ci := 2) (q0 := 0) hKK hI ((mv_2).trans ((mv_2).trans (mv_2))) rfl rfl rfl) rfl rfl hl.1 rfl (lv_room (Nat.le_of_ble_eq_true rfl)) d_Mr_matches_54 ⟨(Nat.le_of_ble_eq_true rfl), (Nat.le_of_ble_eq_true rfl)⟩) hS (fun _ => (((mv_2).trans ((mv_2).trans (mv_2)))).symm) (fun _ H locs hI hS => ?_)
  have hI : Iw D A (w_Mr g a0 o1.2 ++ (w_Tr g a1 s1 ++ (w_Tr g a2 s2 ++ (rest)))) H := hI
  refine lv_if_ne (tgt := 62) hx hb d_Mr_matches_57 (by decide) (fun hc => ?_) (fun hc => ?_)
  · have h := it_f h hc
    exact t_Mr_matches2_62 X hk8 (lv_sub hl [0, 1, 2, 3, 4, 5, 6, 7] rfl) hI hS h
  · have h := it_t h hc
    exact t_Mr_matches2_60 X (lv_sub hl [] rfl) hI hS h
set_option maxRecDepth 100000 in
set_option maxHeartbeats 4000000 in
theorem t_Mr_matches2_25 {p : Program} {l : Launch} {e : Env} {s : State} {m : MethodId} {args : Array Value} {below : List Frame} {meth : Method} {c : Code} {D : va_G} {A : Nat → Prop} {g : Nat → ClassId} {rest : va_W} {a0 : Nat → Nat} {a1 : Nat → Nat} {a2 : Nat → Nat} {ls : Array Slot} {H : Heap} {locs : List Loc} {k8 : S_Mr × Int32 × Int32 × Int32 × Int32 × Int32 → Option (Int32 × S_Mr)} {s1 : S_Tr} {s2 : S_Tr} {s0 : S_Mr} {x2 : Int32} {x4 : Int32} {x5 : Int32} {x6 : Int32} {x7 : Int32} {out : Int32 × S_Mr} (X : Cx p s m args meth c prog_4_method_2_code 9 ws_Mr_matches2 R_Mr (some .boolean) D g) (hk8 : ∀ (v : S_Mr × Int32 × Int32 × Int32 × Int32 × Int32) (ls : Array Slot) (H : Heap) (locs : List Loc), lv_has ls 9 [(0, .ref (a0 0)), (1, .ref (a1 0)), (2, .int v.2.1), (3, .ref (a2 0)), (4, .int v.2.2.1), (5, .int v.2.2.2.1), (6, .int v.2.2.2.2.1), (7, .int v.2.2.2.2.2)] → Iw D A (w_Mr g a0 v.1 ++ (w_Tr g a1 s1 ++ (w_Tr g a2 s2 ++ (rest)))) H → va_S A s.heap H locs → k8 v = some out → W p l e (headSpec ws_Mr_matches2 { frames := 3, cells := 0, slots := 0, locals := 83 }).room s m args below meth c H locs 0 0 (MQ below (QcI D A g out.1 (fun (_ : Unit) => w_Mr g a0 out.2 ++ (w_Tr g a1 s1 ++ (w_Tr g a2 s2 ++ (rest))))) args s 0 0 A) (F0 m 8 ls [])) (hl : lv_has ls 9 [(0, .ref (a0 0)), (1, .ref (a1 0)), (2, .int x2), (3, .ref (a2 0)), (4, .int x4), (5, .int x5), (6, .int x6), (7, .int x7)]) (hI : Iw D A (w_Mr g a0 s0 ++ (w_Tr g a1 s1 ++ (w_Tr g a2 s2 ++ (rest)))) H) (hS : va_S A s.heap H locs) (h : B_Mr_matches2_25 k8 s1 s2 s0 x2 x4 x5 x6 x7 = some out) : W p l e (headSpec ws_Mr_matches2 { frames := 3, cells := 0, slots := 0, locals := 83 }).room s m args below meth c H locs 0 0 (MQ below (QcI D A g out.1 (fun (_ : Unit) => w_Mr g a0 out.2 ++ (w_Tr g a1 s1 ++ (w_Tr g a2 s2 ++ (rest))))) args s 0 0 A) (F0 m 25 ls []) := by
  have X1 := X
  obtain ⟨hx, hb, hml, hown, hts, hr, hlocks, hKK⟩ := X1
  have ht : ∀ w ∈ TB, w.before args s = true := fun w h => hts w (List.mem_cons_of_mem _ h)
  have hK := hKK.1
  unfold B_Mr_matches2_25 at h
  refine lv_aload_n hx hb d_Mr_matches_25 rfl (lv_at hl 3 rfl) ?_
  refine lv_iload hx hb d_Mr_matches_26 (lv_at hl 4 rfl) ?_
  refine lv_aload_n hx hb d_Mr_matches_28 rfl (lv_at hl 1 rfl) ?_
  refine lv_iload hx hb d_Mr_matches_29 (lv_at hl 6 rfl) ?_
  obtain ⟨o1, ho2, h⟩ := bd_s h
  refine cl_i (W1 := fun (_ : Unit) => w_Mr g a0 s0 ++ (w_Tr g a1 s1 ++ (w_Tr g a2 s2 ++ (rest)))) (va_runV (As := [.int x6]) (rest := [.int x4, .ref (a2 0)]) ⟨hx, hb, hml, hown, ht⟩ (c_Tr_tag (l := l) (D := D) (A := A) (g := g) (rest := w_Mr g a0 s0 ++ (w_Tr g a2 s2 ++ (rest))) (a0 := a1) ho2) (cwV 1 ht (gd_V m_623 m_512 m_513 m_9 m_514) rfl rfl rfl (by decide +kernel) ⟨(Nat.le_of_ble_eq_true rfl), (Nat.le_of_ble_eq_true rfl)⟩) (prV (ci := 7) (q0 := 0) hKK hI (mv_1) rfl rfl rfl) rfl rfl hl.1 rfl (lv_room (Nat.le_of_ble_eq_true rfl)) d_Mr_matches_31 ⟨(Nat.le_of_ble_eq_true rfl), (Nat.le_of_ble_eq_true rfl)⟩) hS (fun _ => ((mv_1)).symm) (fun _ H locs hI hS => ?_)
  have hI : Iw D A (w_Mr g a0 s0 ++ (w_Tr g a1 s1 ++ (w_Tr g a2 s2 ++ (rest)))) H := hI
  obtain ⟨o3, ho4, h⟩ := bd_s h
  refine cl_i (W1 := fun (_ : Unit) => w_Mr g a0 s0 ++ (w_Tr g a1 s1 ++ (w_Tr g a2 s2 ++ (rest)))) (va_runV (As := [.int x4, .int o1]) (rest := []) ⟨hx, hb, hml, hown, ht⟩ (c_Tr_find (l := l) (D := D) (A := A) (g := g) (rest := w_Mr g a0 s0 ++ (w_Tr g a1 s1 ++ (rest))) (a0 := a2) ho4) (cwV 2 ht (gd_V m_624 m_504 m_505 m_9 m_506) rfl rfl rfl (by decide +kernel) ⟨(Nat.le_of_ble_eq_true rfl), (Nat.le_of_ble_eq_true rfl)⟩) (prV (ci := 7) (q0 := 0) hKK hI (mv_2) rfl rfl rfl) rfl rfl hl.1 rfl (lv_room (Nat.le_of_ble_eq_true rfl)) d_Mr_matches_34 ⟨(Nat.le_of_ble_eq_true rfl), (Nat.le_of_ble_eq_true rfl)⟩) hS (fun _ => ((mv_2)).symm) (fun _ H locs hI hS => ?_)
  have hI : Iw D A (w_Mr g a0 s0 ++ (w_Tr g a1 s1 ++ (w_Tr g a2 s2 ++ (rest)))) H := hI
  refine lv_istore hx hb d_Mr_matches_37 hl (Nat.le_of_ble_eq_true rfl) rfl (fun ls hl => ?_)
  have hl : lv_has ls 9 [(8, .int o3), (0, .ref (a0 0)), (1, .ref (a1 0)), (2, .int x2), (3, .ref (a2 0)), (4, .int x4), (5, .int x5), (6, .int x6), (7, .int x7)] := hl
  refine lv_iload hx hb d_Mr_matches_39 (lv_at hl 0 rfl) ?_
  refine lv_iconst (v := (-1)) hx hb d_Mr_matches_41 (by decide) ?_
  refine lv_icmp_eq (tgt := 60) hx hb d_Mr_matches_42 (by decide) (fun hc => ?_) (fun hc => ?_)
  · have h := it_t h hc
    exact t_Mr_matches2_60 X (lv_sub hl [] rfl) hI hS h
  · have h := it_f h hc
    exact t_Mr_matches2_45 X hk8 (lv_sub hl [1, 2, 3, 4, 5, 6, 7, 8, 0] rfl) hI hS h
set_option maxRecDepth 100000 in
set_option maxHeartbeats 4000000 in
theorem t_Mr_matches2_15 {p : Program} {l : Launch} {e : Env} {s : State} {m : MethodId} {args : Array Value} {below : List Frame} {meth : Method} {c : Code} {D : va_G} {A : Nat → Prop} {g : Nat → ClassId} {rest : va_W} {a0 : Nat → Nat} {a1 : Nat → Nat} {a2 : Nat → Nat} {ls : Array Slot} {H : Heap} {locs : List Loc} {k8 : S_Mr × Int32 × Int32 × Int32 × Int32 × Int32 → Option (Int32 × S_Mr)} {s1 : S_Tr} {s2 : S_Tr} {s0 : S_Mr} {x2 : Int32} {x4 : Int32} {x5 : Int32} {x6 : Int32} {x7 : Int32} {out : Int32 × S_Mr} (X : Cx p s m args meth c prog_4_method_2_code 9 ws_Mr_matches2 R_Mr (some .boolean) D g) (hk8 : ∀ (v : S_Mr × Int32 × Int32 × Int32 × Int32 × Int32) (ls : Array Slot) (H : Heap) (locs : List Loc), lv_has ls 9 [(0, .ref (a0 0)), (1, .ref (a1 0)), (2, .int v.2.1), (3, .ref (a2 0)), (4, .int v.2.2.1), (5, .int v.2.2.2.1), (6, .int v.2.2.2.2.1), (7, .int v.2.2.2.2.2)] → Iw D A (w_Mr g a0 v.1 ++ (w_Tr g a1 s1 ++ (w_Tr g a2 s2 ++ (rest)))) H → va_S A s.heap H locs → k8 v = some out → W p l e (headSpec ws_Mr_matches2 { frames := 3, cells := 0, slots := 0, locals := 83 }).room s m args below meth c H locs 0 0 (MQ below (QcI D A g out.1 (fun (_ : Unit) => w_Mr g a0 out.2 ++ (w_Tr g a1 s1 ++ (w_Tr g a2 s2 ++ (rest))))) args s 0 0 A) (F0 m 8 ls [])) (hl : lv_has ls 9 [(0, .ref (a0 0)), (1, .ref (a1 0)), (2, .int x2), (3, .ref (a2 0)), (4, .int x4), (5, .int x5), (6, .int x6), (7, .int x7)]) (hI : Iw D A (w_Mr g a0 s0 ++ (w_Tr g a1 s1 ++ (w_Tr g a2 s2 ++ (rest)))) H) (hS : va_S A s.heap H locs) (h : B_Mr_matches2_15 k8 s1 s2 s0 x2 x4 x5 x6 x7 = some out) : W p l e (headSpec ws_Mr_matches2 { frames := 3, cells := 0, slots := 0, locals := 83 }).room s m args below meth c H locs 0 0 (MQ below (QcI D A g out.1 (fun (_ : Unit) => w_Mr g a0 out.2 ++ (w_Tr g a1 s1 ++ (w_Tr g a2 s2 ++ (rest))))) args s 0 0 A) (F0 m 15 ls []) := by
  have X1 := X
  obtain ⟨hx, hb, hml, hown, hts, hr, hlocks, hKK⟩ := X1
  have ht : ∀ w ∈ TB, w.before args s = true := fun w h => hts w (List.mem_cons_of_mem _ h)
  have hK := hKK.1
  unfold B_Mr_matches2_15 at h
  refine lv_iload hx hb d_Mr_matches_15 (lv_at hl 6 rfl) ?_
  refine lv_aload_n hx hb d_Mr_matches_17 rfl (lv_at hl 1 rfl) ?_
  refine lv_iload_n hx hb d_Mr_matches_18 rfl (lv_at hl 2 rfl) ?_
  obtain ⟨o1, ho2, h⟩ := bd_s h
  refine cl_i (W1 := fun (_ : Unit) => w_Mr g a0 s0 ++ (w_Tr g a1 s1 ++ (w_Tr g a2 s2 ++ (rest)))) (va_runV (As := [.int x2]) (rest := [.int x6]) ⟨hx, hb, hml, hown, ht⟩ (c_Tr_behind (l := l) (D := D) (A := A) (g := g) (rest := w_Mr g a0 s0 ++ (w_Tr g a2 s2 ++ (rest))) (a0 := a1) ho2) (cwV 1 ht (gd_V m_622 m_508 m_509 m_9 m_510) rfl rfl rfl (by decide +kernel) ⟨(Nat.le_of_ble_eq_true rfl), (Nat.le_of_ble_eq_true rfl)⟩) (prV (ci := 7) (q0 := 0) hKK hI (mv_1) rfl rfl rfl) rfl rfl hl.1 rfl (lv_room (Nat.le_of_ble_eq_true rfl)) d_Mr_matches_19 ⟨(Nat.le_of_ble_eq_true rfl), (Nat.le_of_ble_eq_true rfl)⟩) hS (fun _ => ((mv_1)).symm) (fun _ H locs hI hS => ?_)
  have hI : Iw D A (w_Mr g a0 s0 ++ (w_Tr g a1 s1 ++ (w_Tr g a2 s2 ++ (rest)))) H := hI
  refine lv_icmp_ge (tgt := 76) hx hb d_Mr_matches_22 (by decide) (fun hc => ?_) (fun hc => ?_)
  · have h := it_t h hc
    exact t_Mr_matches2_76 X (lv_sub hl [] rfl) hI hS h
  · have h := it_f h hc
    exact t_Mr_matches2_25 X hk8 (lv_sub hl [0, 1, 2, 3, 4, 5, 6, 7] rfl) hI hS h
set_option maxRecDepth 100000 in
set_option maxHeartbeats 4000000 in
theorem t_Mr_matches2_8 {p : Program} {l : Launch} {e : Env} {s : State} {m : MethodId} {args : Array Value} {below : List Frame} {meth : Method} {c : Code} {D : va_G} {A : Nat → Prop} {g : Nat → ClassId} {rest : va_W} {a0 : Nat → Nat} {a1 : Nat → Nat} {a2 : Nat → Nat} {ls : Array Slot} {H : Heap} {locs : List Loc} {k8 : S_Mr × Int32 × Int32 × Int32 × Int32 × Int32 → Option (Int32 × S_Mr)} {s1 : S_Tr} {s2 : S_Tr} {s0 : S_Mr} {x2 : Int32} {x4 : Int32} {x5 : Int32} {x6 : Int32} {x7 : Int32} {out : Int32 × S_Mr} (X : Cx p s m args meth c prog_4_method_2_code 9 ws_Mr_matches2 R_Mr (some .boolean) D g) (hk8 : ∀ (v : S_Mr × Int32 × Int32 × Int32 × Int32 × Int32) (ls : Array Slot) (H : Heap) (locs : List Loc), lv_has ls 9 [(0, .ref (a0 0)), (1, .ref (a1 0)), (2, .int v.2.1), (3, .ref (a2 0)), (4, .int v.2.2.1), (5, .int v.2.2.2.1), (6, .int v.2.2.2.2.1), (7, .int v.2.2.2.2.2)] → Iw D A (w_Mr g a0 v.1 ++ (w_Tr g a1 s1 ++ (w_Tr g a2 s2 ++ (rest)))) H → va_S A s.heap H locs → k8 v = some out → W p l e (headSpec ws_Mr_matches2 { frames := 3, cells := 0, slots := 0, locals := 83 }).room s m args below meth c H locs 0 0 (MQ below (QcI D A g out.1 (fun (_ : Unit) => w_Mr g a0 out.2 ++ (w_Tr g a1 s1 ++ (w_Tr g a2 s2 ++ (rest))))) args s 0 0 A) (F0 m 8 ls [])) (hl : lv_has ls 9 [(0, .ref (a0 0)), (1, .ref (a1 0)), (2, .int x2), (3, .ref (a2 0)), (4, .int x4), (5, .int x5), (6, .int x6), (7, .int x7)]) (hI : Iw D A (w_Mr g a0 s0 ++ (w_Tr g a1 s1 ++ (w_Tr g a2 s2 ++ (rest)))) H) (hS : va_S A s.heap H locs) (h : B_Mr_matches2_8 k8 s1 s2 s0 x2 x4 x5 x6 x7 = some out) : W p l e (headSpec ws_Mr_matches2 { frames := 3, cells := 0, slots := 0, locals := 83 }).room s m args below meth c H locs 0 0 (MQ below (QcI D A g out.1 (fun (_ : Unit) => w_Mr g a0 out.2 ++ (w_Tr g a1 s1 ++ (w_Tr g a2 s2 ++ (rest))))) args s 0 0 A) (F0 m 8 ls []) := by
  have X1 := X
  obtain ⟨hx, hb, hml, hown, hts, hr, hlocks, hKK⟩ := X1
  have ht : ∀ w ∈ TB, w.before args s = true := fun w h => hts w (List.mem_cons_of_mem _ h)
  have hK := hKK.1
  unfold B_Mr_matches2_8 at h
  refine lv_iload hx hb d_Mr_matches_8 (lv_at hl 7 rfl) ?_
  refine lv_bipush (v := 10) hx hb d_Mr_matches_10 (by decide) ?_
  refine lv_icmp_ge (tgt := 76) hx hb d_Mr_matches_12 (by decide) (fun hc => ?_) (fun hc => ?_)
  · have h := it_t h hc
    exact t_Mr_matches2_76 X (lv_sub hl [] rfl) hI hS h
  · have h := it_f h hc
    exact t_Mr_matches2_15 X hk8 (lv_sub hl [0, 1, 2, 3, 4, 5, 6, 7] rfl) hI hS h
set_option maxRecDepth 100000 in
set_option maxHeartbeats 4000000 in
theorem T_Mr_matches2_8 {p : Program} {l : Launch} {e : Env} {s : State} {m : MethodId} {args : Array Value} {below : List Frame} {meth : Method} {c : Code} {D : va_G} {A : Nat → Prop} {g : Nat → ClassId} {rest : va_W} {a0 : Nat → Nat} {a1 : Nat → Nat} {a2 : Nat → Nat} {ls : Array Slot} {H : Heap} {locs : List Loc} {s1 : S_Tr} {s2 : S_Tr} {s0 : S_Mr} {x2 : Int32} {x4 : Int32} {x5 : Int32} {x6 : Int32} {x7 : Int32} {out : Int32 × S_Mr} (X : Cx p s m args meth c prog_4_method_2_code 9 ws_Mr_matches2 R_Mr (some .boolean) D g) (hl : lv_has ls 9 [(0, .ref (a0 0)), (1, .ref (a1 0)), (2, .int x2), (3, .ref (a2 0)), (4, .int x4), (5, .int x5), (6, .int x6), (7, .int x7)]) (hI : Iw D A (w_Mr g a0 s0 ++ (w_Tr g a1 s1 ++ (w_Tr g a2 s2 ++ (rest)))) H) (hS : va_S A s.heap H locs) (h : L_Mr_matches2_8  s1 s2 (s0, x2, x4, x5, x6, x7) = some out) : W p l e (headSpec ws_Mr_matches2 { frames := 3, cells := 0, slots := 0, locals := 83 }).room s m args below meth c H locs 0 0 (MQ below (QcI D A g out.1 (fun (_ : Unit) => w_Mr g a0 out.2 ++ (w_Tr g a1 s1 ++ (w_Tr g a2 s2 ++ (rest))))) args s 0 0 A) (F0 m 8 ls []) := by
  unfold L_Mr_matches2_8 at h
  exact lp_ind (P := fun v => ∀ (ls : Array Slot) (H : Heap) (locs : List Loc), lv_has ls 9 [(0, .ref (a0 0)), (1, .ref (a1 0)), (2, .int v.2.1), (3, .ref (a2 0)), (4, .int v.2.2.1), (5, .int v.2.2.2.1), (6, .int v.2.2.2.2.1), (7, .int v.2.2.2.2.2)] → Iw D A (w_Mr g a0 v.1 ++ (w_Tr g a1 s1 ++ (w_Tr g a2 s2 ++ (rest)))) H → va_S A s.heap H locs → W p l e (headSpec ws_Mr_matches2 { frames := 3, cells := 0, slots := 0, locals := 83 }).room s m args below meth c H locs 0 0 (MQ below (QcI D A g out.1 (fun (_ : Unit) => w_Mr g a0 out.2 ++ (w_Tr g a1 s1 ++ (w_Tr g a2 s2 ++ (rest))))) args s 0 0 A) (F0 m 8 ls [])) (fun k v ih hb ls H locs  hl hI hS => t_Mr_matches2_8 X  (fun v' ls H locs  hl hI hS h' => ih v' h' ls H locs  hl hI hS) hl hI hS hb) FU _ h ls H locs  hl hI hS
set_option maxRecDepth 100000 in
set_option maxHeartbeats 4000000 in
theorem t_Mr_matches2_0 {p : Program} {l : Launch} {e : Env} {s : State} {m : MethodId} {args : Array Value} {below : List Frame} {meth : Method} {c : Code} {D : va_G} {A : Nat → Prop} {g : Nat → ClassId} {rest : va_W} {a0 : Nat → Nat} {a1 : Nat → Nat} {a2 : Nat → Nat} {ls : Array Slot} {H : Heap} {locs : List Loc} {s1 : S_Tr} {s2 : S_Tr} {s0 : S_Mr} {x2 : Int32} {x4 : Int32} {x5 : Int32} {out : Int32 × S_Mr} (X : Cx p s m args meth c prog_4_method_2_code 9 ws_Mr_matches2 R_Mr (some .boolean) D g) (hl : lv_has ls 9 [(0, .ref (a0 0)), (1, .ref (a1 0)), (2, .int x2), (3, .ref (a2 0)), (4, .int x4), (5, .int x5)]) (hI : Iw D A (w_Mr g a0 s0 ++ (w_Tr g a1 s1 ++ (w_Tr g a2 s2 ++ (rest)))) H) (hS : va_S A s.heap H locs) (h : B_Mr_matches2_0  s1 s2 s0 x2 x4 x5 = some out) : W p l e (headSpec ws_Mr_matches2 { frames := 3, cells := 0, slots := 0, locals := 83 }).room s m args below meth c H locs 0 0 (MQ below (QcI D A g out.1 (fun (_ : Unit) => w_Mr g a0 out.2 ++ (w_Tr g a1 s1 ++ (w_Tr g a2 s2 ++ (rest))))) args s 0 0 A) (F0 m 0 ls []) := by
  have X1 := X
  obtain ⟨hx, hb, hml, hown, hts, hr, hlocks, hKK⟩ := X1
  have ht : ∀ w ∈ TB, w.before args s = true := fun w h => hts w (List.mem_cons_of_mem _ h)
  have hK := hKK.1
  unfold B_Mr_matches2_0 at h
  refine lv_iload_n hx hb d_Mr_matches_0 rfl (lv_at hl 2 rfl) ?_
  refine lv_iconst (v := 1) hx hb d_Mr_matches_1 (by decide) ?_
  refine lv_iadd hx hb d_Mr_matches_2 ?_
  refine lv_istore hx hb d_Mr_matches_3 hl (Nat.le_of_ble_eq_true rfl) rfl (fun ls hl => ?_)
  have hl : lv_has ls 9 [(6, .int (x2 + (1 : Int32))), (0, .ref (a0 0)), (1, .ref (a1 0)), (2, .int x2), (3, .ref (a2 0)), (4, .int x4), (5, .int x5)] := hl
  refine lv_iconst (v := 0) hx hb d_Mr_matches_5 (by decide) ?_
  refine lv_istore hx hb d_Mr_matches_6 hl (Nat.le_of_ble_eq_true rfl) rfl (fun ls hl => ?_)
  have hl : lv_has ls 9 [(7, .int (0 : Int32)), (6, .int (x2 + (1 : Int32))), (0, .ref (a0 0)), (1, .ref (a1 0)), (2, .int x2), (3, .ref (a2 0)), (4, .int x4), (5, .int x5)] := hl
  exact T_Mr_matches2_8 X (lv_sub hl [2, 3, 4, 5, 6, 7, 1, 0] rfl) hI hS h
set_option maxRecDepth 100000 in
set_option maxHeartbeats 4000000 in
theorem c_Mr_matches2 {l : Launch} {D : va_G} {A : Nat → Prop} {g : Nat → ClassId} {rest : va_W} {a0 : Nat → Nat} {a1 : Nat → Nat} {a2 : Nat → Nat} {s0 : S_Mr} {s1 : S_Tr} {s2 : S_Tr} {x2 : Int32} {x4 : Int32} {x5 : Int32} {out : Int32 × S_Mr} (h : F_Mr_matches2 s0 s1 s2 x2 x4 x5 = some out) : Met l y_Mr_matches ws_Mr_matches2 { frames := 3, cells := 0, slots := 0, locals := 83 } (PcW D A g [.ref (a0 0), .ref (a1 0), .int x2, .ref (a2 0), .int x4, .int x5] (w_Mr g a0 s0 ++ (w_Tr g a1 s1 ++ (w_Tr g a2 s2 ++ (rest))))) (QcI D A g out.1 (fun (_ : Unit) => w_Mr g a0 out.2 ++ (w_Tr g a1 s1 ++ (w_Tr g a2 s2 ++ (rest))))) 0 0 A := by
  refine Met.ofW (cc := prog_4_method_2_code) (maxL := 9) (ret := (some .boolean)) (by decide) rfl ?_
  intro p e s m args below meth c s₁ B hml hv
  obtain ⟨rfl, hI, hK⟩ := hv
  have hl := lv_entry [.ref (a0 0), .ref (a1 0), .int x2, .ref (a2 0), .int x4, .int x5] (n := 9) (Nat.le_of_ble_eq_true rfl)
  rw [lg_entry_eq]
  generalize (lg_sl [.ref (a0 0), .ref (a1 0), .int x2, .ref (a2 0), .int x4, .int x5] ++ List.replicate (9 - (lg_sl [.ref (a0 0), .ref (a1 0), .int x2, .ref (a2 0), .int x4, .int x5]).length) Slot.unset).toArray = ls at hl ⊢
  have hl : lv_has ls 9 [(0, .ref (a0 0)), (1, .ref (a1 0)), (2, .int x2), (3, .ref (a2 0)), (4, .int x4), (5, .int x5)] := hl
  exact t_Mr_matches2_0 ⟨B.exec, B.bytes, hml, findClass_of_methodNamed B.named, atoms_spec (ws := ws_Mr_matches2) B.pre, B.returns, B.notSynchronized, hK⟩ (lv_sub hl [0, 1, 2, 3, 4, 5] rfl) hI va_S.rf h
def ws_Mr_fits1 : List Cond := .code y_Mr_fits prog_4_method_3_code 11 (some .boolean) :: TB
def B_Mr_fits1_147 (s1 : S_Tr) (s2 : S_Tr) (s0 : S_Mr) (x9 : Int32) : Option (Int32 × S_Mr) :=
  (if x9 = 0 ∨ x9 = 1 then some (x9, s0) else none)
def B_Mr_fits1_131 (k81 : S_Mr × Int32 × Int32 × Int32 × Int32 × Int32 × Int32 → Option (Int32 × S_Mr)) (s1 : S_Tr) (s2 : S_Tr) (s0 : S_Mr) (x4 : Int32) (x5 : Int32) (x7 : Int32) (x8 : Int32) (x10 : Int32) (y0 : Int32) : Option (Int32 × S_Mr) :=
  ((F_Tr_behind s2 x8).bind fun o1 => (k81 (s0, x4, x5, x7, o1, y0, (x10 + 1))))
def B_Mr_fits1_130 (k81 : S_Mr × Int32 × Int32 × Int32 × Int32 × Int32 × Int32 → Option (Int32 × S_Mr)) (s1 : S_Tr) (s2 : S_Tr) (s0 : S_Mr) (x4 : Int32) (x5 : Int32) (x7 : Int32) (x8 : Int32) (x10 : Int32) : Option (Int32 × S_Mr) :=
  (B_Mr_fits1_131 k81 s1 s2 s0 x4 x5 x7 x8 x10 (0 : Int32))
def B_Mr_fits1_126 (k81 : S_Mr × Int32 × Int32 × Int32 × Int32 × Int32 × Int32 → Option (Int32 × S_Mr)) (s1 : S_Tr) (s2 : S_Tr) (s0 : S_Mr) (x4 : Int32) (x5 : Int32) (x7 : Int32) (x8 : Int32) (x10 : Int32) : Option (Int32 × S_Mr) :=
  (B_Mr_fits1_131 k81 s1 s2 s0 x4 x5 x7 x8 x10 (1 : Int32))
def B_Mr_fits1_109 (k81 : S_Mr × Int32 × Int32 × Int32 × Int32 × Int32 × Int32 → Option (Int32 × S_Mr)) (s1 : S_Tr) (s2 : S_Tr) (s0 : S_Mr) (x4 : Int32) (x5 : Int32) (x7 : Int32) (x8 : Int32) (x10 : Int32) : Option (Int32 × S_Mr) :=
  ((F_Mr_matches2 s0 s1 s2 x7 x8 (x5 + (1 : Int32))).bind fun o1 => (if o1.1 = 0 then (B_Mr_fits1_130 k81 s1 s2 o1.2 x4 x5 x7 x8 x10) else (B_Mr_fits1_126 k81 s1 s2 o1.2 x4 x5 x7 x8 x10)))
def B_Mr_fits1_103 (k81 : S_Mr × Int32 × Int32 × Int32 × Int32 × Int32 × Int32 → Option (Int32 × S_Mr)) (s1 : S_Tr) (s2 : S_Tr) (s0 : S_Mr) (x4 : Int32) (x5 : Int32) (x7 : Int32) (x8 : Int32) (x10 : Int32) : Option (Int32 × S_Mr) :=
  (if (2 : Int32) ≤ x5 then (B_Mr_fits1_130 k81 s1 s2 s0 x4 x5 x7 x8 x10) else (B_Mr_fits1_109 k81 s1 s2 s0 x4 x5 x7 x8 x10))
def B_Mr_fits1_98 (k81 : S_Mr × Int32 × Int32 × Int32 × Int32 × Int32 × Int32 → Option (Int32 × S_Mr)) (s1 : S_Tr) (s2 : S_Tr) (s0 : S_Mr) (x4 : Int32) (x5 : Int32) (x7 : Int32) (x8 : Int32) (x9 : Int32) (x10 : Int32) : Option (Int32 × S_Mr) :=
  (if x9 = 0 then (B_Mr_fits1_103 k81 s1 s2 s0 x4 x5 x7 x8 x10) else (B_Mr_fits1_147 s1 s2 s0 x9))
def B_Mr_fits1_87 (k81 : S_Mr × Int32 × Int32 × Int32 × Int32 × Int32 × Int32 → Option (Int32 × S_Mr)) (s1 : S_Tr) (s2 : S_Tr) (s0 : S_Mr) (x4 : Int32) (x5 : Int32) (x7 : Int32) (x8 : Int32) (x9 : Int32) (x10 : Int32) : Option (Int32 × S_Mr) :=
  ((F_Tr_behind s2 x4).bind fun o1 => (if o1 ≤ x8 then (B_Mr_fits1_147 s1 s2 s0 x9) else (B_Mr_fits1_98 k81 s1 s2 s0 x4 x5 x7 x8 x9 x10)))
def B_Mr_fits1_81 (k81 : S_Mr × Int32 × Int32 × Int32 × Int32 × Int32 × Int32 → Option (Int32 × S_Mr)) (s1 : S_Tr) (s2 : S_Tr) (s0 : S_Mr) (x4 : Int32) (x5 : Int32) (x7 : Int32) (x8 : Int32) (x9 : Int32) (x10 : Int32) : Option (Int32 × S_Mr) :=
  (if (4 : Int32) ≤ x10 then (B_Mr_fits1_147 s1 s2 s0 x9) else (B_Mr_fits1_87 k81 s1 s2 s0 x4 x5 x7 x8 x9 x10))
def L_Mr_fits1_81 (s1 : S_Tr) (s2 : S_Tr) (v : S_Mr × Int32 × Int32 × Int32 × Int32 × Int32 × Int32) : Option (Int32 × S_Mr) := lp (fun k81 v => B_Mr_fits1_81  k81 s1 s2 v.1 v.2.1 v.2.2.1 v.2.2.2.1 v.2.2.2.2.1 v.2.2.2.2.2.1 v.2.2.2.2.2.2) FU v
def B_Mr_fits1_69 (s1 : S_Tr) (s2 : S_Tr) (s0 : S_Mr) (x4 : Int32) (x5 : Int32) (x7 : Int32) : Option (Int32 × S_Mr) :=
  (L_Mr_fits1_81 s1 s2 (s0, x4, x5, x7, (x4 + (1 : Int32)), (0 : Int32), (0 : Int32)))
def B_Mr_fits1_67 (s1 : S_Tr) (s2 : S_Tr) (s0 : S_Mr) : Option (Int32 × S_Mr) :=
  some ((1 : Int32), s0)
def B_Mr_fits1_52 (s1 : S_Tr) (s2 : S_Tr) (s0 : S_Mr) (x2 : Int32) (x4 : Int32) (x5 : Int32) : Option (Int32 × S_Mr) :=
  ((F_Tr_behind s1 x2).bind fun o1 => (if (x2 + (1 : Int32)) = o1 then (B_Mr_fits1_67 s1 s2 s0) else (B_Mr_fits1_69 s1 s2 s0 x4 x5 (x2 + (1 : Int32)))))
def B_Mr_fits1_42 (s1 : S_Tr) (s2 : S_Tr) (s0 : S_Mr) (x2 : Int32) (x4 : Int32) : Option (Int32 × S_Mr) :=
  ((F_Mr_textFits s0 s1 s2 x2 x4).bind fun o1 => (if o1.1 = 0 ∨ o1.1 = 1 then some (o1.1, o1.2) else none))
def B_Mr_fits1_36 (s1 : S_Tr) (s2 : S_Tr) (s0 : S_Mr) (x2 : Int32) (x4 : Int32) (x5 : Int32) (x6 : Int32) : Option (Int32 × S_Mr) :=
  (if x6 = (2 : Int32) then (B_Mr_fits1_42 s1 s2 s0 x2 x4) else (B_Mr_fits1_52 s1 s2 s0 x2 x4 x5))
def B_Mr_fits1_35 (s1 : S_Tr) (s2 : S_Tr) (s0 : S_Mr) (y0 : Int32) : Option (Int32 × S_Mr) :=
  (if y0 = 0 ∨ y0 = 1 then some (y0, s0) else none)
def B_Mr_fits1_34 (s1 : S_Tr) (s2 : S_Tr) (s0 : S_Mr) : Option (Int32 × S_Mr) :=
  (B_Mr_fits1_35 s1 s2 s0 (0 : Int32))
def B_Mr_fits1_30 (s1 : S_Tr) (s2 : S_Tr) (s0 : S_Mr) : Option (Int32 × S_Mr) :=
  (B_Mr_fits1_35 s1 s2 s0 (1 : Int32))
def B_Mr_fits1_16 (s1 : S_Tr) (s2 : S_Tr) (s0 : S_Mr) (x2 : Int32) (x4 : Int32) : Option (Int32 × S_Mr) :=
  ((F_Tr_number s1 x2).bind fun o1 => ((F_Tr_number s2 x4).bind fun o3 => (if o1 = o3 then (B_Mr_fits1_30 s1 s2 s0) else (B_Mr_fits1_34 s1 s2 s0))))
def B_Mr_fits1_0 (s1 : S_Tr) (s2 : S_Tr) (s0 : S_Mr) (x2 : Int32) (x4 : Int32) (x5 : Int32) : Option (Int32 × S_Mr) :=
  ((F_Tr_tag s1 x2).bind fun o1 => ((F_Rn_kindOf o1).bind fun o3 => (if o3 = (1 : Int32) then (B_Mr_fits1_16 s1 s2 s0 x2 x4) else (B_Mr_fits1_36 s1 s2 s0 x2 x4 x5 o3))))
def F_Mr_fits1 (s0 : S_Mr) (s1 : S_Tr) (s2 : S_Tr) (x2 : Int32) (x4 : Int32) (x5 : Int32) : Option (Int32 × S_Mr) := B_Mr_fits1_0 s1 s2 s0 x2 x4 x5
set_option maxRecDepth 100000 in
set_option maxHeartbeats 4000000 in
theorem t_Mr_fits1_147 {p : Program} {l : Launch} {e : Env} {s : State} {m : MethodId} {args : Array Value} {below : List Frame} {meth : Method} {c : Code} {D : va_G} {A : Nat → Prop} {g : Nat → ClassId} {rest : va_W} {a0 : Nat → Nat} {a1 : Nat → Nat} {a2 : Nat → Nat} {ls : Array Slot} {H : Heap} {locs : List Loc} {s1 : S_Tr} {s2 : S_Tr} {s0 : S_Mr} {x9 : Int32} {out : Int32 × S_Mr} (X : Cx p s m args meth c prog_4_method_3_code 11 ws_Mr_fits1 R_Mr (some .boolean) D g) (hl : lv_has ls 11 [(9, .int x9)]) (hI : Iw D A (w_Mr g a0 s0 ++ (w_Tr g a1 s1 ++ (w_Tr g a2 s2 ++ (rest)))) H) (hS : va_S A s.heap H locs) (h : B_Mr_fits1_147  s1 s2 s0 x9 = some out) : W p l e (headSpec ws_Mr_fits1 { frames := 4, cells := 0, slots := 0, locals := 111 }).room s m args below meth c H locs 0 0 (MQ below (QcI D A g out.1 (fun (_ : Unit) => w_Mr g a0 out.2 ++ (w_Tr g a1 s1 ++ (w_Tr g a2 s2 ++ (rest))))) args s 0 0 A) (F0 m 147 ls []) := by
  have X1 := X
  obtain ⟨hx, hb, hml, hown, hts, hr, hlocks, hKK⟩ := X1
  have ht : ∀ w ∈ TB, w.before args s = true := fun w h => hts w (List.mem_cons_of_mem _ h)
  have hK := hKK.1
  unfold B_Mr_fits1_147 at h
  refine lv_iload hx hb d_Mr_fits_147 (lv_at hl 0 rfl) ?_
  have hc1 : x9 = 0 ∨ x9 = 1 := by
    by_cases z : x9 = 0 ∨ x9 = 1
    · exact z
    · exact no_s (it_f h z)
  have h := it_t h hc1
  have h9 := Option.some.inj h
  subst h9
  exact W.zret (v := x9) hx hb hr (by rcases hc1 with z | z <;> rw [z] <;> rfl) (fun t ht hW => ⟨⟨_, (), rfl, rfl, ⟨by rw [ht]; exact hI, hKK.moved hW⟩⟩, hS.F ht⟩) hS.2.2 d_Mr_fits_149
set_option maxRecDepth 100000 in
set_option maxHeartbeats 4000000 in
theorem t_Mr_fits1_131 {p : Program} {l : Launch} {e : Env} {s : State} {m : MethodId} {args : Array Value} {below : List Frame} {meth : Method} {c : Code} {D : va_G} {A : Nat → Prop} {g : Nat → ClassId} {rest : va_W} {a0 : Nat → Nat} {a1 : Nat → Nat} {a2 : Nat → Nat} {ls : Array Slot} {H : Heap} {locs : List Loc} {k81 : S_Mr × Int32 × Int32 × Int32 × Int32 × Int32 × Int32 → Option (Int32 × S_Mr)} {s1 : S_Tr} {s2 : S_Tr} {s0 : S_Mr} {x4 : Int32} {x5 : Int32} {x7 : Int32} {x8 : Int32} {x10 : Int32} {y0 : Int32} {out : Int32 × S_Mr} (X : Cx p s m args meth c prog_4_method_3_code 11 ws_Mr_fits1 R_Mr (some .boolean) D g) (hk81 : ∀ (v : S_Mr × Int32 × Int32 × Int32 × Int32 × Int32 × Int32) (ls : Array Slot) (H : Heap) (locs : List Loc), lv_has ls 11 [(0, .ref (a0 0)), (1, .ref (a1 0)), (3, .ref (a2 0)), (4, .int v.2.1), (5, .int v.2.2.1), (7, .int v.2.2.2.1), (8, .int v.2.2.2.2.1), (9, .int v.2.2.2.2.2.1), (10, .int v.2.2.2.2.2.2)] → Iw D A (w_Mr g a0 v.1 ++ (w_Tr g a1 s1 ++ (w_Tr g a2 s2 ++ (rest)))) H → va_S A s.heap H locs → k81 v = some out → W p l e (headSpec ws_Mr_fits1 { frames := 4, cells := 0, slots := 0, locals := 111 }).room s m args below meth c H locs 0 0 (MQ below (QcI D A g out.1 (fun (_ : Unit) => w_Mr g a0 out.2 ++ (w_Tr g a1 s1 ++ (w_Tr g a2 s2 ++ (rest))))) args s 0 0 A) (F0 m 81 ls [])) (hl : lv_has ls 11 [(0, .ref (a0 0)), (1, .ref (a1 0)), (3, .ref (a2 0)), (4, .int x4), (5, .int x5), (7, .int x7), (8, .int x8), (10, .int x10)]) (hI : Iw D A (w_Mr g a0 s0 ++ (w_Tr g a1 s1 ++ (w_Tr g a2 s2 ++ (rest)))) H) (hS : va_S A s.heap H locs) (h : B_Mr_fits1_131 k81 s1 s2 s0 x4 x5 x7 x8 x10 y0 = some out) : W p l e (headSpec ws_Mr_fits1 { frames := 4, cells := 0, slots := 0, locals := 111 }).room s m args below meth c H locs 0 0 (MQ below (QcI D A g out.1 (fun (_ : Unit) => w_Mr g a0 out.2 ++ (w_Tr g a1 s1 ++ (w_Tr g a2 s2 ++ (rest))))) args s 0 0 A) (F0 m 131 ls [.int y0]) := by
  have X1 := X
  obtain ⟨hx, hb, hml, hown, hts, hr, hlocks, hKK⟩ := X1
  have ht : ∀ w ∈ TB, w.before args s = true := fun w h => hts w (List.mem_cons_of_mem _ h)
  have hK := hKK.1
  unfold B_Mr_fits1_131 at h
  refine lv_istore hx hb d_Mr_fits_131 hl (Nat.le_of_ble_eq_true rfl) rfl (fun ls hl => ?_)
  have hl : lv_has ls 11 [(9, .int y0), (0, .ref (a0 0)), (1, .ref (a1 0)), (3, .ref (a2 0)), (4, .int x4), (5, .int x5), (7, .int x7), (8, .int x8), (10, .int x10)] := hl
  refine lv_aload_n hx hb d_Mr_fits_133 rfl (lv_at hl 3 rfl) ?_
  refine lv_iload hx hb d_Mr_fits_134 (lv_at hl 7 rfl) ?_
  obtain ⟨o1, ho2, h⟩ := bd_s h
  refine cl_i (W1 := fun (_ : Unit) => w_Mr g a0 s0 ++ (w_Tr g a1 s1 ++ (w_Tr g a2 s2 ++ (rest)))) (va_runV (As := [.int x8]) (rest := []) ⟨hx, hb, hml, hown, ht⟩ (c_Tr_behind (l := l) (D := D) (A := A) (g := g) (rest := w_Mr g a0 s0 ++ (w_Tr g a1 s1 ++ (rest))) (a0 := a2) ho2) (cwV 1 ht (gd_V m_622 m_508 m_509 m_9 m_510) rfl rfl rfl (by decide +kernel) ⟨(Nat.le_of_ble_eq_true rfl), (Nat.le_of_ble_eq_true rfl)⟩) (prV (ci := 7) (q0 := 0) hKK hI (mv_2) rfl rfl rfl) rfl rfl hl.1 rfl (lv_room (Nat.le_of_ble_eq_true rfl)) d_Mr_fits_136 ⟨(Nat.le_of_ble_eq_true rfl), (Nat.le_of_ble_eq_true rfl)⟩) hS (fun _ => ((mv_2)).symm) (fun _ H locs hI hS => ?_)
  have hI : Iw D A (w_Mr g a0 s0 ++ (w_Tr g a1 s1 ++ (w_Tr g a2 s2 ++ (rest)))) H := hI
  refine lv_istore hx hb d_Mr_fits_139 hl (Nat.le_of_ble_eq_true rfl) rfl (fun ls hl => ?_)
  have hl : lv_has ls 11 [(8, .int o1), (9, .int y0), (0, .ref (a0 0)), (1, .ref (a1 0)), (3, .ref (a2 0)), (4, .int x4), (5, .int x5), (7, .int x7), (10, .int x10)] := hl
  refine lv_iinc (k := 8) (v := (x10 + 1)) hx hb d_Mr_fits_141 hl rfl (congrArg (fun z => x10 + z) (by decide)) (Nat.le_of_ble_eq_true rfl) rfl (fun ls hl => ?_)
  have hl : lv_has ls 11 [(10, .int (x10 + 1)), (8, .int o1), (9, .int y0), (0, .ref (a0 0)), (1, .ref (a1 0)), (3, .ref (a2 0)), (4, .int x4), (5, .int x5), (7, .int x7)] := hl
  refine lv_goto (tgt := 81) hx hb d_Mr_fits_144 (by decide) ?_
  exact hk81 (s0, x4, x5, x7, o1, y0, (x10 + 1)) _ _ _ (lv_sub hl [3, 4, 5, 6, 7, 8, 1, 2, 0] rfl) hI hS h
set_option maxRecDepth 100000 in
set_option maxHeartbeats 4000000 in
theorem t_Mr_fits1_130 {p : Program} {l : Launch} {e : Env} {s : State} {m : MethodId} {args : Array Value} {below : List Frame} {meth : Method} {c : Code} {D : va_G} {A : Nat → Prop} {g : Nat → ClassId} {rest : va_W} {a0 : Nat → Nat} {a1 : Nat → Nat} {a2 : Nat → Nat} {ls : Array Slot} {H : Heap} {locs : List Loc} {k81 : S_Mr × Int32 × Int32 × Int32 × Int32 × Int32 × Int32 → Option (Int32 × S_Mr)} {s1 : S_Tr} {s2 : S_Tr} {s0 : S_Mr} {x4 : Int32} {x5 : Int32} {x7 : Int32} {x8 : Int32} {x10 : Int32} {out : Int32 × S_Mr} (X : Cx p s m args meth c prog_4_method_3_code 11 ws_Mr_fits1 R_Mr (some .boolean) D g) (hk81 : ∀ (v : S_Mr × Int32 × Int32 × Int32 × Int32 × Int32 × Int32) (ls : Array Slot) (H : Heap) (locs : List Loc), lv_has ls 11 [(0, .ref (a0 0)), (1, .ref (a1 0)), (3, .ref (a2 0)), (4, .int v.2.1), (5, .int v.2.2.1), (7, .int v.2.2.2.1), (8, .int v.2.2.2.2.1), (9, .int v.2.2.2.2.2.1), (10, .int v.2.2.2.2.2.2)] → Iw D A (w_Mr g a0 v.1 ++ (w_Tr g a1 s1 ++ (w_Tr g a2 s2 ++ (rest)))) H → va_S A s.heap H locs → k81 v = some out → W p l e (headSpec ws_Mr_fits1 { frames := 4, cells := 0, slots := 0, locals := 111 }).room s m args below meth c H locs 0 0 (MQ below (QcI D A g out.1 (fun (_ : Unit) => w_Mr g a0 out.2 ++ (w_Tr g a1 s1 ++ (w_Tr g a2 s2 ++ (rest))))) args s 0 0 A) (F0 m 81 ls [])) (hl : lv_has ls 11 [(0, .ref (a0 0)), (1, .ref (a1 0)), (3, .ref (a2 0)), (4, .int x4), (5, .int x5), (7, .int x7), (8, .int x8), (10, .int x10)]) (hI : Iw D A (w_Mr g a0 s0 ++ (w_Tr g a1 s1 ++ (w_Tr g a2 s2 ++ (rest)))) H) (hS : va_S A s.heap H locs) (h : B_Mr_fits1_130 k81 s1 s2 s0 x4 x5 x7 x8 x10 = some out) : W p l e (headSpec ws_Mr_fits1 { frames := 4, cells := 0, slots := 0, locals := 111 }).room s m args below meth c H locs 0 0 (MQ below (QcI D A g out.1 (fun (_ : Unit) => w_Mr g a0 out.2 ++ (w_Tr g a1 s1 ++ (w_Tr g a2 s2 ++ (rest))))) args s 0 0 A) (F0 m 130 ls []) := by
  have X1 := X
  obtain ⟨hx, hb, hml, hown, hts, hr, hlocks, hKK⟩ := X1
  have ht : ∀ w ∈ TB, w.before args s = true := fun w h => hts w (List.mem_cons_of_mem _ h)
  have hK := hKK.1
  unfold B_Mr_fits1_130 at h
  refine lv_iconst (v := 0) hx hb d_Mr_fits_130 (by decide) ?_
  exact t_Mr_fits1_131 X hk81 (lv_sub hl [0, 1, 2, 3, 4, 5, 6, 7] rfl) hI hS h
set_option maxRecDepth 100000 in
set_option maxHeartbeats 4000000 in
theorem t_Mr_fits1_126 {p : Program} {l : Launch} {e : Env} {s : State} {m : MethodId} {args : Array Value} {below : List Frame} {meth : Method} {c : Code} {D : va_G} {A : Nat → Prop} {g : Nat → ClassId} {rest : va_W} {a0 : Nat → Nat} {a1 : Nat → Nat} {a2 : Nat → Nat} {ls : Array Slot} {H : Heap} {locs : List Loc} {k81 : S_Mr × Int32 × Int32 × Int32 × Int32 × Int32 × Int32 → Option (Int32 × S_Mr)} {s1 : S_Tr} {s2 : S_Tr} {s0 : S_Mr} {x4 : Int32} {x5 : Int32} {x7 : Int32} {x8 : Int32} {x10 : Int32} {out : Int32 × S_Mr} (X : Cx p s m args meth c prog_4_method_3_code 11 ws_Mr_fits1 R_Mr (some .boolean) D g) (hk81 : ∀ (v : S_Mr × Int32 × Int32 × Int32 × Int32 × Int32 × Int32) (ls : Array Slot) (H : Heap) (locs : List Loc), lv_has ls 11 [(0, .ref (a0 0)), (1, .ref (a1 0)), (3, .ref (a2 0)), (4, .int v.2.1), (5, .int v.2.2.1), (7, .int v.2.2.2.1), (8, .int v.2.2.2.2.1), (9, .int v.2.2.2.2.2.1), (10, .int v.2.2.2.2.2.2)] → Iw D A (w_Mr g a0 v.1 ++ (w_Tr g a1 s1 ++ (w_Tr g a2 s2 ++ (rest)))) H → va_S A s.heap H locs → k81 v = some out → W p l e (headSpec ws_Mr_fits1 { frames := 4, cells := 0, slots := 0, locals := 111 }).room s m args below meth c H locs 0 0 (MQ below (QcI D A g out.1 (fun (_ : Unit) => w_Mr g a0 out.2 ++ (w_Tr g a1 s1 ++ (w_Tr g a2 s2 ++ (rest))))) args s 0 0 A) (F0 m 81 ls [])) (hl : lv_has ls 11 [(0, .ref (a0 0)), (1, .ref (a1 0)), (3, .ref (a2 0)), (4, .int x4), (5, .int x5), (7, .int x7), (8, .int x8), (10, .int x10)]) (hI : Iw D A (w_Mr g a0 s0 ++ (w_Tr g a1 s1 ++ (w_Tr g a2 s2 ++ (rest)))) H) (hS : va_S A s.heap H locs) (h : B_Mr_fits1_126 k81 s1 s2 s0 x4 x5 x7 x8 x10 = some out) : W p l e (headSpec ws_Mr_fits1 { frames := 4, cells := 0, slots := 0, locals := 111 }).room s m args below meth c H locs 0 0 (MQ below (QcI D A g out.1 (fun (_ : Unit) => w_Mr g a0 out.2 ++ (w_Tr g a1 s1 ++ (w_Tr g a2 s2 ++ (rest))))) args s 0 0 A) (F0 m 126 ls []) := by
  have X1 := X
  obtain ⟨hx, hb, hml, hown, hts, hr, hlocks, hKK⟩ := X1
  have ht : ∀ w ∈ TB, w.before args s = true := fun w h => hts w (List.mem_cons_of_mem _ h)
  have hK := hKK.1
  unfold B_Mr_fits1_126 at h
  refine lv_iconst (v := 1) hx hb d_Mr_fits_126 (by decide) ?_
  refine lv_goto (tgt := 131) hx hb d_Mr_fits_127 (by decide) ?_
  exact t_Mr_fits1_131 X hk81 (lv_sub hl [0, 1, 2, 3, 4, 5, 6, 7] rfl) hI hS h
set_option maxRecDepth 100000 in
set_option maxHeartbeats 4000000 in
theorem t_Mr_fits1_109 {p : Program} {l : Launch} {e : Env} {s : State} {m : MethodId} {args : Array Value} {below : List Frame} {meth : Method} {c : Code} {D : va_G} {A : Nat → Prop} {g : Nat → ClassId} {rest : va_W} {a0 : Nat → Nat} {a1 : Nat → Nat} {a2 : Nat → Nat} {ls : Array Slot} {H : Heap} {locs : List Loc} {k81 : S_Mr × Int32 × Int32 × Int32 × Int32 × Int32 × Int32 → Option (Int32 × S_Mr)} {s1 : S_Tr} {s2 : S_Tr} {s0 : S_Mr} {x4 : Int32} {x5 : Int32} {x7 : Int32} {x8 : Int32} {x10 : Int32} {out : Int32 × S_Mr} (X : Cx p s m args meth c prog_4_method_3_code 11 ws_Mr_fits1 R_Mr (some .boolean) D g) (hk81 : ∀ (v : S_Mr × Int32 × Int32 × Int32 × Int32 × Int32 × Int32) (ls : Array Slot) (H : Heap) (locs : List Loc), lv_has ls 11 [(0, .ref (a0 0)), (1, .ref (a1 0)), (3, .ref (a2 0)), (4, .int v.2.1), (5, .int v.2.2.1), (7, .int v.2.2.2.1), (8, .int v.2.2.2.2.1), (9, .int v.2.2.2.2.2.1), (10, .int v.2.2.2.2.2.2)] → Iw D A (w_Mr g a0 v.1 ++ (w_Tr g a1 s1 ++ (w_Tr g a2 s2 ++ (rest)))) H → va_S A s.heap H locs → k81 v = some out → W p l e (headSpec ws_Mr_fits1 { frames := 4, cells := 0, slots := 0, locals := 111 }).room s m args below meth c H locs 0 0 (MQ below (QcI D A g out.1 (fun (_ : Unit) => w_Mr g a0 out.2 ++ (w_Tr g a1 s1 ++ (w_Tr g a2 s2 ++ (rest))))) args s 0 0 A) (F0 m 81 ls [])) (hl : lv_has ls 11 [(0, .ref (a0 0)), (1, .ref (a1 0)), (3, .ref (a2 0)), (4, .int x4), (5, .int x5), (7, .int x7), (8, .int x8), (10, .int x10)]) (hI : Iw D A (w_Mr g a0 s0 ++ (w_Tr g a1 s1 ++ (w_Tr g a2 s2 ++ (rest)))) H) (hS : va_S A s.heap H locs) (h : B_Mr_fits1_109 k81 s1 s2 s0 x4 x5 x7 x8 x10 = some out) : W p l e (headSpec ws_Mr_fits1 { frames := 4, cells := 0, slots := 0, locals := 111 }).room s m args below meth c H locs 0 0 (MQ below (QcI D A g out.1 (fun (_ : Unit) => w_Mr g a0 out.2 ++ (w_Tr g a1 s1 ++ (w_Tr g a2 s2 ++ (rest))))) args s 0 0 A) (F0 m 109 ls []) := by
  have X1 := X
  obtain ⟨hx, hb, hml, hown, hts, hr, hlocks, hKK⟩ := X1
  have ht : ∀ w ∈ TB, w.before args s = true := fun w h => hts w (List.mem_cons_of_mem _ h)
  have hK := hKK.1
  unfold B_Mr_fits1_109 at h
  refine lv_aload_n hx hb d_Mr_fits_109 rfl (lv_at hl 0 rfl) ?_
  refine lv_aload_n hx hb d_Mr_fits_110 rfl (lv_at hl 1 rfl) ?_
  refine lv_iload hx hb d_Mr_fits_111 (lv_at hl 5 rfl) ?_
  refine lv_aload_n hx hb d_Mr_fits_113 rfl (lv_at hl 2 rfl) ?_
  refine lv_iload hx hb d_Mr_fits_114 (lv_at hl 6 rfl) ?_
  refine lv_iload hx hb d_Mr_fits_116 (lv_at hl 4 rfl) ?_
  refine lv_iconst (v := 1) hx hb d_Mr_fits_118 (by decide) ?_
  refine lv_iadd hx hb d_Mr_fits_119 ?_
  obtain ⟨o1, ho2, h⟩ := bd_s h
  refine cl_i (W1 := fun (_ : Unit) => w_Mr g a0 o1.2 ++ (w_Tr g a1 s1 ++ (w_Tr g a2 s2 ++ (rest)))) (va_runV (As := [.ref (a1 0), .int x7, .ref (a2 0), .int x8, .int (x5 + (1 : Int32))]) (rest := []) ⟨hx, hb, hml, hown, ht⟩ (c_Mr_matches2 (l := l) (D := D) (A := A) (g := g) (rest := rest) (a0 := a0) (a1 := a1) (a2 := a2) ho2) (cwV 5 ht (gd_V m_638 m_620 mp_33 m_10 m_621) rfl rfl rfl (by decide +kernel) ⟨(Nat.le_of_ble_eq_true rfl), (Nat.le_of_ble_eq_true rfl)⟩) (prV (ci := 2) (q0 := 0) hKK hI ((mv_2).trans ((mv_2).trans (mv_2))) rfl rfl rfl) rfl rfl hl.1 rfl (lv_room (Nat.le_of_ble_eq_true rfl)) d_Mr_fits_120 ⟨(Nat.le_of_ble_eq_true rfl), (Nat.le_of_ble_eq_true rfl)⟩) hS (fun _ => (((mv_2).trans ((mv_2).trans (mv_2)))).symm) (fun _ H locs hI hS => ?_)
  have hI : Iw D A (w_Mr g a0 o1.2 ++ (w_Tr g a1 s1 ++ (w_Tr g a2 s2 ++ (rest)))) H := hI
  refine lv_if_eq (tgt := 130) hx hb d_Mr_fits_123 (by decide) (fun hc => ?_) (fun hc => ?_)
  · have h := it_t h hc
    exact t_Mr_fits1_130 X hk81 (lv_sub hl [0, 1, 2, 3, 4, 5, 6, 7] rfl) hI hS h
  · have h := it_f h hc
    exact t_Mr_fits1_126 X hk81 (lv_sub hl [0, 1, 2, 3, 4, 5, 6, 7] rfl) hI hS h
set_option maxRecDepth 100000 in
set_option maxHeartbeats 4000000 in
theorem t_Mr_fits1_103 {p : Program} {l : Launch} {e : Env} {s : State} {m : MethodId} {args : Array Value} {below : List Frame} {meth : Method} {c : Code} {D : va_G} {A : Nat → Prop} {g : Nat → ClassId} {rest : va_W} {a0 : Nat → Nat} {a1 : Nat → Nat} {a2 : Nat → Nat} {ls : Array Slot} {H : Heap} {locs : List Loc} {k81 : S_Mr × Int32 × Int32 × Int32 × Int32 × Int32 × Int32 → Option (Int32 × S_Mr)} {s1 : S_Tr} {s2 : S_Tr} {s0 : S_Mr} {x4 : Int32} {x5 : Int32} {x7 : Int32} {x8 : Int32} {x10 : Int32} {out : Int32 × S_Mr} (X : Cx p s m args meth c prog_4_method_3_code 11 ws_Mr_fits1 R_Mr (some .boolean) D g) (hk81 : ∀ (v : S_Mr × Int32 × Int32 × Int32 × Int32 × Int32 × Int32) (ls : Array Slot) (H : Heap) (locs : List Loc), lv_has ls 11 [(0, .ref (a0 0)), (1, .ref (a1 0)), (3, .ref (a2 0)), (4, .int v.2.1), (5, .int v.2.2.1), (7, .int v.2.2.2.1), (8, .int v.2.2.2.2.1), (9, .int v.2.2.2.2.2.1), (10, .int v.2.2.2.2.2.2)] → Iw D A (w_Mr g a0 v.1 ++ (w_Tr g a1 s1 ++ (w_Tr g a2 s2 ++ (rest)))) H → va_S A s.heap H locs → k81 v = some out → W p l e (headSpec ws_Mr_fits1 { frames := 4, cells := 0, slots := 0, locals := 111 }).room s m args below meth c H locs 0 0 (MQ below (QcI D A g out.1 (fun (_ : Unit) => w_Mr g a0 out.2 ++ (w_Tr g a1 s1 ++ (w_Tr g a2 s2 ++ (rest))))) args s 0 0 A) (F0 m 81 ls [])) (hl : lv_has ls 11 [(0, .ref (a0 0)), (1, .ref (a1 0)), (3, .ref (a2 0)), (4, .int x4), (5, .int x5), (7, .int x7), (8, .int x8), (10, .int x10)]) (hI : Iw D A (w_Mr g a0 s0 ++ (w_Tr g a1 s1 ++ (w_Tr g a2 s2 ++ (rest)))) H) (hS : va_S A s.heap H locs) (h : B_Mr_fits1_103 k81 s1 s2 s0 x4 x5 x7 x8 x10 = some out) : W p l e (headSpec ws_Mr_fits1 { frames := 4, cells := 0, slots := 0, locals := 111 }).room s m args below meth c H locs 0 0 (MQ below (QcI D A g out.1 (fun (_ : Unit) => w_Mr g a0 out.2 ++ (w_Tr g a1 s1 ++ (w_Tr g a2 s2 ++ (rest))))) args s 0 0 A) (F0 m 103 ls []) := by
  have X1 := X
  obtain ⟨hx, hb, hml, hown, hts, hr, hlocks, hKK⟩ := X1
  have ht : ∀ w ∈ TB, w.before args s = true := fun w h => hts w (List.mem_cons_of_mem _ h)
  have hK := hKK.1
  unfold B_Mr_fits1_103 at h
  refine lv_iload hx hb d_Mr_fits_103 (lv_at hl 4 rfl) ?_
  refine lv_iconst (v := 2) hx hb d_Mr_fits_105 (by decide) ?_
  refine lv_icmp_ge (tgt := 130) hx hb d_Mr_fits_106 (by decide) (fun hc => ?_) (fun hc => ?_)
  · have h := it_t h hc
    exact t_Mr_fits1_130 X hk81 (lv_sub hl [0, 1, 2, 3, 4, 5, 6, 7] rfl) hI hS h
  · have h := it_f h hc
    exact t_Mr_fits1_109 X hk81 (lv_sub hl [0, 1, 2, 3, 4, 5, 6, 7] rfl) hI hS h
set_option maxRecDepth 100000 in
set_option maxHeartbeats 4000000 in
theorem t_Mr_fits1_98 {p : Program} {l : Launch} {e : Env} {s : State} {m : MethodId} {args : Array Value} {below : List Frame} {meth : Method} {c : Code} {D : va_G} {A : Nat → Prop} {g : Nat → ClassId} {rest : va_W} {a0 : Nat → Nat} {a1 : Nat → Nat} {a2 : Nat → Nat} {ls : Array Slot} {H : Heap} {locs : List Loc} {k81 : S_Mr × Int32 × Int32 × Int32 × Int32 × Int32 × Int32 → Option (Int32 × S_Mr)} {s1 : S_Tr} {s2 : S_Tr} {s0 : S_Mr} {x4 : Int32} {x5 : Int32} {x7 : Int32} {x8 : Int32} {x9 : Int32} {x10 : Int32} {out : Int32 × S_Mr} (X : Cx p s m args meth c prog_4_method_3_code 11 ws_Mr_fits1 R_Mr (some .boolean) D g) (hk81 : ∀ (v : S_Mr × Int32 × Int32 × Int32 × Int32 × Int32 × Int32) (ls : Array Slot) (H : Heap) (locs : List Loc), lv_has ls 11 [(0, .ref (a0 0)), (1, .ref (a1 0)), (3, .ref (a2 0)), (4, .int v.2.1), (5, .int v.2.2.1), (7, .int v.2.2.2.1), (8, .int v.2.2.2.2.1), (9, .int v.2.2.2.2.2.1), (10, .int v.2.2.2.2.2.2)] → Iw D A (w_Mr g a0 v.1 ++ (w_Tr g a1 s1 ++ (w_Tr g a2 s2 ++ (rest)))) H → va_S A s.heap H locs → k81 v = some out → W p l e (headSpec ws_Mr_fits1 { frames := 4, cells := 0, slots := 0, locals := 111 }).room s m args below meth c H locs 0 0 (MQ below (QcI D A g out.1 (fun (_ : Unit) => w_Mr g a0 out.2 ++ (w_Tr g a1 s1 ++ (w_Tr g a2 s2 ++ (rest))))) args s 0 0 A) (F0 m 81 ls [])) (hl : lv_has ls 11 [(0, .ref (a0 0)), (1, .ref (a1 0)), (3, .ref (a2 0)), (4, .int x4), (5, .int x5), (7, .int x7), (8, .int x8), (9, .int x9), (10, .int x10)]) (hI : Iw D A (w_Mr g a0 s0 ++ (w_Tr g a1 s1 ++ (w_Tr g a2 s2 ++ (rest)))) H) (hS : va_S A s.heap H locs) (h : B_Mr_fits1_98 k81 s1 s2 s0 x4 x5 x7 x8 x9 x10 = some out) : W p l e (headSpec ws_Mr_fits1 { frames := 4, cells := 0, slots := 0, locals := 111 }).room s m args below meth c H locs 0 0 (MQ below (QcI D A g out.1 (fun (_ : Unit) => w_Mr g a0 out.2 ++ (w_Tr g a1 s1 ++ (w_Tr g a2 s2 ++ (rest))))) args s 0 0 A) (F0 m 98 ls []) := by
  have X1 := X
  obtain ⟨hx, hb, hml, hown, hts, hr, hlocks, hKK⟩ := X1
  have ht : ∀ w ∈ TB, w.before args s = true := fun w h => hts w (List.mem_cons_of_mem _ h)
  have hK := hKK.1
  unfold B_Mr_fits1_98 at h
  refine lv_iload hx hb d_Mr_fits_98 (lv_at hl 7 rfl) ?_
  refine lv_if_ne (tgt := 147) hx hb d_Mr_fits_100 (by decide) (fun hc => ?_) (fun hc => ?_)
  · have h := it_f h hc
    exact t_Mr_fits1_147 X (lv_sub hl [7] rfl) hI hS h
  · have h := it_t h hc
    exact t_Mr_fits1_103 X hk81 (lv_sub hl [0, 1, 2, 3, 4, 5, 6, 8] rfl) hI hS h
set_option maxRecDepth 100000 in
set_option maxHeartbeats 4000000 in
theorem t_Mr_fits1_87 {p : Program} {l : Launch} {e : Env} {s : State} {m : MethodId} {args : Array Value} {below : List Frame} {meth : Method} {c : Code} {D : va_G} {A : Nat → Prop} {g : Nat → ClassId} {rest : va_W} {a0 : Nat → Nat} {a1 : Nat → Nat} {a2 : Nat → Nat} {ls : Array Slot} {H : Heap} {locs : List Loc} {k81 : S_Mr × Int32 × Int32 × Int32 × Int32 × Int32 × Int32 → Option (Int32 × S_Mr)} {s1 : S_Tr} {s2 : S_Tr} {s0 : S_Mr} {x4 : Int32} {x5 : Int32} {x7 : Int32} {x8 : Int32} {x9 : Int32} {x10 : Int32} {out : Int32 × S_Mr} (X : Cx p s m args meth c prog_4_method_3_code 11 ws_Mr_fits1 R_Mr (some .boolean) D g) (hk81 : ∀ (v : S_Mr × Int32 × Int32 × Int32 × Int32 × Int32 × Int32) (ls : Array Slot) (H : Heap) (locs : List Loc), lv_has ls 11 [(0, .ref (a0 0)), (1, .ref (a1 0)), (3, .ref (a2 0)), (4, .int v.2.1), (5, .int v.2.2.1), (7, .int v.2.2.2.1), (8, .int v.2.2.2.2.1), (9, .int v.2.2.2.2.2.1), (10, .int v.2.2.2.2.2.2)] → Iw D A (w_Mr g a0 v.1 ++ (w_Tr g a1 s1 ++ (w_Tr g a2 s2 ++ (rest)))) H → va_S A s.heap H locs → k81 v = some out → W p l e (headSpec ws_Mr_fits1 { frames := 4, cells := 0, slots := 0, locals := 111 }).room s m args below meth c H locs 0 0 (MQ below (QcI D A g out.1 (fun (_ : Unit) => w_Mr g a0 out.2 ++ (w_Tr g a1 s1 ++ (w_Tr g a2 s2 ++ (rest))))) args s 0 0 A) (F0 m 81 ls [])) (hl : lv_has ls 11 [(0, .ref (a0 0)), (1, .ref (a1 0)), (3, .ref (a2 0)), (4, .int x4), (5, .int x5), (7, .int x7), (8, .int x8), (9, .int x9), (10, .int x10)]) (hI : Iw D A (w_Mr g a0 s0 ++ (w_Tr g a1 s1 ++ (w_Tr g a2 s2 ++ (rest)))) H) (hS : va_S A s.heap H locs) (h : B_Mr_fits1_87 k81 s1 s2 s0 x4 x5 x7 x8 x9 x10 = some out) : W p l e (headSpec ws_Mr_fits1 { frames := 4, cells := 0, slots := 0, locals := 111 }).room s m args below meth c H locs 0 0 (MQ below (QcI D A g out.1 (fun (_ : Unit) => w_Mr g a0 out.2 ++ (w_Tr g a1 s1 ++ (w_Tr g a2 s2 ++ (rest))))) args s 0 0 A) (F0 m 87 ls []) := by
  have X1 := X
  obtain ⟨hx, hb, hml, hown, hts, hr, hlocks, hKK⟩ := X1
  have ht : ∀ w ∈ TB, w.before args s = true := fun w h => hts w (List.mem_cons_of_mem _ h)
  have hK := hKK.1
  unfold B_Mr_fits1_87 at h
  refine lv_iload hx hb d_Mr_fits_87 (lv_at hl 6 rfl) ?_
  refine lv_aload_n hx hb d_Mr_fits_89 rfl (lv_at hl 2 rfl) ?_
  refine lv_iload hx hb d_Mr_fits_90 (lv_at hl 3 rfl) ?_
  obtain ⟨o1, ho2, h⟩ := bd_s h
  refine cl_i (W1 := fun (_ : Unit) => w_Mr g a0 s0 ++ (w_Tr g a1 s1 ++ (w_Tr g a2 s2 ++ (rest)))) (va_runV (As := [.int x4]) (rest := [.int x8]) ⟨hx, hb, hml, hown, ht⟩ (c_Tr_behind (l := l) (D := D) (A := A) (g := g) (rest := w_Mr g a0 s0 ++ (w_Tr g a1 s1 ++ (rest))) (a0 := a2) ho2) (cwV 1 ht (gd_V m_622 m_508 m_509 m_9 m_510) rfl rfl rfl (by decide +kernel) ⟨(Nat.le_of_ble_eq_true rfl), (Nat.le_of_ble_eq_true rfl)⟩) (prV (ci := 7) (q0 := 0) hKK hI (mv_2) rfl rfl rfl) rfl rfl hl.1 rfl (lv_room (Nat.le_of_ble_eq_true rfl)) d_Mr_fits_92 ⟨(Nat.le_of_ble_eq_true rfl), (Nat.le_of_ble_eq_true rfl)⟩) hS (fun _ => ((mv_2)).symm) (fun _ H locs hI hS => ?_)
  have hI : Iw D A (w_Mr g a0 s0 ++ (w_Tr g a1 s1 ++ (w_Tr g a2 s2 ++ (rest)))) H := hI
  refine lv_icmp_ge (tgt := 147) hx hb d_Mr_fits_95 (by decide) (fun hc => ?_) (fun hc => ?_)
  · have h := it_t h hc
    exact t_Mr_fits1_147 X (lv_sub hl [7] rfl) hI hS h
  · have h := it_f h hc
    exact t_Mr_fits1_98 X hk81 (lv_sub hl [0, 1, 2, 3, 4, 5, 6, 7, 8] rfl) hI hS h
set_option maxRecDepth 100000 in
set_option maxHeartbeats 4000000 in
theorem t_Mr_fits1_81 {p : Program} {l : Launch} {e : Env} {s : State} {m : MethodId} {args : Array Value} {below : List Frame} {meth : Method} {c : Code} {D : va_G} {A : Nat → Prop} {g : Nat → ClassId} {rest : va_W} {a0 : Nat → Nat} {a1 : Nat → Nat} {a2 : Nat → Nat} {ls : Array Slot} {H : Heap} {locs : List Loc} {k81 : S_Mr × Int32 × Int32 × Int32 × Int32 × Int32 × Int32 → Option (Int32 × S_Mr)} {s1 : S_Tr} {s2 : S_Tr} {s0 : S_Mr} {x4 : Int32} {x5 : Int32} {x7 : Int32} {x8 : Int32} {x9 : Int32} {x10 : Int32} {out : Int32 × S_Mr} (X : Cx p s m args meth c prog_4_method_3_code 11 ws_Mr_fits1 R_Mr (some .boolean) D g) (hk81 : ∀ (v : S_Mr × Int32 × Int32 × Int32 × Int32 × Int32 × Int32) (ls : Array Slot) (H : Heap) (locs : List Loc), lv_has ls 11 [(0, .ref (a0 0)), (1, .ref (a1 0)), (3, .ref (a2 0)), (4, .int v.2.1), (5, .int v.2.2.1), (7, .int v.2.2.2.1), (8, .int v.2.2.2.2.1), (9, .int v.2.2.2.2.2.1), (10, .int v.2.2.2.2.2.2)] → Iw D A (w_Mr g a0 v.1 ++ (w_Tr g a1 s1 ++ (w_Tr g a2 s2 ++ (rest)))) H → va_S A s.heap H locs → k81 v = some out → W p l e (headSpec ws_Mr_fits1 { frames := 4, cells := 0, slots := 0, locals := 111 }).room s m args below meth c H locs 0 0 (MQ below (QcI D A g out.1 (fun (_ : Unit) => w_Mr g a0 out.2 ++ (w_Tr g a1 s1 ++ (w_Tr g a2 s2 ++ (rest))))) args s 0 0 A) (F0 m 81 ls [])) (hl : lv_has ls 11 [(0, .ref (a0 0)), (1, .ref (a1 0)), (3, .ref (a2 0)), (4, .int x4), (5, .int x5), (7, .int x7), (8, .int x8), (9, .int x9), (10, .int x10)]) (hI : Iw D A (w_Mr g a0 s0 ++ (w_Tr g a1 s1 ++ (w_Tr g a2 s2 ++ (rest)))) H) (hS : va_S A s.heap H locs) (h : B_Mr_fits1_81 k81 s1 s2 s0 x4 x5 x7 x8 x9 x10 = some out) : W p l e (headSpec ws_Mr_fits1 { frames := 4, cells := 0, slots := 0, locals := 111 }).room s m args below meth c H locs 0 0 (MQ below (QcI D A g out.1 (fun (_ : Unit) => w_Mr g a0 out.2 ++ (w_Tr g a1 s1 ++ (w_Tr g a2 s2 ++ (rest))))) args s 0 0 A) (F0 m 81 ls []) := by
  have X1 := X
  obtain ⟨hx, hb, hml, hown, hts, hr, hlocks, hKK⟩ := X1
  have ht : ∀ w ∈ TB, w.before args s = true := fun w h => hts w (List.mem_cons_of_mem _ h)
  have hK := hKK.1
  unfold B_Mr_fits1_81 at h
  refine lv_iload hx hb d_Mr_fits_81 (lv_at hl 8 rfl) ?_
  refine lv_iconst (v := 4) hx hb d_Mr_fits_83 (by decide) ?_
  refine lv_icmp_ge (tgt := 147) hx hb d_Mr_fits_84 (by decide) (fun hc => ?_) (fun hc => ?_)
  · have h := it_t h hc
    exact t_Mr_fits1_147 X (lv_sub hl [7] rfl) hI hS h
  · have h := it_f h hc
    exact t_Mr_fits1_87 X hk81 (lv_sub hl [0, 1, 2, 3, 4, 5, 6, 7, 8] rfl) hI hS h
set_option maxRecDepth 100000 in
set_option maxHeartbeats 4000000 in
theorem T_Mr_fits1_81 {p : Program} {l : Launch} {e : Env} {s : State} {m : MethodId} {args : Array Value} {below : List Frame} {meth : Method} {c : Code} {D : va_G} {A : Nat → Prop} {g : Nat → ClassId} {rest : va_W} {a0 : Nat → Nat} {a1 : Nat → Nat} {a2 : Nat → Nat} {ls : Array Slot} {H : Heap} {locs : List Loc} {s1 : S_Tr} {s2 : S_Tr} {s0 : S_Mr} {x4 : Int32} {x5 : Int32} {x7 : Int32} {x8 : Int32} {x9 : Int32} {x10 : Int32} {out : Int32 × S_Mr} (X : Cx p s m args meth c prog_4_method_3_code 11 ws_Mr_fits1 R_Mr (some .boolean) D g) (hl : lv_has ls 11 [(0, .ref (a0 0)), (1, .ref (a1 0)), (3, .ref (a2 0)), (4, .int x4), (5, .int x5), (7, .int x7), (8, .int x8), (9, .int x9), (10, .int x10)]) (hI : Iw D A (w_Mr g a0 s0 ++ (w_Tr g a1 s1 ++ (w_Tr g a2 s2 ++ (rest)))) H) (hS : va_S A s.heap H locs) (h : L_Mr_fits1_81  s1 s2 (s0, x4, x5, x7, x8, x9, x10) = some out) : W p l e (headSpec ws_Mr_fits1 { frames := 4, cells := 0, slots := 0, locals := 111 }).room s m args below meth c H locs 0 0 (MQ below (QcI D A g out.1 (fun (_ : Unit) => w_Mr g a0 out.2 ++ (w_Tr g a1 s1 ++ (w_Tr g a2 s2 ++ (rest))))) args s 0 0 A) (F0 m 81 ls []) := by
  unfold L_Mr_fits1_81 at h
  exact lp_ind (P := fun v => ∀ (ls : Array Slot) (H : Heap) (locs : List Loc), lv_has ls 11 [(0, .ref (a0 0)), (1, .ref (a1 0)), (3, .ref (a2 0)), (4, .int v.2.1), (5, .int v.2.2.1), (7, .int v.2.2.2.1), (8, .int v.2.2.2.2.1), (9, .int v.2.2.2.2.2.1), (10, .int v.2.2.2.2.2.2)] → Iw D A (w_Mr g a0 v.1 ++ (w_Tr g a1 s1 ++ (w_Tr g a2 s2 ++ (rest)))) H → va_S A s.heap H locs → W p l e (headSpec ws_Mr_fits1 { frames := 4, cells := 0, slots := 0, locals := 111 }).room s m args below meth c H locs 0 0 (MQ below (QcI D A g out.1 (fun (_ : Unit) => w_Mr g a0 out.2 ++ (w_Tr g a1 s1 ++ (w_Tr g a2 s2 ++ (rest))))) args s 0 0 A) (F0 m 81 ls [])) (fun k v ih hb ls H locs  hl hI hS => t_Mr_fits1_81 X  (fun v' ls H locs  hl hI hS h' => ih v' h' ls H locs  hl hI hS) hl hI hS hb) FU _ h ls H locs  hl hI hS
set_option maxRecDepth 100000 in
set_option maxHeartbeats 4000000 in
theorem t_Mr_fits1_69 {p : Program} {l : Launch} {e : Env} {s : State} {m : MethodId} {args : Array Value} {below : List Frame} {meth : Method} {c : Code} {D : va_G} {A : Nat → Prop} {g : Nat → ClassId} {rest : va_W} {a0 : Nat → Nat} {a1 : Nat → Nat} {a2 : Nat → Nat} {ls : Array Slot} {H : Heap} {locs : List Loc} {s1 : S_Tr} {s2 : S_Tr} {s0 : S_Mr} {x4 : Int32} {x5 : Int32} {x7 : Int32} {out : Int32 × S_Mr} (X : Cx p s m args meth c prog_4_method_3_code 11 ws_Mr_fits1 R_Mr (some .boolean) D g) (hl : lv_has ls 11 [(0, .ref (a0 0)), (1, .ref (a1 0)), (3, .ref (a2 0)), (4, .int x4), (5, .int x5), (7, .int x7)]) (hI : Iw D A (w_Mr g a0 s0 ++ (w_Tr g a1 s1 ++ (w_Tr g a2 s2 ++ (rest)))) H) (hS : va_S A s.heap H locs) (h : B_Mr_fits1_69  s1 s2 s0 x4 x5 x7 = some out) : W p l e (headSpec ws_Mr_fits1 { frames := 4, cells := 0, slots := 0, locals := 111 }).room s m args below meth c H locs 0 0 (MQ below (QcI D A g out.1 (fun (_ : Unit) => w_Mr g a0 out.2 ++ (w_Tr g a1 s1 ++ (w_Tr g a2 s2 ++ (rest))))) args s 0 0 A) (F0 m 69 ls []) := by
  have X1 := X
  obtain ⟨hx, hb, hml, hown, hts, hr, hlocks, hKK⟩ := X1
  have ht : ∀ w ∈ TB, w.before args s = true := fun w h => hts w (List.mem_cons_of_mem _ h)
  have hK := hKK.1
  unfold B_Mr_fits1_69 at h
  refine lv_iload hx hb d_Mr_fits_69 (lv_at hl 3 rfl) ?_
  refine lv_iconst (v := 1) hx hb d_Mr_fits_71 (by decide) ?_
  refine lv_iadd hx hb d_Mr_fits_72 ?_
  refine lv_istore hx hb d_Mr_fits_73 hl (Nat.le_of_ble_eq_true rfl) rfl (fun ls hl => ?_)
  have hl : lv_has ls 11 [(8, .int (x4 + (1 : Int32))), (0, .ref (a0 0)), (1, .ref (a1 0)), (3, .ref (a2 0)), (4, .int x4), (5, .int x5), (7, .int x7)] := hl
  refine lv_iconst (v := 0) hx hb d_Mr_fits_75 (by decide) ?_
  refine lv_istore hx hb d_Mr_fits_76 hl (Nat.le_of_ble_eq_true rfl) rfl (fun ls hl => ?_)
  have hl : lv_has ls 11 [(9, .int (0 : Int32)), (8, .int (x4 + (1 : Int32))), (0, .ref (a0 0)), (1, .ref (a1 0)), (3, .ref (a2 0)), (4, .int x4), (5, .int x5), (7, .int x7)] := hl
  refine lv_iconst (v := 0) hx hb d_Mr_fits_78 (by decide) ?_
  refine lv_istore hx hb d_Mr_fits_79 hl (Nat.le_of_ble_eq_true rfl) rfl (fun ls hl => ?_)
  have hl : lv_has ls 11 [(10, .int (0 : Int32)), (9, .int (0 : Int32)), (8, .int (x4 + (1 : Int32))), (0, .ref (a0 0)), (1, .ref (a1 0)), (3, .ref (a2 0)), (4, .int x4), (5, .int x5), (7, .int x7)] := hl
  exact T_Mr_fits1_81 X (lv_sub hl [3, 4, 5, 6, 7, 8, 2, 1, 0] rfl) hI hS h
set_option maxRecDepth 100000 in
set_option maxHeartbeats 4000000 in
theorem t_Mr_fits1_67 {p : Program} {l : Launch} {e : Env} {s : State} {m : MethodId} {args : Array Value} {below : List Frame} {meth : Method} {c : Code} {D : va_G} {A : Nat → Prop} {g : Nat → ClassId} {rest : va_W} {a0 : Nat → Nat} {a1 : Nat → Nat} {a2 : Nat → Nat} {ls : Array Slot} {H : Heap} {locs : List Loc} {s1 : S_Tr} {s2 : S_Tr} {s0 : S_Mr} {out : Int32 × S_Mr} (X : Cx p s m args meth c prog_4_method_3_code 11 ws_Mr_fits1 R_Mr (some .boolean) D g) (hl : lv_has ls 11 []) (hI : Iw D A (w_Mr g a0 s0 ++ (w_Tr g a1 s1 ++ (w_Tr g a2 s2 ++ (rest)))) H) (hS : va_S A s.heap H locs) (h : B_Mr_fits1_67  s1 s2 s0 = some out) : W p l e (headSpec ws_Mr_fits1 { frames := 4, cells := 0, slots := 0, locals := 111 }).room s m args below meth c H locs 0 0 (MQ below (QcI D A g out.1 (fun (_ : Unit) => w_Mr g a0 out.2 ++ (w_Tr g a1 s1 ++ (w_Tr g a2 s2 ++ (rest))))) args s 0 0 A) (F0 m 67 ls []) := by
  have X1 := X
  obtain ⟨hx, hb, hml, hown, hts, hr, hlocks, hKK⟩ := X1
  have ht : ∀ w ∈ TB, w.before args s = true := fun w h => hts w (List.mem_cons_of_mem _ h)
  have hK := hKK.1
  unfold B_Mr_fits1_67 at h
  refine lv_iconst (v := 1) hx hb d_Mr_fits_67 (by decide) ?_
  have h9 := Option.some.inj h
  subst h9
  exact W.zret (v := (1 : Int32)) hx hb hr rfl (fun t ht hW => ⟨⟨_, (), rfl, rfl, ⟨by rw [ht]; exact hI, hKK.moved hW⟩⟩, hS.F ht⟩) hS.2.2 d_Mr_fits_68
set_option maxRecDepth 100000 in
set_option maxHeartbeats 4000000 in
theorem t_Mr_fits1_52 {p : Program} {l : Launch} {e : Env} {s : State} {m : MethodId} {args : Array Value} {below : List Frame} {meth : Method} {c : Code} {D : va_G} {A : Nat → Prop} {g : Nat → ClassId} {rest : va_W} {a0 : Nat → Nat} {a1 : Nat → Nat} {a2 : Nat → Nat} {ls : Array Slot} {H : Heap} {locs : List Loc} {s1 : S_Tr} {s2 : S_Tr} {s0 : S_Mr} {x2 : Int32} {x4 : Int32} {x5 : Int32} {out : Int32 × S_Mr} (X : Cx p s m args meth c prog_4_method_3_code 11 ws_Mr_fits1 R_Mr (some .boolean) D g) (hl : lv_has ls 11 [(0, .ref (a0 0)), (1, .ref (a1 0)), (2, .int x2), (3, .ref (a2 0)), (4, .int x4), (5, .int x5)]) (hI : Iw D A (w_Mr g a0 s0 ++ (w_Tr g a1 s1 ++ (w_Tr g a2 s2 ++ (rest)))) H) (hS : va_S A s.heap H locs) (h : B_Mr_fits1_52  s1 s2 s0 x2 x4 x5 = some out) : W p l e (headSpec ws_Mr_fits1 { frames := 4, cells := 0, slots := 0, locals := 111 }).room s m args below meth c H locs 0 0 (MQ below (QcI D A g out.1 (fun (_ : Unit) => w_Mr g a0 out.2 ++ (w_Tr g a1 s1 ++ (w_Tr g a2 s2 ++ (rest))))) args s 0 0 A) (F0 m 52 ls []) := by
  have X1 := X
  obtain ⟨hx, hb, hml, hown, hts, hr, hlocks, hKK⟩ := X1
  have ht : ∀ w ∈ TB, w.before args s = true := fun w h => hts w (List.mem_cons_of_mem _ h)
  have hK := hKK.1
  unfold B_Mr_fits1_52 at h
  refine lv_iload_n hx hb d_Mr_fits_52 rfl (lv_at hl 2 rfl) ?_
  refine lv_iconst (v := 1) hx hb d_Mr_fits_53 (by decide) ?_
  refine lv_iadd hx hb d_Mr_fits_54 ?_
  refine lv_istore hx hb d_Mr_fits_55 hl (Nat.le_of_ble_eq_true rfl) rfl (fun ls hl => ?_)
  have hl : lv_has ls 11 [(7, .int (x2 + (1 : Int32))), (0, .ref (a0 0)), (1, .ref (a1 0)), (2, .int x2), (3, .ref (a2 0)), (4, .int x4), (5, .int x5)] := hl
  refine lv_iload hx hb d_Mr_fits_57 (lv_at hl 0 rfl) ?_
  refine lv_aload_n hx hb d_Mr_fits_59 rfl (lv_at hl 2 rfl) ?_
  refine lv_iload_n hx hb d_Mr_fits_60 rfl (lv_at hl 3 rfl) ?_
  obtain ⟨o1, ho2, h⟩ := bd_s h
  refine cl_i (W1 := fun (_ : Unit) => w_Mr g a0 s0 ++ (w_Tr g a1 s1 ++ (w_Tr g a2 s2 ++ (rest)))) (va_runV (As := [.int x2]) (rest := [.int (x2 + (1 : Int32))]) ⟨hx, hb, hml, hown, ht⟩ (c_Tr_behind (l := l) (D := D) (A := A) (g := g) (rest := w_Mr g a0 s0 ++ (w_Tr g a2 s2 ++ (rest))) (a0 := a1) ho2) (cwV 1 ht (gd_V m_622 m_508 m_509 m_9 m_510) rfl rfl rfl (by decide +kernel) ⟨(Nat.le_of_ble_eq_true rfl), (Nat.le_of_ble_eq_true rfl)⟩) (prV (ci := 7) (q0 := 0) hKK hI (mv_1) rfl rfl rfl) rfl rfl hl.1 rfl (lv_room (Nat.le_of_ble_eq_true rfl)) d_Mr_fits_61 ⟨(Nat.le_of_ble_eq_true rfl), (Nat.le_of_ble_eq_true rfl)⟩) hS (fun _ => ((mv_1)).symm) (fun _ H locs hI hS => ?_)
  have hI : Iw D A (w_Mr g a0 s0 ++ (w_Tr g a1 s1 ++ (w_Tr g a2 s2 ++ (rest)))) H := hI
  refine lv_icmp_ne (tgt := 69) hx hb d_Mr_fits_64 (by decide) (fun hc => ?_) (fun hc => ?_)
  · have h := it_f h hc
    exact t_Mr_fits1_69 X (lv_sub hl [1, 2, 4, 5, 6, 0] rfl) hI hS h
  · have h := it_t h hc
    exact t_Mr_fits1_67 X (lv_sub hl [] rfl) hI hS h
set_option maxRecDepth 100000 in
set_option maxHeartbeats 4000000 in
theorem t_Mr_fits1_42 {p : Program} {l : Launch} {e : Env} {s : State} {m : MethodId} {args : Array Value} {below : List Frame} {meth : Method} {c : Code} {D : va_G} {A : Nat → Prop} {g : Nat → ClassId} {rest : va_W} {a0 : Nat → Nat} {a1 : Nat → Nat} {a2 : Nat → Nat} {ls : Array Slot} {H : Heap} {locs : List Loc} {s1 : S_Tr} {s2 : S_Tr} {s0 : S_Mr} {x2 : Int32} {x4 : Int32} {out : Int32 × S_Mr} (X : Cx p s m args meth c prog_4_method_3_code 11 ws_Mr_fits1 R_Mr (some .boolean) D g) (hl : lv_has ls 11 [(0, .ref (a0 0)), (1, .ref (a1 0)), (2, .int x2), (3, .ref (a2 0)), (4, .int x4)]) (hI : Iw D A (w_Mr g a0 s0 ++ (w_Tr g a1 s1 ++ (w_Tr g a2 s2 ++ (rest)))) H) (hS : va_S A s.heap H locs) (h : B_Mr_fits1_42  s1 s2 s0 x2 x4 = some out) : W p l e (headSpec ws_Mr_fits1 { frames := 4, cells := 0, slots := 0, locals := 111 }).room s m args below meth c H locs 0 0 (MQ below (QcI D A g out.1 (fun (_ : Unit) => w_Mr g a0 out.2 ++ (w_Tr g a1 s1 ++ (w_Tr g a2 s2 ++ (rest))))) args s 0 0 A) (F0 m 42 ls []) := by
  have X1 := X
  obtain ⟨hx, hb, hml, hown, hts, hr, hlocks, hKK⟩ := X1
  have ht : ∀ w ∈ TB, w.before args s = true := fun w h => hts w (List.mem_cons_of_mem _ h)
  have hK := hKK.1
  unfold B_Mr_fits1_42 at h
  refine lv_aload_n hx hb d_Mr_fits_42 rfl (lv_at hl 0 rfl) ?_
  refine lv_aload_n hx hb d_Mr_fits_43 rfl (lv_at hl 1 rfl) ?_
  refine lv_iload_n hx hb d_Mr_fits_44 rfl (lv_at hl 2 rfl) ?_
  refine lv_aload_n hx hb d_Mr_fits_45 rfl (lv_at hl 3 rfl) ?_
  refine lv_iload hx hb d_Mr_fits_46 (lv_at hl 4 rfl) ?_
  obtain ⟨o1, ho2, h⟩ := bd_s h
  refine cl_i (W1 := fun (_ : Unit) => w_Mr g a0 o1.2 ++ (w_Tr g a1 s1 ++ (w_Tr g a2 s2 ++ (rest)))) (va_runV (As := [.ref (a1 0), .int x2, .ref (a2 0), .int x4]) (rest := []) ⟨hx, hb, hml, hown, ht⟩ (c_Mr_textFits (l := l) (D := D) (A := A) (g := g) (rest := rest) (a0 := a0) (a1 := a1) (a2 := a2) ho2) (cwV 4 ht (gd_V m_631 m_633 mp_35 m_10 m_634) rfl rfl rfl (by decide +kernel) ⟨(Nat.le_of_ble_eq_true rfl), (Nat.le_of_ble_eq_true rfl)⟩) (prV (ci := 2) (q0 := 0) hKK hI ((mv_2).trans ((mv_2).trans (mv_2))) rfl rfl rfl) rfl rfl hl.1 rfl (lv_room (Nat.le_of_ble_eq_true rfl)) d_Mr_fits_48 ⟨(Nat.le_of_ble_eq_true rfl), (Nat.le_of_ble_eq_true rfl)⟩) hS (fun _ => (((mv_2).trans ((mv_2).trans (mv_2)))).symm) (fun _ H locs hI hS => ?_)
  have hI : Iw D A (w_Mr g a0 o1.2 ++ (w_Tr g a1 s1 ++ (w_Tr g a2 s2 ++ (rest)))) H := hI
  have hc3 : o1.1 = 0 ∨ o1.1 = 1 := by
    by_cases z : o1.1 = 0 ∨ o1.1 = 1
    · exact z
    · exact no_s (it_f h z)
  have h := it_t h hc3
  have h9 := Option.some.inj h
  subst h9
  exact W.zret (v := o1.1) hx hb hr (by rcases hc3 with z | z <;> rw [z] <;> rfl) (fun t ht hW => ⟨⟨_, (), rfl, rfl, ⟨by rw [ht]; exact hI, hKK.moved hW⟩⟩, hS.F ht⟩) hS.2.2 d_Mr_fits_51
set_option maxRecDepth 100000 in
set_option maxHeartbeats 4000000 in
theorem t_Mr_fits1_36 {p : Program} {l : Launch} {e : Env} {s : State} {m : MethodId} {args : Array Value} {below : List Frame} {meth : Method} {c : Code} {D : va_G} {A : Nat → Prop} {g : Nat → ClassId} {rest : va_W} {a0 : Nat → Nat} {a1 : Nat → Nat} {a2 : Nat → Nat} {ls : Array Slot} {H : Heap} {locs : List Loc} {s1 : S_Tr} {s2 : S_Tr} {s0 : S_Mr} {x2 : Int32} {x4 : Int32} {x5 : Int32} {x6 : Int32} {out : Int32 × S_Mr} (X : Cx p s m args meth c prog_4_method_3_code 11 ws_Mr_fits1 R_Mr (some .boolean) D g) (hl : lv_has ls 11 [(0, .ref (a0 0)), (1, .ref (a1 0)), (2, .int x2), (3, .ref (a2 0)), (4, .int x4), (5, .int x5), (6, .int x6)]) (hI : Iw D A (w_Mr g a0 s0 ++ (w_Tr g a1 s1 ++ (w_Tr g a2 s2 ++ (rest)))) H) (hS : va_S A s.heap H locs) (h : B_Mr_fits1_36  s1 s2 s0 x2 x4 x5 x6 = some out) : W p l e (headSpec ws_Mr_fits1 { frames := 4, cells := 0, slots := 0, locals := 111 }).room s m args below meth c H locs 0 0 (MQ below (QcI D A g out.1 (fun (_ : Unit) => w_Mr g a0 out.2 ++ (w_Tr g a1 s1 ++ (w_Tr g a2 s2 ++ (rest))))) args s 0 0 A) (F0 m 36 ls []) := by
  have X1 := X
  obtain ⟨hx, hb, hml, hown, hts, hr, hlocks, hKK⟩ := X1
  have ht : ∀ w ∈ TB, w.before args s = true := fun w h => hts w (List.mem_cons_of_mem _ h)
  have hK := hKK.1
  unfold B_Mr_fits1_36 at h
  refine lv_iload hx hb d_Mr_fits_36 (lv_at hl 6 rfl) ?_
  refine lv_iconst (v := 2) hx hb d_Mr_fits_38 (by decide) ?_
  refine lv_icmp_ne (tgt := 52) hx hb d_Mr_fits_39 (by decide) (fun hc => ?_) (fun hc => ?_)
  · have h := it_f h hc
    exact t_Mr_fits1_52 X (lv_sub hl [0, 1, 2, 3, 4, 5] rfl) hI hS h
  · have h := it_t h hc
    exact t_Mr_fits1_42 X (lv_sub hl [0, 1, 2, 3, 4] rfl) hI hS h
set_option maxRecDepth 100000 in
set_option maxHeartbeats 4000000 in
theorem t_Mr_fits1_35 {p : Program} {l : Launch} {e : Env} {s : State} {m : MethodId} {args : Array Value} {below : List Frame} {meth : Method} {c : Code} {D : va_G} {A : Nat → Prop} {g : Nat → ClassId} {rest : va_W} {a0 : Nat → Nat} {a1 : Nat → Nat} {a2 : Nat → Nat} {ls : Array Slot} {H : Heap} {locs : List Loc} {s1 : S_Tr} {s2 : S_Tr} {s0 : S_Mr} {y0 : Int32} {out : Int32 × S_Mr} (X : Cx p s m args meth c prog_4_method_3_code 11 ws_Mr_fits1 R_Mr (some .boolean) D g) (hl : lv_has ls 11 []) (hI : Iw D A (w_Mr g a0 s0 ++ (w_Tr g a1 s1 ++ (w_Tr g a2 s2 ++ (rest)))) H) (hS : va_S A s.heap H locs) (h : B_Mr_fits1_35  s1 s2 s0 y0 = some out) : W p l e (headSpec ws_Mr_fits1 { frames := 4, cells := 0, slots := 0, locals := 111 }).room s m args below meth c H locs 0 0 (MQ below (QcI D A g out.1 (fun (_ : Unit) => w_Mr g a0 out.2 ++ (w_Tr g a1 s1 ++ (w_Tr g a2 s2 ++ (rest))))) args s 0 0 A) (F0 m 35 ls [.int y0]) := by
  have X1 := X
  obtain ⟨hx, hb, hml, hown, hts, hr, hlocks, hKK⟩ := X1
  have ht : ∀ w ∈ TB, w.before args s = true := fun w h => hts w (List.mem_cons_of_mem _ h)
  have hK := hKK.1
  unfold B_Mr_fits1_35 at h
  have hc1 : y0 = 0 ∨ y0 = 1 := by
    by_cases z : y0 = 0 ∨ y0 = 1
    · exact z
    · exact no_s (it_f h z)
  have h := it_t h hc1
  have h9 := Option.some.inj h
  subst h9
  exact W.zret (v := y0) hx hb hr (by rcases hc1 with z | z <;> rw [z] <;> rfl) (fun t ht hW => ⟨⟨_, (), rfl, rfl, ⟨by rw [ht]; exact hI, hKK.moved hW⟩⟩, hS.F ht⟩) hS.2.2 d_Mr_fits_35
set_option maxRecDepth 100000 in
set_option maxHeartbeats 4000000 in
theorem t_Mr_fits1_34 {p : Program} {l : Launch} {e : Env} {s : State} {m : MethodId} {args : Array Value} {below : List Frame} {meth : Method} {c : Code} {D : va_G} {A : Nat → Prop} {g : Nat → ClassId} {rest : va_W} {a0 : Nat → Nat} {a1 : Nat → Nat} {a2 : Nat → Nat} {ls : Array Slot} {H : Heap} {locs : List Loc} {s1 : S_Tr} {s2 : S_Tr} {s0 : S_Mr} {out : Int32 × S_Mr} (X : Cx p s m args meth c prog_4_method_3_code 11 ws_Mr_fits1 R_Mr (some .boolean) D g) (hl : lv_has ls 11 []) (hI : Iw D A (w_Mr g a0 s0 ++ (w_Tr g a1 s1 ++ (w_Tr g a2 s2 ++ (rest)))) H) (hS : va_S A s.heap H locs) (h : B_Mr_fits1_34  s1 s2 s0 = some out) : W p l e (headSpec ws_Mr_fits1 { frames := 4, cells := 0, slots := 0, locals := 111 }).room s m args below meth c H locs 0 0 (MQ below (QcI D A g out.1 (fun (_ : Unit) => w_Mr g a0 out.2 ++ (w_Tr g a1 s1 ++ (w_Tr g a2 s2 ++ (rest))))) args s 0 0 A) (F0 m 34 ls []) := by
  have X1 := X
  obtain ⟨hx, hb, hml, hown, hts, hr, hlocks, hKK⟩ := X1
  have ht : ∀ w ∈ TB, w.before args s = true := fun w h => hts w (List.mem_cons_of_mem _ h)
  have hK := hKK.1
  unfold B_Mr_fits1_34 at h
  refine lv_iconst (v := 0) hx hb d_Mr_fits_34 (by decide) ?_
  exact t_Mr_fits1_35 X (lv_sub hl [] rfl) hI hS h
set_option maxRecDepth 100000 in
set_option maxHeartbeats 4000000 in
theorem t_Mr_fits1_30 {p : Program} {l : Launch} {e : Env} {s : State} {m : MethodId} {args : Array Value} {below : List Frame} {meth : Method} {c : Code} {D : va_G} {A : Nat → Prop} {g : Nat → ClassId} {rest : va_W} {a0 : Nat → Nat} {a1 : Nat → Nat} {a2 : Nat → Nat} {ls : Array Slot} {H : Heap} {locs : List Loc} {s1 : S_Tr} {s2 : S_Tr} {s0 : S_Mr} {out : Int32 × S_Mr} (X : Cx p s m args meth c prog_4_method_3_code 11 ws_Mr_fits1 R_Mr (some .boolean) D g) (hl : lv_has ls 11 []) (hI : Iw D A (w_Mr g a0 s0 ++ (w_Tr g a1 s1 ++ (w_Tr g a2 s2 ++ (rest)))) H) (hS : va_S A s.heap H locs) (h : B_Mr_fits1_30  s1 s2 s0 = some out) : W p l e (headSpec ws_Mr_fits1 { frames := 4, cells := 0, slots := 0, locals := 111 }).room s m args below meth c H locs 0 0 (MQ below (QcI D A g out.1 (fun (_ : Unit) => w_Mr g a0 out.2 ++ (w_Tr g a1 s1 ++ (w_Tr g a2 s2 ++ (rest))))) args s 0 0 A) (F0 m 30 ls []) := by
  have X1 := X
  obtain ⟨hx, hb, hml, hown, hts, hr, hlocks, hKK⟩ := X1
  have ht : ∀ w ∈ TB, w.before args s = true := fun w h => hts w (List.mem_cons_of_mem _ h)
  have hK := hKK.1
  unfold B_Mr_fits1_30 at h
  refine lv_iconst (v := 1) hx hb d_Mr_fits_30 (by decide) ?_
  refine lv_goto (tgt := 35) hx hb d_Mr_fits_31 (by decide) ?_
  exact t_Mr_fits1_35 X (lv_sub hl [] rfl) hI hS h
set_option maxRecDepth 100000 in
set_option maxHeartbeats 4000000 in
theorem t_Mr_fits1_16 {p : Program} {l : Launch} {e : Env} {s : State} {m : MethodId} {args : Array Value} {below : List Frame} {meth : Method} {c : Code} {D : va_G} {A : Nat → Prop} {g : Nat → ClassId} {rest : va_W} {a0 : Nat → Nat} {a1 : Nat → Nat} {a2 : Nat → Nat} {ls : Array Slot} {H : Heap} {locs : List Loc} {s1 : S_Tr} {s2 : S_Tr} {s0 : S_Mr} {x2 : Int32} {x4 : Int32} {out : Int32 × S_Mr} (X : Cx p s m args meth c prog_4_method_3_code 11 ws_Mr_fits1 R_Mr (some .boolean) D g) (hl : lv_has ls 11 [(1, .ref (a1 0)), (2, .int x2), (3, .ref (a2 0)), (4, .int x4)]) (hI : Iw D A (w_Mr g a0 s0 ++ (w_Tr g a1 s1 ++ (w_Tr g a2 s2 ++ (rest)))) H) (hS : va_S A s.heap H locs) (h : B_Mr_fits1_16  s1 s2 s0 x2 x4 = some out) : W p l e (headSpec ws_Mr_fits1 { frames := 4, cells := 0, slots := 0, locals := 111 }).room s m args below meth c H locs 0 0 (MQ below (QcI D A g out.1 (fun (_ : Unit) => w_Mr g a0 out.2 ++ (w_Tr g a1 s1 ++ (w_Tr g a2 s2 ++ (rest))))) args s 0 0 A) (F0 m 16 ls []) := by
  have X1 := X
  obtain ⟨hx, hb, hml, hown, hts, hr, hlocks, hKK⟩ := X1
  have ht : ∀ w ∈ TB, w.before args s = true := fun w h => hts w (List.mem_cons_of_mem _ h)
  have hK := hKK.1
  unfold B_Mr_fits1_16 at h
  refine lv_aload_n hx hb d_Mr_fits_16 rfl (lv_at hl 0 rfl) ?_
  refine lv_iload_n hx hb d_Mr_fits_17 rfl (lv_at hl 1 rfl) ?_
  obtain ⟨o1, ho2, h⟩ := bd_s h
  refine cl_i (W1 := fun (_ : Unit) => w_Mr g a0 s0 ++ (w_Tr g a1 s1 ++ (w_Tr g a2 s2 ++ (rest)))) (va_runV (As := [.int x2]) (rest := []) ⟨hx, hb, hml, hown, ht⟩ (c_Tr_number (l := l) (D := D) (A := A) (g := g) (rest := w_Mr g a0 s0 ++ (w_Tr g a2 s2 ++ (rest))) (a0 := a1) ho2) (cwV 1 ht (gd_V m_630 m_516 m_517 m_9 m_518) rfl rfl rfl (by decide +kernel) ⟨(Nat.le_of_ble_eq_true rfl), (Nat.le_of_ble_eq_true rfl)⟩) (prV (ci := 7) (q0 := 0) hKK hI (mv_1) rfl rfl rfl) rfl rfl hl.1 rfl (lv_room (Nat.le_of_ble_eq_true rfl)) d_Mr_fits_18 ⟨(Nat.le_of_ble_eq_true rfl), (Nat.le_of_ble_eq_true rfl)⟩) hS (fun _ => ((mv_1)).symm) (fun _ H locs hI hS => ?_)
  have hI : Iw D A (w_Mr g a0 s0 ++ (w_Tr g a1 s1 ++ (w_Tr g a2 s2 ++ (rest)))) H := hI
  refine lv_aload_n hx hb d_Mr_fits_21 rfl (lv_at hl 2 rfl) ?_
  refine lv_iload hx hb d_Mr_fits_22 (lv_at hl 3 rfl) ?_
  obtain ⟨o3, ho4, h⟩ := bd_s h
  refine cl_i (W1 := fun (_ : Unit) => w_Mr g a0 s0 ++ (w_Tr g a1 s1 ++ (w_Tr g a2 s2 ++ (rest)))) (va_runV (As := [.int x4]) (rest := [.int o1]) ⟨hx, hb, hml, hown, ht⟩ (c_Tr_number (l := l) (D := D) (A := A) (g := g) (rest := w_Mr g a0 s0 ++ (w_Tr g a1 s1 ++ (rest))) (a0 := a2) ho4) (cwV 1 ht (gd_V m_630 m_516 m_517 m_9 m_518) rfl rfl rfl (by decide +kernel) ⟨(Nat.le_of_ble_eq_true rfl), (Nat.le_of_ble_eq_true rfl)⟩) (prV (ci := 7) (q0 := 0) hKK hI (mv_2) rfl rfl rfl) rfl rfl hl.1 rfl (lv_room (Nat.le_of_ble_eq_true rfl)) d_Mr_fits_24 ⟨(Nat.le_of_ble_eq_true rfl), (Nat.le_of_ble_eq_true rfl)⟩) hS (fun _ => ((mv_2)).symm) (fun _ H locs hI hS => ?_)
  have hI : Iw D A (w_Mr g a0 s0 ++ (w_Tr g a1 s1 ++ (w_Tr g a2 s2 ++ (rest)))) H := hI
  refine lv_icmp_ne (tgt := 34) hx hb d_Mr_fits_27 (by decide) (fun hc => ?_) (fun hc => ?_)
  · have h := it_f h hc
    exact t_Mr_fits1_34 X (lv_sub hl [] rfl) hI hS h
  · have h := it_t h hc
    exact t_Mr_fits1_30 X (lv_sub hl [] rfl) hI hS h
set_option maxRecDepth 100000 in
set_option maxHeartbeats 4000000 in
theorem t_Mr_fits1_0 {p : Program} {l : Launch} {e : Env} {s : State} {m : MethodId} {args : Array Value} {below : List Frame} {meth : Method} {c : Code} {D : va_G} {A : Nat → Prop} {g : Nat → ClassId} {rest : va_W} {a0 : Nat → Nat} {a1 : Nat → Nat} {a2 : Nat → Nat} {ls : Array Slot} {H : Heap} {locs : List Loc} {s1 : S_Tr} {s2 : S_Tr} {s0 : S_Mr} {x2 : Int32} {x4 : Int32} {x5 : Int32} {out : Int32 × S_Mr} (X : Cx p s m args meth c prog_4_method_3_code 11 ws_Mr_fits1 R_Mr (some .boolean) D g) (hl : lv_has ls 11 [(0, .ref (a0 0)), (1, .ref (a1 0)), (2, .int x2), (3, .ref (a2 0)), (4, .int x4), (5, .int x5)]) (hI : Iw D A (w_Mr g a0 s0 ++ (w_Tr g a1 s1 ++ (w_Tr g a2 s2 ++ (rest)))) H) (hS : va_S A s.heap H locs) (h : B_Mr_fits1_0  s1 s2 s0 x2 x4 x5 = some out) : W p l e (headSpec ws_Mr_fits1 { frames := 4, cells := 0, slots := 0, locals := 111 }).room s m args below meth c H locs 0 0 (MQ below (QcI D A g out.1 (fun (_ : Unit) => w_Mr g a0 out.2 ++ (w_Tr g a1 s1 ++ (w_Tr g a2 s2 ++ (rest))))) args s 0 0 A) (F0 m 0 ls []) := by
  have X1 := X
  obtain ⟨hx, hb, hml, hown, hts, hr, hlocks, hKK⟩ := X1
  have ht : ∀ w ∈ TB, w.before args s = true := fun w h => hts w (List.mem_cons_of_mem _ h)
  have hK := hKK.1
  unfold B_Mr_fits1_0 at h
  refine lv_aload_n hx hb d_Mr_fits_0 rfl (lv_at hl 1 rfl) ?_
  refine lv_iload_n hx hb d_Mr_fits_1 rfl (lv_at hl 2 rfl) ?_
  obtain ⟨o1, ho2, h⟩ := bd_s h
  refine cl_i (W1 := fun (_ : Unit) => w_Mr g a0 s0 ++ (w_Tr g a1 s1 ++ (w_Tr g a2 s2 ++ (rest)))) (va_runV (As := [.int x2]) (rest := []) ⟨hx, hb, hml, hown, ht⟩ (c_Tr_tag (l := l) (D := D) (A := A) (g := g) (rest := w_Mr g a0 s0 ++ (w_Tr g a2 s2 ++ (rest))) (a0 := a1) ho2) (cwV 1 ht (gd_V m_623 m_512 m_513 m_9 m_514) rfl rfl rfl (by decide +kernel) ⟨(Nat.le_of_ble_eq_true rfl), (Nat.le_of_ble_eq_true rfl)⟩) (prV (ci := 7) (q0 := 0) hKK hI (mv_1) rfl rfl rfl) rfl rfl hl.1 rfl (lv_room (Nat.le_of_ble_eq_true rfl)) d_Mr_fits_2 ⟨(Nat.le_of_ble_eq_true rfl), (Nat.le_of_ble_eq_true rfl)⟩) hS (fun _ => ((mv_1)).symm) (fun _ H locs hI hS => ?_)
  have hI : Iw D A (w_Mr g a0 s0 ++ (w_Tr g a1 s1 ++ (w_Tr g a2 s2 ++ (rest)))) H := hI
  obtain ⟨o3, ho4, h⟩ := bd_s h
  refine cl_i (W1 := fun (_ : Unit) => w_Mr g a0 s0 ++ (w_Tr g a1 s1 ++ (w_Tr g a2 s2 ++ (rest)))) (va_runSN (As := [.int o1]) (rest := []) ⟨hx, hb, hml, hown, ht⟩ (c_Rn_kindOf (l := l) (D := D) (A := A) (g := g) (rest := w_Mr g a0 s0 ++ (w_Tr g a1 s1 ++ (w_Tr g a2 s2 ++ (rest))))  ho4) ⟨va_cnB 1 ht (gd_0 m_456) rfl rfl rfl hKK.2.2.2.2.1 (ht _ m_1) (by decide +kernel) ⟨(Nat.le_of_ble_eq_true rfl), (Nat.le_of_ble_eq_true rfl)⟩, ht _ m_455, trivial⟩ (prS hKK hI (List.Perm.refl _)) rfl rfl hl.1 rfl (lv_room (Nat.le_of_ble_eq_true rfl)) d_Mr_fits_5 ⟨(Nat.le_of_ble_eq_true rfl), (Nat.le_of_ble_eq_true rfl)⟩) hS (fun _ => ((List.Perm.refl _)).symm) (fun _ H locs hI hS => ?_)
  have hI : Iw D A (w_Mr g a0 s0 ++ (w_Tr g a1 s1 ++ (w_Tr g a2 s2 ++ (rest)))) H := hI
  refine lv_istore hx hb d_Mr_fits_8 hl (Nat.le_of_ble_eq_true rfl) rfl (fun ls hl => ?_)
  have hl : lv_has ls 11 [(6, .int o3), (0, .ref (a0 0)), (1, .ref (a1 0)), (2, .int x2), (3, .ref (a2 0)), (4, .int x4), (5, .int x5)] := hl
  refine lv_iload hx hb d_Mr_fits_10 (lv_at hl 0 rfl) ?_
  refine lv_iconst (v := 1) hx hb d_Mr_fits_12 (by decide) ?_
  refine lv_icmp_ne (tgt := 36) hx hb d_Mr_fits_13 (by decide) (fun hc => ?_) (fun hc => ?_)
  · have h := it_f h hc
    exact t_Mr_fits1_36 X (lv_sub hl [1, 2, 3, 4, 5, 6, 0] rfl) hI hS h
  · have h := it_t h hc
    exact t_Mr_fits1_16 X (lv_sub hl [2, 3, 4, 5] rfl) hI hS h
set_option maxRecDepth 100000 in
set_option maxHeartbeats 4000000 in
theorem c_Mr_fits1 {l : Launch} {D : va_G} {A : Nat → Prop} {g : Nat → ClassId} {rest : va_W} {a0 : Nat → Nat} {a1 : Nat → Nat} {a2 : Nat → Nat} {s0 : S_Mr} {s1 : S_Tr} {s2 : S_Tr} {x2 : Int32} {x4 : Int32} {x5 : Int32} {out : Int32 × S_Mr} (h : F_Mr_fits1 s0 s1 s2 x2 x4 x5 = some out) : Met l y_Mr_fits ws_Mr_fits1 { frames := 4, cells := 0, slots := 0, locals := 111 } (PcW D A g [.ref (a0 0), .ref (a1 0), .int x2, .ref (a2 0), .int x4, .int x5] (w_Mr g a0 s0 ++ (w_Tr g a1 s1 ++ (w_Tr g a2 s2 ++ (rest))))) (QcI D A g out.1 (fun (_ : Unit) => w_Mr g a0 out.2 ++ (w_Tr g a1 s1 ++ (w_Tr g a2 s2 ++ (rest))))) 0 0 A := by
  refine Met.ofW (cc := prog_4_method_3_code) (maxL := 11) (ret := (some .boolean)) (by decide) rfl ?_
  intro p e s m args below meth c s₁ B hml hv
  obtain ⟨rfl, hI, hK⟩ := hv
  have hl := lv_entry [.ref (a0 0), .ref (a1 0), .int x2, .ref (a2 0), .int x4, .int x5] (n := 11) (Nat.le_of_ble_eq_true rfl)
  rw [lg_entry_eq]
  generalize (lg_sl [.ref (a0 0), .ref (a1 0), .int x2, .ref (a2 0), .int x4, .int x5] ++ List.replicate (11 - (lg_sl [.ref (a0 0), .ref (a1 0), .int x2, .ref (a2 0), .int x4, .int x5]).length) Slot.unset).toArray = ls at hl ⊢
  have hl : lv_has ls 11 [(0, .ref (a0 0)), (1, .ref (a1 0)), (2, .int x2), (3, .ref (a2 0)), (4, .int x4), (5, .int x5)] := hl
  exact t_Mr_fits1_0 ⟨B.exec, B.bytes, hml, findClass_of_methodNamed B.named, atoms_spec (ws := ws_Mr_fits1) B.pre, B.returns, B.notSynchronized, hK⟩ (lv_sub hl [0, 1, 2, 3, 4, 5] rfl) hI va_S.rf h
def ws_Mr_matches1 : List Cond := .code y_Mr_matches prog_4_method_2_code 9 (some .boolean) :: TB
def B_Mr_matches1_76 (s1 : S_Tr) (s2 : S_Tr) (s0 : S_Mr) : Option (Int32 × S_Mr) :=
  some ((1 : Int32), s0)
def B_Mr_matches1_60 (s1 : S_Tr) (s2 : S_Tr) (s0 : S_Mr) : Option (Int32 × S_Mr) :=
  some ((0 : Int32), s0)
def B_Mr_matches1_62 (k8 : S_Mr × Int32 × Int32 × Int32 × Int32 × Int32 → Option (Int32 × S_Mr)) (s1 : S_Tr) (s2 : S_Tr) (s0 : S_Mr) (x2 : Int32) (x4 : Int32) (x5 : Int32) (x6 : Int32) (x7 : Int32) : Option (Int32 × S_Mr) :=
  ((F_Tr_behind s1 x6).bind fun o1 => (k8 (s0, x2, x4, x5, o1, (x7 + 1))))
def B_Mr_matches1_45 (k8 : S_Mr × Int32 × Int32 × Int32 × Int32 × Int32 → Option (Int32 × S_Mr)) (s1 : S_Tr) (s2 : S_Tr) (s0 : S_Mr) (x2 : Int32) (x4 : Int32) (x5 : Int32) (x6 : Int32) (x7 : Int32) (x8 : Int32) : Option (Int32 × S_Mr) :=
  ((F_Mr_fits1 s0 s1 s2 x6 x8 x5).bind fun o1 => (if o1.1 = 0 then (B_Mr_matches1_60 s1 s2 o1.2) else (B_Mr_matches1_62 k8 s1 s2 o1.2 x2 x4 x5 x6 x7)))
def B_Mr_matches1_25 (k8 : S_Mr × Int32 × Int32 × Int32 × Int32 × Int32 → Option (Int32 × S_Mr)) (s1 : S_Tr) (s2 : S_Tr) (s0 : S_Mr) (x2 : Int32) (x4 : Int32) (x5 : Int32) (x6 : Int32) (x7 : Int32) : Option (Int32 × S_Mr) :=
  ((F_Tr_tag s1 x6).bind fun o1 => ((F_Tr_find s2 x4 o1).bind fun o3 => (if o3 = ((-1) : Int32) then (B_Mr_matches1_60 s1 s2 s0) else (B_Mr_matches1_45 k8 s1 s2 s0 x2 x4 x5 x6 x7 o3))))
def B_Mr_matches1_15 (k8 : S_Mr × Int32 × Int32 × Int32 × Int32 × Int32 → Option (Int32 × S_Mr)) (s1 : S_Tr) (s2 : S_Tr) (s0 : S_Mr) (x2 : Int32) (x4 : Int32) (x5 : Int32) (x6 : Int32) (x7 : Int32) : Option (Int32 × S_Mr) :=
  ((F_Tr_behind s1 x2).bind fun o1 => (if o1 ≤ x6 then (B_Mr_matches1_76 s1 s2 s0) else (B_Mr_matches1_25 k8 s1 s2 s0 x2 x4 x5 x6 x7)))
def B_Mr_matches1_8 (k8 : S_Mr × Int32 × Int32 × Int32 × Int32 × Int32 → Option (Int32 × S_Mr)) (s1 : S_Tr) (s2 : S_Tr) (s0 : S_Mr) (x2 : Int32) (x4 : Int32) (x5 : Int32) (x6 : Int32) (x7 : Int32) : Option (Int32 × S_Mr) :=
  (if (10 : Int32) ≤ x7 then (B_Mr_matches1_76 s1 s2 s0) else (B_Mr_matches1_15 k8 s1 s2 s0 x2 x4 x5 x6 x7))
def L_Mr_matches1_8 (s1 : S_Tr) (s2 : S_Tr) (v : S_Mr × Int32 × Int32 × Int32 × Int32 × Int32) : Option (Int32 × S_Mr) := lp (fun k8 v => B_Mr_matches1_8  k8 s1 s2 v.1 v.2.1 v.2.2.1 v.2.2.2.1 v.2.2.2.2.1 v.2.2.2.2.2) FU v
def B_Mr_matches1_0 (s1 : S_Tr) (s2 : S_Tr) (s0 : S_Mr) (x2 : Int32) (x4 : Int32) (x5 : Int32) : Option (Int32 × S_Mr) :=
  (L_Mr_matches1_8 s1 s2 (s0, x2, x4, x5, (x2 + (1 : Int32)), (0 : Int32)))
def F_Mr_matches1 (s0 : S_Mr) (s1 : S_Tr) (s2 : S_Tr) (x2 : Int32) (x4 : Int32) (x5 : Int32) : Option (Int32 × S_Mr) := B_Mr_matches1_0 s1 s2 s0 x2 x4 x5
set_option maxRecDepth 100000 in
set_option maxHeartbeats 4000000 in
theorem t_Mr_matches1_76 {p : Program} {l : Launch} {e : Env} {s : State} {m : MethodId} {args : Array Value} {below : List Frame} {meth : Method} {c : Code} {D : va_G} {A : Nat → Prop} {g : Nat → ClassId} {rest : va_W} {a0 : Nat → Nat} {a1 : Nat → Nat} {a2 : Nat → Nat} {ls : Array Slot} {H : Heap} {locs : List Loc} {s1 : S_Tr} {s2 : S_Tr} {s0 : S_Mr} {out : Int32 × S_Mr} (X : Cx p s m args meth c prog_4_method_2_code 9 ws_Mr_matches1 R_Mr (some .boolean) D g) (hl : lv_has ls 9 []) (hI : Iw D A (w_Mr g a0 s0 ++ (w_Tr g a1 s1 ++ (w_Tr g a2 s2 ++ (rest)))) H) (hS : va_S A s.heap H locs) (h : B_Mr_matches1_76  s1 s2 s0 = some out) : W p l e (headSpec ws_Mr_matches1 { frames := 5, cells := 0, slots := 0, locals := 141 }).room s m args below meth c H locs 0 0 (MQ below (QcI D A g out.1 (fun (_ : Unit) => w_Mr g a0 out.2 ++ (w_Tr g a1 s1 ++ (w_Tr g a2 s2 ++ (rest))))) args s 0 0 A) (F0 m 76 ls []) := by
  have X1 := X
  obtain ⟨hx, hb, hml, hown, hts, hr, hlocks, hKK⟩ := X1
  have ht : ∀ w ∈ TB, w.before args s = true := fun w h => hts w (List.mem_cons_of_mem _ h)
  have hK := hKK.1
  unfold B_Mr_matches1_76 at h
  refine lv_iconst (v := 1) hx hb d_Mr_matches_76 (by decide) ?_
  have h9 := Option.some.inj h
  subst h9
  exact W.zret (v := (1 : Int32)) hx hb hr rfl (fun t ht hW => ⟨⟨_, (), rfl, rfl, ⟨by rw [ht]; exact hI, hKK.moved hW⟩⟩, hS.F ht⟩) hS.2.2 d_Mr_matches_77
set_option maxRecDepth 100000 in
set_option maxHeartbeats 4000000 in
theorem t_Mr_matches1_60 {p : Program} {l : Launch} {e : Env} {s : State} {m : MethodId} {args : Array Value} {below : List Frame} {meth : Method} {c : Code} {D : va_G} {A : Nat → Prop} {g : Nat → ClassId} {rest : va_W} {a0 : Nat → Nat} {a1 : Nat → Nat} {a2 : Nat → Nat} {ls : Array Slot} {H : Heap} {locs : List Loc} {s1 : S_Tr} {s2 : S_Tr} {s0 : S_Mr} {out : Int32 × S_Mr} (X : Cx p s m args meth c prog_4_method_2_code 9 ws_Mr_matches1 R_Mr (some .boolean) D g) (hl : lv_has ls 9 []) (hI : Iw D A (w_Mr g a0 s0 ++ (w_Tr g a1 s1 ++ (w_Tr g a2 s2 ++ (rest)))) H) (hS : va_S A s.heap H locs) (h : B_Mr_matches1_60  s1 s2 s0 = some out) : W p l e (headSpec ws_Mr_matches1 { frames := 5, cells := 0, slots := 0, locals := 141 }).room s m args below meth c H locs 0 0 (MQ below (QcI D A g out.1 (fun (_ : Unit) => w_Mr g a0 out.2 ++ (w_Tr g a1 s1 ++ (w_Tr g a2 s2 ++ (rest))))) args s 0 0 A) (F0 m 60 ls []) := by
  have X1 := X
  obtain ⟨hx, hb, hml, hown, hts, hr, hlocks, hKK⟩ := X1
  have ht : ∀ w ∈ TB, w.before args s = true := fun w h => hts w (List.mem_cons_of_mem _ h)
  have hK := hKK.1
  unfold B_Mr_matches1_60 at h
  refine lv_iconst (v := 0) hx hb d_Mr_matches_60 (by decide) ?_
  have h9 := Option.some.inj h
  subst h9
  exact W.zret (v := (0 : Int32)) hx hb hr rfl (fun t ht hW => ⟨⟨_, (), rfl, rfl, ⟨by rw [ht]; exact hI, hKK.moved hW⟩⟩, hS.F ht⟩) hS.2.2 d_Mr_matches_61
set_option maxRecDepth 100000 in
set_option maxHeartbeats 4000000 in
theorem t_Mr_matches1_62 {p : Program} {l : Launch} {e : Env} {s : State} {m : MethodId} {args : Array Value} {below : List Frame} {meth : Method} {c : Code} {D : va_G} {A : Nat → Prop} {g : Nat → ClassId} {rest : va_W} {a0 : Nat → Nat} {a1 : Nat → Nat} {a2 : Nat → Nat} {ls : Array Slot} {H : Heap} {locs : List Loc} {k8 : S_Mr × Int32 × Int32 × Int32 × Int32 × Int32 → Option (Int32 × S_Mr)} {s1 : S_Tr} {s2 : S_Tr} {s0 : S_Mr} {x2 : Int32} {x4 : Int32} {x5 : Int32} {x6 : Int32} {x7 : Int32} {out : Int32 × S_Mr} (X : Cx p s m args meth c prog_4_method_2_code 9 ws_Mr_matches1 R_Mr (some .boolean) D g) (hk8 : ∀ (v : S_Mr × Int32 × Int32 × Int32 × Int32 × Int32) (ls : Array Slot) (H : Heap) (locs : List Loc), lv_has ls 9 [(0, .ref (a0 0)), (1, .ref (a1 0)), (2, .int v.2.1), (3, .ref (a2 0)), (4, .int v.2.2.1), (5, .int v.2.2.2.1), (6, .int v.2.2.2.2.1), (7, .int v.2.2.2.2.2)] → Iw D A (w_Mr g a0 v.1 ++ (w_Tr g a1 s1 ++ (w_Tr g a2 s2 ++ (rest)))) H → va_S A s.heap H locs → k8 v = some out → W p l e (headSpec ws_Mr_matches1 { frames := 5, cells := 0, slots := 0, locals := 141 }).room s m args below meth c H locs 0 0 (MQ below (QcI D A g out.1 (fun (_ : Unit) => w_Mr g a0 out.2 ++ (w_Tr g a1 s1 ++ (w_Tr g a2 s2 ++ (rest))))) args s 0 0 A) (F0 m 8 ls [])) (hl : lv_has ls 9 [(0, .ref (a0 0)), (1, .ref (a1 0)), (2, .int x2), (3, .ref (a2 0)), (4, .int x4), (5, .int x5), (6, .int x6), (7, .int x7)]) (hI : Iw D A (w_Mr g a0 s0 ++ (w_Tr g a1 s1 ++ (w_Tr g a2 s2 ++ (rest)))) H) (hS : va_S A s.heap H locs) (h : B_Mr_matches1_62 k8 s1 s2 s0 x2 x4 x5 x6 x7 = some out) : W p l e (headSpec ws_Mr_matches1 { frames := 5, cells := 0, slots := 0, locals := 141 }).room s m args below meth c H locs 0 0 (MQ below (QcI D A g out.1 (fun (_ : Unit) => w_Mr g a0 out.2 ++ (w_Tr g a1 s1 ++ (w_Tr g a2 s2 ++ (rest))))) args s 0 0 A) (F0 m 62 ls []) := by
  have X1 := X
  obtain ⟨hx, hb, hml, hown, hts, hr, hlocks, hKK⟩ := X1
  have ht : ∀ w ∈ TB, w.before args s = true := fun w h => hts w (List.mem_cons_of_mem _ h)
  have hK := hKK.1
  unfold B_Mr_matches1_62 at h
  refine lv_aload_n hx hb d_Mr_matches_62 rfl (lv_at hl 1 rfl) ?_
  refine lv_iload hx hb d_Mr_matches_63 (lv_at hl 6 rfl) ?_
  obtain ⟨o1, ho2, h⟩ := bd_s h
  refine cl_i (W1 := fun (_ : Unit) => w_Mr g a0 s0 ++ (w_Tr g a1 s1 ++ (w_Tr g a2 s2 ++ (rest)))) (va_runV (As := [.int x6]) (rest := []) ⟨hx, hb, hml, hown, ht⟩ (c_Tr_behind (l := l) (D := D) (A := A) (g := g) (rest := w_Mr g a0 s0 ++ (w_Tr g a2 s2 ++ (rest))) (a0 := a1) ho2) (cwV 1 ht (gd_V m_622 m_508 m_509 m_9 m_510) rfl rfl rfl (by decide +kernel) ⟨(Nat.le_of_ble_eq_true rfl), (Nat.le_of_ble_eq_true rfl)⟩) (prV (ci := 7) (q0 := 0) hKK hI (mv_1) rfl rfl rfl) rfl rfl hl.1 rfl (lv_room (Nat.le_of_ble_eq_true rfl)) d_Mr_matches_65 ⟨(Nat.le_of_ble_eq_true rfl), (Nat.le_of_ble_eq_true rfl)⟩) hS (fun _ => ((mv_1)).symm) (fun _ H locs hI hS => ?_)
  have hI : Iw D A (w_Mr g a0 s0 ++ (w_Tr g a1 s1 ++ (w_Tr g a2 s2 ++ (rest)))) H := hI
  refine lv_istore hx hb d_Mr_matches_68 hl (Nat.le_of_ble_eq_true rfl) rfl (fun ls hl => ?_)
  have hl : lv_has ls 9 [(6, .int o1), (0, .ref (a0 0)), (1, .ref (a1 0)), (2, .int x2), (3, .ref (a2 0)), (4, .int x4), (5, .int x5), (7, .int x7)] := hl
  refine lv_iinc (k := 7) (v := (x7 + 1)) hx hb d_Mr_matches_70 hl rfl (congrArg (fun z => x7 + z) (by decide)) (Nat.le_of_ble_eq_true rfl) rfl (fun ls hl => ?_)
  have hl : lv_has ls 9 [(7, .int (x7 + 1)), (6, .int o1), (0, .ref (a0 0)), (1, .ref (a1 0)), (2, .int x2), (3, .ref (a2 0)), (4, .int x4), (5, .int x5)] := hl
  refine lv_goto (tgt := 8) hx hb d_Mr_matches_73 (by decide) ?_
  exact hk8 (s0, x2, x4, x5, o1, (x7 + 1)) _ _ _ (lv_sub hl [2, 3, 4, 5, 6, 7, 1, 0] rfl) hI hS h
set_option maxRecDepth 100000 in
set_option maxHeartbeats 4000000 in
theorem t_Mr_matches1_45 {p : Program} {l : Launch} {e : Env} {s : State} {m : MethodId} {args : Array Value} {below : List Frame} {meth : Method} {c : Code} {D : va_G} {A : Nat → Prop} {g : Nat → ClassId} {rest : va_W} {a0 : Nat → Nat} {a1 : Nat → Nat} {a2 : Nat → Nat} {ls : Array Slot} {H : Heap} {locs : List Loc} {k8 : S_Mr × Int32 × Int32 × Int32 × Int32 × Int32 → Option (Int32 × S_Mr)} {s1 : S_Tr} {s2 : S_Tr} {s0 : S_Mr} {x2 : Int32} {x4 : Int32} {x5 : Int32} {x6 : Int32} {x7 : Int32} {x8 : Int32} {out : Int32 × S_Mr} (X : Cx p s m args meth c prog_4_method_2_code 9 ws_Mr_matches1 R_Mr (some .boolean) D g) (hk8 : ∀ (v : S_Mr × Int32 × Int32 × Int32 × Int32 × Int32) (ls : Array Slot) (H : Heap) (locs : List Loc), lv_has ls 9 [(0, .ref (a0 0)), (1, .ref (a1 0)), (2, .int v.2.1), (3, .ref (a2 0)), (4, .int v.2.2.1), (5, .int v.2.2.2.1), (6, .int v.2.2.2.2.1), (7, .int v.2.2.2.2.2)] → Iw D A (w_Mr g a0 v.1 ++ (w_Tr g a1 s1 ++ (w_Tr g a2 s2 ++ (rest)))) H → va_S A s.heap H locs → k8 v = some out → W p l e (headSpec ws_Mr_matches1 { frames := 5, cells := 0, slots := 0, locals := 141 }).room s m args below meth c H locs 0 0 (MQ below (QcI D A g out.1 (fun (_ : Unit) => w_Mr g a0 out.2 ++ (w_Tr g a1 s1 ++ (w_Tr g a2 s2 ++ (rest))))) args s 0 0 A) (F0 m 8 ls [])) (hl : lv_has ls 9 [(0, .ref (a0 0)), (1, .ref (a1 0)), (2, .int x2), (3, .ref (a2 0)), (4, .int x4), (5, .int x5), (6, .int x6), (7, .int x7), (8, .int x8)]) (hI : Iw D A (w_Mr g a0 s0 ++ (w_Tr g a1 s1 ++ (w_Tr g a2 s2 ++ (rest)))) H) (hS : va_S A s.heap H locs) (h : B_Mr_matches1_45 k8 s1 s2 s0 x2 x4 x5 x6 x7 x8 = some out) : W p l e (headSpec ws_Mr_matches1 { frames := 5, cells := 0, slots := 0, locals := 141 }).room s m args below meth c H locs 0 0 (MQ below (QcI D A g out.1 (fun (_ : Unit) => w_Mr g a0 out.2 ++ (w_Tr g a1 s1 ++ (w_Tr g a2 s2 ++ (rest))))) args s 0 0 A) (F0 m 45 ls []) := by
  have X1 := X
  obtain ⟨hx, hb, hml, hown, hts, hr, hlocks, hKK⟩ := X1
  have ht : ∀ w ∈ TB, w.before args s = true := fun w h => hts w (List.mem_cons_of_mem _ h)
  have hK := hKK.1
  unfold B_Mr_matches1_45 at h
  refine lv_aload_n hx hb d_Mr_matches_45 rfl (lv_at hl 0 rfl) ?_
  refine lv_aload_n hx hb d_Mr_matches_46 rfl (lv_at hl 1 rfl) ?_
  refine lv_iload hx hb d_Mr_matches_47 (lv_at hl 6 rfl) ?_
  refine lv_aload_n hx hb d_Mr_matches_49 rfl (lv_at hl 3 rfl) ?_
  refine lv_iload hx hb d_Mr_matches_50 (lv_at hl 8 rfl) ?_
  refine lv_iload hx hb d_Mr_matches_52 (lv_at hl 5 rfl) ?_
  obtain ⟨o1, ho2, h⟩ := bd_s h
  refine cl_i (W1 := fun (_ : Unit) => w_Mr g a0 o1.2 ++ (w_Tr g a1 s1 ++ (w_Tr g a2 s2 ++ (rest)))) (va_runV (As := [.ref (a1 0), .int x6, .ref (a2 0), .int x8, .int x5]) (rest := []) ⟨hx, hb, hml, hown, ht⟩ (c_Mr_fits1 (l := l) (D := D) (A := A) (g := g) (rest := rest) (a0 := a0) (a1 := a1) (a2 := a2) ho2) (cwV 5 ht (gd_V m_625 m_627 mp_34 m_10 m_628) rfl rfl rfl (by decide +kernel) ⟨(Nat.le_of_ble_eq_true rfl), (Nat.le_of_ble_eq_true rfl)⟩) (prV (ci := 2) (q0 := 0) hKK hI ((mv_2).trans ((mv_2).trans (mv_2))) rfl rfl rfl) rfl rfl hl.1 rfl (lv_room (Nat.le_of_ble_eq_true rfl)) d_Mr_matches_54 ⟨(Nat.le_of_ble_eq_true rfl), (Nat.le_of_ble_eq_true rfl)⟩) hS (fun _ => (((mv_2).trans ((mv_2).trans (mv_2)))).symm) (fun _ H locs hI hS => ?_)
  have hI : Iw D A (w_Mr g a0 o1.2 ++ (w_Tr g a1 s1 ++ (w_Tr g a2 s2 ++ (rest)))) H := hI
  refine lv_if_ne (tgt := 62) hx hb d_Mr_matches_57 (by decide) (fun hc => ?_) (fun hc => ?_)
  · have h := it_f h hc
    exact t_Mr_matches1_62 X hk8 (lv_sub hl [0, 1, 2, 3, 4, 5, 6, 7] rfl) hI hS h
  · have h := it_t h hc
    exact t_Mr_matches1_60 X (lv_sub hl [] rfl) hI hS h
set_option maxRecDepth 100000 in
set_option maxHeartbeats 4000000 in
theorem t_Mr_matches1_25 {p : Program} {l : Launch} {e : Env} {s : State} {m : MethodId} {args : Array Value} {below : List Frame} {meth : Method} {c : Code} {D : va_G} {A : Nat → Prop} {g : Nat → ClassId} {rest : va_W} {a0 : Nat → Nat} {a1 : Nat → Nat} {a2 : Nat → Nat} {ls : Array Slot} {H : Heap} {locs : List Loc} {k8 : S_Mr × Int32 × Int32 × Int32 × Int32 × Int32 → Option (Int32 × S_Mr)} {s1 : S_Tr} {s2 : S_Tr} {s0 : S_Mr} {x2 : Int32} {x4 : Int32} {x5 : Int32} {x6 : Int32} {x7 : Int32} {out : Int32 × S_Mr} (X : Cx p s m args meth c prog_4_method_2_code 9 ws_Mr_matches1 R_Mr (some .boolean) D g) (hk8 : ∀ (v : S_Mr × Int32 × Int32 × Int32 × Int32 × Int32) (ls : Array Slot) (H : Heap) (locs : List Loc), lv_has ls 9 [(0, .ref (a0 0)), (1, .ref (a1 0)), (2, .int v.2.1), (3, .ref (a2 0)), (4, .int v.2.2.1), (5, .int v.2.2.2.1), (6, .int v.2.2.2.2.1), (7, .int v.2.2.2.2.2)] → Iw D A (w_Mr g a0 v.1 ++ (w_Tr g a1 s1 ++ (w_Tr g a2 s2 ++ (rest)))) H → va_S A s.heap H locs → k8 v = some out → W p l e (headSpec ws_Mr_matches1 { frames := 5, cells := 0, slots := 0, locals := 141 }).room s m args below meth c H locs 0 0 (MQ below (QcI D A g out.1 (fun (_ : Unit) => w_Mr g a0 out.2 ++ (w_Tr g a1 s1 ++ (w_Tr g a2 s2 ++ (rest))))) args s 0 0 A) (F0 m 8 ls [])) (hl : lv_has ls 9 [(0, .ref (a0 0)), (1, .ref (a1 0)), (2, .int x2), (3, .ref (a2 0)), (4, .int x4), (5, .int x5), (6, .int x6), (7, .int x7)]) (hI : Iw D A (w_Mr g a0 s0 ++ (w_Tr g a1 s1 ++ (w_Tr g a2 s2 ++ (rest)))) H) (hS : va_S A s.heap H locs) (h : B_Mr_matches1_25 k8 s1 s2 s0 x2 x4 x5 x6 x7 = some out) : W p l e (headSpec ws_Mr_matches1 { frames := 5, cells := 0, slots := 0, locals := 141 }).room s m args below meth c H locs 0 0 (MQ below (QcI D A g out.1 (fun (_ : Unit) => w_Mr g a0 out.2 ++ (w_Tr g a1 s1 ++ (w_Tr g a2 s2 ++ (rest))))) args s 0 0 A) (F0 m 25 ls []) := by
  have X1 := X
  obtain ⟨hx, hb, hml, hown, hts, hr, hlocks, hKK⟩ := X1
  have ht : ∀ w ∈ TB, w.before args s = true := fun w h => hts w (List.mem_cons_of_mem _ h)
  have hK := hKK.1
  unfold B_Mr_matches1_25 at h
  refine lv_aload_n hx hb d_Mr_matches_25 rfl (lv_at hl 3 rfl) ?_
  refine lv_iload hx hb d_Mr_matches_26 (lv_at hl 4 rfl) ?_
  refine lv_aload_n hx hb d_Mr_matches_28 rfl (lv_at hl 1 rfl) ?_
  refine lv_iload hx hb d_Mr_matches_29 (lv_at hl 6 rfl) ?_
  obtain ⟨o1, ho2, h⟩ := bd_s h
  refine cl_i (W1 := fun (_ : Unit) => w_Mr g a0 s0 ++ (w_Tr g a1 s1 ++ (w_Tr g a2 s2 ++ (rest)))) (va_runV (As := [.int x6]) (rest := [.int x4, .ref (a2 0)]) ⟨hx, hb, hml, hown, ht⟩ (c_Tr_tag (l := l) (D := D) (A := A) (g := g) (rest := w_Mr g a0 s0 ++ (w_Tr g a2 s2 ++ (rest))) (a0 := a1) ho2) (cwV 1 ht (gd_V m_623 m_512 m_513 m_9 m_514) rfl rfl rfl (by decide +kernel) ⟨(Nat.le_of_ble_eq_true rfl), (Nat.le_of_ble_eq_true rfl)⟩) (prV (ci := 7) (q0 := 0) hKK hI (mv_1) rfl rfl rfl) rfl rfl hl.1 rfl (lv_room (Nat.le_of_ble_eq_true rfl)) d_Mr_matches_31 ⟨(Nat.le_of_ble_eq_true rfl), (Nat.le_of_ble_eq_true rfl)⟩) hS (fun _ => ((mv_1)).symm) (fun _ H locs hI hS => ?_)
  have hI : Iw D A (w_Mr g a0 s0 ++ (w_Tr g a1 s1 ++ (w_Tr g a2 s2 ++ (rest)))) H := hI
  obtain ⟨o3, ho4, h⟩ := bd_s h
  refine cl_i (W1 := fun (_ : Unit) => w_Mr g a0 s0 ++ (w_Tr g a1 s1 ++ (w_Tr g a2 s2 ++ (rest)))) (va_runV (As := [.int x4, .int o1]) (rest := []) ⟨hx, hb, hml, hown, ht⟩ (c_Tr_find (l := l) (D := D) (A := A) (g := g) (rest := w_Mr g a0 s0 ++ (w_Tr g a1 s1 ++ (rest))) (a0 := a2) ho4) (cwV 2 ht (gd_V m_624 m_504 m_505 m_9 m_506) rfl rfl rfl (by decide +kernel) ⟨(Nat.le_of_ble_eq_true rfl), (Nat.le_of_ble_eq_true rfl)⟩) (prV (ci := 7) (q0 := 0) hKK hI (mv_2) rfl rfl rfl) rfl rfl hl.1 rfl (lv_room (Nat.le_of_ble_eq_true rfl)) d_Mr_matches_34 ⟨(Nat.le_of_ble_eq_true rfl), (Nat.le_of_ble_eq_true rfl)⟩) hS (fun _ => ((mv_2)).symm) (fun _ H locs hI hS => ?_)
  have hI : Iw D A (w_Mr g a0 s0 ++ (w_Tr g a1 s1 ++ (w_Tr g a2 s2 ++ (rest)))) H := hI
  refine lv_istore hx hb d_Mr_matches_37 hl (Nat.le_of_ble_eq_true rfl) rfl (fun ls hl => ?_)
  have hl : lv_has ls 9 [(8, .int o3), (0, .ref (a0 0)), (1, .ref (a1 0)), (2, .int x2), (3, .ref (a2 0)), (4, .int x4), (5, .int x5), (6, .int x6), (7, .int x7)] := hl
  refine lv_iload hx hb d_Mr_matches_39 (lv_at hl 0 rfl) ?_
  refine lv_iconst (v := (-1)) hx hb d_Mr_matches_41 (by decide) ?_
  refine lv_icmp_eq (tgt := 60) hx hb d_Mr_matches_42 (by decide) (fun hc => ?_) (fun hc => ?_)
  · have h := it_t h hc
    exact t_Mr_matches1_60 X (lv_sub hl [] rfl) hI hS h
  · have h := it_f h hc
    exact t_Mr_matches1_45 X hk8 (lv_sub hl [1, 2, 3, 4, 5, 6, 7, 8, 0] rfl) hI hS h
set_option maxRecDepth 100000 in
set_option maxHeartbeats 4000000 in
theorem t_Mr_matches1_15 {p : Program} {l : Launch} {e : Env} {s : State} {m : MethodId} {args : Array Value} {below : List Frame} {meth : Method} {c : Code} {D : va_G} {A : Nat → Prop} {g : Nat → ClassId} {rest : va_W} {a0 : Nat → Nat} {a1 : Nat → Nat} {a2 : Nat → Nat} {ls : Array Slot} {H : Heap} {locs : List Loc} {k8 : S_Mr × Int32 × Int32 × Int32 × Int32 × Int32 → Option (Int32 × S_Mr)} {s1 : S_Tr} {s2 : S_Tr} {s0 : S_Mr} {x2 : Int32} {x4 : Int32} {x5 : Int32} {x6 : Int32} {x7 : Int32} {out : Int32 × S_Mr} (X : Cx p s m args meth c prog_4_method_2_code 9 ws_Mr_matches1 R_Mr (some .boolean) D g) (hk8 : ∀ (v : S_Mr × Int32 × Int32 × Int32 × Int32 × Int32) (ls : Array Slot) (H : Heap) (locs : List Loc), lv_has ls 9 [(0, .ref (a0 0)), (1, .ref (a1 0)), (2, .int v.2.1), (3, .ref (a2 0)), (4, .int v.2.2.1), (5, .int v.2.2.2.1), (6, .int v.2.2.2.2.1), (7, .int v.2.2.2.2.2)] → Iw D A (w_Mr g a0 v.1 ++ (w_Tr g a1 s1 ++ (w_Tr g a2 s2 ++ (rest)))) H → va_S A s.heap H locs → k8 v = some out → W p l e (headSpec ws_Mr_matches1 { frames := 5, cells := 0, slots := 0, locals := 141 }).room s m args below meth c H locs 0 0 (MQ below (QcI D A g out.1 (fun (_ : Unit) => w_Mr g a0 out.2 ++ (w_Tr g a1 s1 ++ (w_Tr g a2 s2 ++ (rest))))) args s 0 0 A) (F0 m 8 ls [])) (hl : lv_has ls 9 [(0, .ref (a0 0)), (1, .ref (a1 0)), (2, .int x2), (3, .ref (a2 0)), (4, .int x4), (5, .int x5), (6, .int x6), (7, .int x7)]) (hI : Iw D A (w_Mr g a0 s0 ++ (w_Tr g a1 s1 ++ (w_Tr g a2 s2 ++ (rest)))) H) (hS : va_S A s.heap H locs) (h : B_Mr_matches1_15 k8 s1 s2 s0 x2 x4 x5 x6 x7 = some out) : W p l e (headSpec ws_Mr_matches1 { frames := 5, cells := 0, slots := 0, locals := 141 }).room s m args below meth c H locs 0 0 (MQ below (QcI D A g out.1 (fun (_ : Unit) => w_Mr g a0 out.2 ++ (w_Tr g a1 s1 ++ (w_Tr g a2 s2 ++ (rest))))) args s 0 0 A) (F0 m 15 ls []) := by
  have X1 := X
  obtain ⟨hx, hb, hml, hown, hts, hr, hlocks, hKK⟩ := X1
  have ht : ∀ w ∈ TB, w.before args s = true := fun w h => hts w (List.mem_cons_of_mem _ h)
  have hK := hKK.1
  unfold B_Mr_matches1_15 at h
  refine lv_iload hx hb d_Mr_matches_15 (lv_at hl 6 rfl) ?_
  refine lv_aload_n hx hb d_Mr_matches_17 rfl (lv_at hl 1 rfl) ?_
  refine lv_iload_n hx hb d_Mr_matches_18 rfl (lv_at hl 2 rfl) ?_
  obtain ⟨o1, ho2, h⟩ := bd_s h
  refine cl_i (W1 := fun (_ : Unit) => w_Mr g a0 s0 ++ (w_Tr g a1 s1 ++ (w_Tr g a2 s2 ++ (rest)))) (va_runV (As := [.int x2]) (rest := [.int x6]) ⟨hx, hb, hml, hown, ht⟩ (c_Tr_behind (l := l) (D := D) (A := A) (g := g) (rest := w_Mr g a0 s0 ++ (w_Tr g a2 s2 ++ (rest))) (a0 := a1) ho2) (cwV 1 ht (gd_V m_622 m_508 m_509 m_9 m_510) rfl rfl rfl (by decide +kernel) ⟨(Nat.le_of_ble_eq_true rfl), (Nat.le_of_ble_eq_true rfl)⟩) (prV (ci := 7) (q0 := 0) hKK hI (mv_1) rfl rfl rfl) rfl rfl hl.1 rfl (lv_room (Nat.le_of_ble_eq_true rfl)) d_Mr_matches_19 ⟨(Nat.le_of_ble_eq_true rfl), (Nat.le_of_ble_eq_true rfl)⟩) hS (fun _ => ((mv_1)).symm) (fun _ H locs hI hS => ?_)
  have hI : Iw D A (w_Mr g a0 s0 ++ (w_Tr g a1 s1 ++ (w_Tr g a2 s2 ++ (rest)))) H := hI
  refine lv_icmp_ge (tgt := 76) hx hb d_Mr_matches_22 (by decide) (fun hc => ?_) (fun hc => ?_)
  · have h := it_t h hc
    exact t_Mr_matches1_76 X (lv_sub hl [] rfl) hI hS h
  · have h := it_f h hc
    exact t_Mr_matches1_25 X hk8 (lv_sub hl [0, 1, 2, 3, 4, 5, 6, 7] rfl) hI hS h
set_option maxRecDepth 100000 in
set_option maxHeartbeats 4000000 in
theorem t_Mr_matches1_8 {p : Program} {l : Launch} {e : Env} {s : State} {m : MethodId} {args : Array Value} {below : List Frame} {meth : Method} {c : Code} {D : va_G} {A : Nat → Prop} {g : Nat → ClassId} {rest : va_W} {a0 : Nat → Nat} {a1 : Nat → Nat} {a2 : Nat → Nat} {ls : Array Slot} {H : Heap} {locs : List Loc} {k8 : S_Mr × Int32 × Int32 × Int32 × Int32 × Int32 → Option (Int32 × S_Mr)} {s1 : S_Tr} {s2 : S_Tr} {s0 : S_Mr} {x2 : Int32} {x4 : Int32} {x5 : Int32} {x6 : Int32} {x7 : Int32} {out : Int32 × S_Mr} (X : Cx p s m args meth c prog_4_method_2_code 9 ws_Mr_matches1 R_Mr (some .boolean) D g) (hk8 : ∀ (v : S_Mr × Int32 × Int32 × Int32 × Int32 × Int32) (ls : Array Slot) (H : Heap) (locs : List Loc), lv_has ls 9 [(0, .ref (a0 0)), (1, .ref (a1 0)), (2, .int v.2.1), (3, .ref (a2 0)), (4, .int v.2.2.1), (5, .int v.2.2.2.1), (6, .int v.2.2.2.2.1), (7, .int v.2.2.2.2.2)] → Iw D A (w_Mr g a0 v.1 ++ (w_Tr g a1 s1 ++ (w_Tr g a2 s2 ++ (rest)))) H → va_S A s.heap H locs → k8 v = some out → W p l e (headSpec ws_Mr_matches1 { frames := 5, cells := 0, slots := 0, locals := 141 }).room s m args below meth c H locs 0 0 (MQ below (QcI D A g out.1 (fun (_ : Unit) => w_Mr g a0 out.2 ++ (w_Tr g a1 s1 ++ (w_Tr g a2 s2 ++ (rest))))) args s 0 0 A) (F0 m 8 ls [])) (hl : lv_has ls 9 [(0, .ref (a0 0)), (1, .ref (a1 0)), (2, .int x2), (3, .ref (a2 0)), (4, .int x4), (5, .int x5), (6, .int x6), (7, .int x7)]) (hI : Iw D A (w_Mr g a0 s0 ++ (w_Tr g a1 s1 ++ (w_Tr g a2 s2 ++ (rest)))) H) (hS : va_S A s.heap H locs) (h : B_Mr_matches1_8 k8 s1 s2 s0 x2 x4 x5 x6 x7 = some out) : W p l e (headSpec ws_Mr_matches1 { frames := 5, cells := 0, slots := 0, locals := 141 }).room s m args below meth c H locs 0 0 (MQ below (QcI D A g out.1 (fun (_ : Unit) => w_Mr g a0 out.2 ++ (w_Tr g a1 s1 ++ (w_Tr g a2 s2 ++ (rest))))) args s 0 0 A) (F0 m 8 ls []) := by
  have X1 := X
  obtain ⟨hx, hb, hml, hown, hts, hr, hlocks, hKK⟩ := X1
  have ht : ∀ w ∈ TB, w.before args s = true := fun w h => hts w (List.mem_cons_of_mem _ h)
  have hK := hKK.1
  unfold B_Mr_matches1_8 at h
  refine lv_iload hx hb d_Mr_matches_8 (lv_at hl 7 rfl) ?_
  refine lv_bipush (v := 10) hx hb d_Mr_matches_10 (by decide) ?_
  refine lv_icmp_ge (tgt := 76) hx hb d_Mr_matches_12 (by decide) (fun hc => ?_) (fun hc => ?_)
  · have h := it_t h hc
    exact t_Mr_matches1_76 X (lv_sub hl [] rfl) hI hS h
  · have h := it_f h hc
    exact t_Mr_matches1_15 X hk8 (lv_sub hl [0, 1, 2, 3, 4, 5, 6, 7] rfl) hI hS h
set_option maxRecDepth 100000 in
set_option maxHeartbeats 4000000 in
theorem T_Mr_matches1_8 {p : Program} {l : Launch} {e : Env} {s : State} {m : MethodId} {args : Array Value} {below : List Frame} {meth : Method} {c : Code} {D : va_G} {A : Nat → Prop} {g : Nat → ClassId} {rest : va_W} {a0 : Nat → Nat} {a1 : Nat → Nat} {a2 : Nat → Nat} {ls : Array Slot} {H : Heap} {locs : List Loc} {s1 : S_Tr} {s2 : S_Tr} {s0 : S_Mr} {x2 : Int32} {x4 : Int32} {x5 : Int32} {x6 : Int32} {x7 : Int32} {out : Int32 × S_Mr} (X : Cx p s m args meth c prog_4_method_2_code 9 ws_Mr_matches1 R_Mr (some .boolean) D g) (hl : lv_has ls 9 [(0, .ref (a0 0)), (1, .ref (a1 0)), (2, .int x2), (3, .ref (a2 0)), (4, .int x4), (5, .int x5), (6, .int x6), (7, .int x7)]) (hI : Iw D A (w_Mr g a0 s0 ++ (w_Tr g a1 s1 ++ (w_Tr g a2 s2 ++ (rest)))) H) (hS : va_S A s.heap H locs) (h : L_Mr_matches1_8  s1 s2 (s0, x2, x4, x5, x6, x7) = some out) : W p l e (headSpec ws_Mr_matches1 { frames := 5, cells := 0, slots := 0, locals := 141 }).room s m args below meth c H locs 0 0 (MQ below (QcI D A g out.1 (fun (_ : Unit) => w_Mr g a0 out.2 ++ (w_Tr g a1 s1 ++ (w_Tr g a2 s2 ++ (rest))))) args s 0 0 A) (F0 m 8 ls []) := by
  unfold L_Mr_matches1_8 at h
  exact lp_ind (P := fun v => ∀ (ls : Array Slot) (H : Heap) (locs : List Loc), lv_has ls 9 [(0, .ref (a0 0)), (1, .ref (a1 0)), (2, .int v.2.1), (3, .ref (a2 0)), (4, .int v.2.2.1), (5, .int v.2.2.2.1), (6, .int v.2.2.2.2.1), (7, .int v.2.2.2.2.2)] → Iw D A (w_Mr g a0 v.1 ++ (w_Tr g a1 s1 ++ (w_Tr g a2 s2 ++ (rest)))) H → va_S A s.heap H locs → W p l e (headSpec ws_Mr_matches1 { frames := 5, cells := 0, slots := 0, locals := 141 }).room s m args below meth c H locs 0 0 (MQ below (QcI D A g out.1 (fun (_ : Unit) => w_Mr g a0 out.2 ++ (w_Tr g a1 s1 ++ (w_Tr g a2 s2 ++ (rest))))) args s 0 0 A) (F0 m 8 ls [])) (fun k v ih hb ls H locs  hl hI hS => t_Mr_matches1_8 X  (fun v' ls H locs  hl hI hS h' => ih v' h' ls H locs  hl hI hS) hl hI hS hb) FU _ h ls H locs  hl hI hS
set_option maxRecDepth 100000 in
set_option maxHeartbeats 4000000 in
theorem t_Mr_matches1_0 {p : Program} {l : Launch} {e : Env} {s : State} {m : MethodId} {args : Array Value} {below : List Frame} {meth : Method} {c : Code} {D : va_G} {A : Nat → Prop} {g : Nat → ClassId} {rest : va_W} {a0 : Nat → Nat} {a1 : Nat → Nat} {a2 : Nat → Nat} {ls : Array Slot} {H : Heap} {locs : List Loc} {s1 : S_Tr} {s2 : S_Tr} {s0 : S_Mr} {x2 : Int32} {x4 : Int32} {x5 : Int32} {out : Int32 × S_Mr} (X : Cx p s m args meth c prog_4_method_2_code 9 ws_Mr_matches1 R_Mr (some .boolean) D g) (hl : lv_has ls 9 [(0, .ref (a0 0)), (1, .ref (a1 0)), (2, .int x2), (3, .ref (a2 0)), (4, .int x4), (5, .int x5)]) (hI : Iw D A (w_Mr g a0 s0 ++ (w_Tr g a1 s1 ++ (w_Tr g a2 s2 ++ (rest)))) H) (hS : va_S A s.heap H locs) (h : B_Mr_matches1_0  s1 s2 s0 x2 x4 x5 = some out) : W p l e (headSpec ws_Mr_matches1 { frames := 5, cells := 0, slots := 0, locals := 141 }).room s m args below meth c H locs 0 0 (MQ below (QcI D A g out.1 (fun (_ : Unit) => w_Mr g a0 out.2 ++ (w_Tr g a1 s1 ++ (w_Tr g a2 s2 ++ (rest))))) args s 0 0 A) (F0 m 0 ls []) := by
  have X1 := X
  obtain ⟨hx, hb, hml, hown, hts, hr, hlocks, hKK⟩ := X1
  have ht : ∀ w ∈ TB, w.before args s = true := fun w h => hts w (List.mem_cons_of_mem _ h)
  have hK := hKK.1
  unfold B_Mr_matches1_0 at h
  refine lv_iload_n hx hb d_Mr_matches_0 rfl (lv_at hl 2 rfl) ?_
  refine lv_iconst (v := 1) hx hb d_Mr_matches_1 (by decide) ?_
  refine lv_iadd hx hb d_Mr_matches_2 ?_
  refine lv_istore hx hb d_Mr_matches_3 hl (Nat.le_of_ble_eq_true rfl) rfl (fun ls hl => ?_)
  have hl : lv_has ls 9 [(6, .int (x2 + (1 : Int32))), (0, .ref (a0 0)), (1, .ref (a1 0)), (2, .int x2), (3, .ref (a2 0)), (4, .int x4), (5, .int x5)] := hl
  refine lv_iconst (v := 0) hx hb d_Mr_matches_5 (by decide) ?_
  refine lv_istore hx hb d_Mr_matches_6 hl (Nat.le_of_ble_eq_true rfl) rfl (fun ls hl => ?_)
  have hl : lv_has ls 9 [(7, .int (0 : Int32)), (6, .int (x2 + (1 : Int32))), (0, .ref (a0 0)), (1, .ref (a1 0)), (2, .int x2), (3, .ref (a2 0)), (4, .int x4), (5, .int x5)] := hl
  exact T_Mr_matches1_8 X (lv_sub hl [2, 3, 4, 5, 6, 7, 1, 0] rfl) hI hS h
set_option maxRecDepth 100000 in
set_option maxHeartbeats 4000000 in
theorem c_Mr_matches1 {l : Launch} {D : va_G} {A : Nat → Prop} {g : Nat → ClassId} {rest : va_W} {a0 : Nat → Nat} {a1 : Nat → Nat} {a2 : Nat → Nat} {s0 : S_Mr} {s1 : S_Tr} {s2 : S_Tr} {x2 : Int32} {x4 : Int32} {x5 : Int32} {out : Int32 × S_Mr} (h : F_Mr_matches1 s0 s1 s2 x2 x4 x5 = some out) : Met l y_Mr_matches ws_Mr_matches1 { frames := 5, cells := 0, slots := 0, locals := 141 } (PcW D A g [.ref (a0 0), .ref (a1 0), .int x2, .ref (a2 0), .int x4, .int x5] (w_Mr g a0 s0 ++ (w_Tr g a1 s1 ++ (w_Tr g a2 s2 ++ (rest))))) (QcI D A g out.1 (fun (_ : Unit) => w_Mr g a0 out.2 ++ (w_Tr g a1 s1 ++ (w_Tr g a2 s2 ++ (rest))))) 0 0 A := by
  refine Met.ofW (cc := prog_4_method_2_code) (maxL := 9) (ret := (some .boolean)) (by decide) rfl ?_
  intro p e s m args below meth c s₁ B hml hv
  obtain ⟨rfl, hI, hK⟩ := hv
  have hl := lv_entry [.ref (a0 0), .ref (a1 0), .int x2, .ref (a2 0), .int x4, .int x5] (n := 9) (Nat.le_of_ble_eq_true rfl)
  rw [lg_entry_eq]
  generalize (lg_sl [.ref (a0 0), .ref (a1 0), .int x2, .ref (a2 0), .int x4, .int x5] ++ List.replicate (9 - (lg_sl [.ref (a0 0), .ref (a1 0), .int x2, .ref (a2 0), .int x4, .int x5]).length) Slot.unset).toArray = ls at hl ⊢
  have hl : lv_has ls 9 [(0, .ref (a0 0)), (1, .ref (a1 0)), (2, .int x2), (3, .ref (a2 0)), (4, .int x4), (5, .int x5)] := hl
  exact t_Mr_matches1_0 ⟨B.exec, B.bytes, hml, findClass_of_methodNamed B.named, atoms_spec (ws := ws_Mr_matches1) B.pre, B.returns, B.notSynchronized, hK⟩ (lv_sub hl [0, 1, 2, 3, 4, 5] rfl) hI va_S.rf h
def ws_Mr_fits0 : List Cond := .code y_Mr_fits prog_4_method_3_code 11 (some .boolean) :: TB
def B_Mr_fits0_147 (s1 : S_Tr) (s2 : S_Tr) (s0 : S_Mr) (x9 : Int32) : Option (Int32 × S_Mr) :=
  (if x9 = 0 ∨ x9 = 1 then some (x9, s0) else none)
def B_Mr_fits0_131 (k81 : S_Mr × Int32 × Int32 × Int32 × Int32 × Int32 × Int32 → Option (Int32 × S_Mr)) (s1 : S_Tr) (s2 : S_Tr) (s0 : S_Mr) (x4 : Int32) (x5 : Int32) (x7 : Int32) (x8 : Int32) (x10 : Int32) (y0 : Int32) : Option (Int32 × S_Mr) :=
  ((F_Tr_behind s2 x8).bind fun o1 => (k81 (s0, x4, x5, x7, o1, y0, (x10 + 1))))
def B_Mr_fits0_130 (k81 : S_Mr × Int32 × Int32 × Int32 × Int32 × Int32 × Int32 → Option (Int32 × S_Mr)) (s1 : S_Tr) (s2 : S_Tr) (s0 : S_Mr) (x4 : Int32) (x5 : Int32) (x7 : Int32) (x8 : Int32) (x10 : Int32) : Option (Int32 × S_Mr) :=
  (B_Mr_fits0_131 k81 s1 s2 s0 x4 x5 x7 x8 x10 (0 : Int32))
def B_Mr_fits0_126 (k81 : S_Mr × Int32 × Int32 × Int32 × Int32 × Int32 × Int32 → Option (Int32 × S_Mr)) (s1 : S_Tr) (s2 : S_Tr) (s0 : S_Mr) (x4 : Int32) (x5 : Int32) (x7 : Int32) (x8 : Int32) (x10 : Int32) : Option (Int32 × S_Mr) :=
  (B_Mr_fits0_131 k81 s1 s2 s0 x4 x5 x7 x8 x10 (1 : Int32))
def B_Mr_fits0_109 (k81 : S_Mr × Int32 × Int32 × Int32 × Int32 × Int32 × Int32 → Option (Int32 × S_Mr)) (s1 : S_Tr) (s2 : S_Tr) (s0 : S_Mr) (x4 : Int32) (x5 : Int32) (x7 : Int32) (x8 : Int32) (x10 : Int32) : Option (Int32 × S_Mr) :=
  ((F_Mr_matches1 s0 s1 s2 x7 x8 (x5 + (1 : Int32))).bind fun o1 => (if o1.1 = 0 then (B_Mr_fits0_130 k81 s1 s2 o1.2 x4 x5 x7 x8 x10) else (B_Mr_fits0_126 k81 s1 s2 o1.2 x4 x5 x7 x8 x10)))
def B_Mr_fits0_103 (k81 : S_Mr × Int32 × Int32 × Int32 × Int32 × Int32 × Int32 → Option (Int32 × S_Mr)) (s1 : S_Tr) (s2 : S_Tr) (s0 : S_Mr) (x4 : Int32) (x5 : Int32) (x7 : Int32) (x8 : Int32) (x10 : Int32) : Option (Int32 × S_Mr) :=
  (if (2 : Int32) ≤ x5 then (B_Mr_fits0_130 k81 s1 s2 s0 x4 x5 x7 x8 x10) else (B_Mr_fits0_109 k81 s1 s2 s0 x4 x5 x7 x8 x10))
def B_Mr_fits0_98 (k81 : S_Mr × Int32 × Int32 × Int32 × Int32 × Int32 × Int32 → Option (Int32 × S_Mr)) (s1 : S_Tr) (s2 : S_Tr) (s0 : S_Mr) (x4 : Int32) (x5 : Int32) (x7 : Int32) (x8 : Int32) (x9 : Int32) (x10 : Int32) : Option (Int32 × S_Mr) :=
  (if x9 = 0 then (B_Mr_fits0_103 k81 s1 s2 s0 x4 x5 x7 x8 x10) else (B_Mr_fits0_147 s1 s2 s0 x9))
def B_Mr_fits0_87 (k81 : S_Mr × Int32 × Int32 × Int32 × Int32 × Int32 × Int32 → Option (Int32 × S_Mr)) (s1 : S_Tr) (s2 : S_Tr) (s0 : S_Mr) (x4 : Int32) (x5 : Int32) (x7 : Int32) (x8 : Int32) (x9 : Int32) (x10 : Int32) : Option (Int32 × S_Mr) :=
  ((F_Tr_behind s2 x4).bind fun o1 => (if o1 ≤ x8 then (B_Mr_fits0_147 s1 s2 s0 x9) else (B_Mr_fits0_98 k81 s1 s2 s0 x4 x5 x7 x8 x9 x10)))
def B_Mr_fits0_81 (k81 : S_Mr × Int32 × Int32 × Int32 × Int32 × Int32 × Int32 → Option (Int32 × S_Mr)) (s1 : S_Tr) (s2 : S_Tr) (s0 : S_Mr) (x4 : Int32) (x5 : Int32) (x7 : Int32) (x8 : Int32) (x9 : Int32) (x10 : Int32) : Option (Int32 × S_Mr) :=
  (if (4 : Int32) ≤ x10 then (B_Mr_fits0_147 s1 s2 s0 x9) else (B_Mr_fits0_87 k81 s1 s2 s0 x4 x5 x7 x8 x9 x10))
def L_Mr_fits0_81 (s1 : S_Tr) (s2 : S_Tr) (v : S_Mr × Int32 × Int32 × Int32 × Int32 × Int32 × Int32) : Option (Int32 × S_Mr) := lp (fun k81 v => B_Mr_fits0_81  k81 s1 s2 v.1 v.2.1 v.2.2.1 v.2.2.2.1 v.2.2.2.2.1 v.2.2.2.2.2.1 v.2.2.2.2.2.2) FU v
def B_Mr_fits0_69 (s1 : S_Tr) (s2 : S_Tr) (s0 : S_Mr) (x4 : Int32) (x5 : Int32) (x7 : Int32) : Option (Int32 × S_Mr) :=
  (L_Mr_fits0_81 s1 s2 (s0, x4, x5, x7, (x4 + (1 : Int32)), (0 : Int32), (0 : Int32)))
def B_Mr_fits0_67 (s1 : S_Tr) (s2 : S_Tr) (s0 : S_Mr) : Option (Int32 × S_Mr) :=
  some ((1 : Int32), s0)
def B_Mr_fits0_52 (s1 : S_Tr) (s2 : S_Tr) (s0 : S_Mr) (x2 : Int32) (x4 : Int32) (x5 : Int32) : Option (Int32 × S_Mr) :=
  ((F_Tr_behind s1 x2).bind fun o1 => (if (x2 + (1 : Int32)) = o1 then (B_Mr_fits0_67 s1 s2 s0) else (B_Mr_fits0_69 s1 s2 s0 x4 x5 (x2 + (1 : Int32)))))
def B_Mr_fits0_42 (s1 : S_Tr) (s2 : S_Tr) (s0 : S_Mr) (x2 : Int32) (x4 : Int32) : Option (Int32 × S_Mr) :=
  ((F_Mr_textFits s0 s1 s2 x2 x4).bind fun o1 => (if o1.1 = 0 ∨ o1.1 = 1 then some (o1.1, o1.2) else none))
def B_Mr_fits0_36 (s1 : S_Tr) (s2 : S_Tr) (s0 : S_Mr) (x2 : Int32) (x4 : Int32) (x5 : Int32) (x6 : Int32) : Option (Int32 × S_Mr) :=
  (if x6 = (2 : Int32) then (B_Mr_fits0_42 s1 s2 s0 x2 x4) else (B_Mr_fits0_52 s1 s2 s0 x2 x4 x5))
def B_Mr_fits0_35 (s1 : S_Tr) (s2 : S_Tr) (s0 : S_Mr) (y0 : Int32) : Option (Int32 × S_Mr) :=
  (if y0 = 0 ∨ y0 = 1 then some (y0, s0) else none)
def B_Mr_fits0_34 (s1 : S_Tr) (s2 : S_Tr) (s0 : S_Mr) : Option (Int32 × S_Mr) :=
  (B_Mr_fits0_35 s1 s2 s0 (0 : Int32))
def B_Mr_fits0_30 (s1 : S_Tr) (s2 : S_Tr) (s0 : S_Mr) : Option (Int32 × S_Mr) :=
  (B_Mr_fits0_35 s1 s2 s0 (1 : Int32))
def B_Mr_fits0_16 (s1 : S_Tr) (s2 : S_Tr) (s0 : S_Mr) (x2 : Int32) (x4 : Int32) : Option (Int32 × S_Mr) :=
  ((F_Tr_number s1 x2).bind fun o1 => ((F_Tr_number s2 x4).bind fun o3 => (if o1 = o3 then (B_Mr_fits0_30 s1 s2 s0) else (B_Mr_fits0_34 s1 s2 s0))))
def B_Mr_fits0_0 (s1 : S_Tr) (s2 : S_Tr) (s0 : S_Mr) (x2 : Int32) (x4 : Int32) (x5 : Int32) : Option (Int32 × S_Mr) :=
  ((F_Tr_tag s1 x2).bind fun o1 => ((F_Rn_kindOf o1).bind fun o3 => (if o3 = (1 : Int32) then (B_Mr_fits0_16 s1 s2 s0 x2 x4) else (B_Mr_fits0_36 s1 s2 s0 x2 x4 x5 o3))))
def F_Mr_fits0 (s0 : S_Mr) (s1 : S_Tr) (s2 : S_Tr) (x2 : Int32) (x4 : Int32) (x5 : Int32) : Option (Int32 × S_Mr) := B_Mr_fits0_0 s1 s2 s0 x2 x4 x5
set_option maxRecDepth 100000 in
set_option maxHeartbeats 4000000 in
theorem t_Mr_fits0_147 {p : Program} {l : Launch} {e : Env} {s : State} {m : MethodId} {args : Array Value} {below : List Frame} {meth : Method} {c : Code} {D : va_G} {A : Nat → Prop} {g : Nat → ClassId} {rest : va_W} {a0 : Nat → Nat} {a1 : Nat → Nat} {a2 : Nat → Nat} {ls : Array Slot} {H : Heap} {locs : List Loc} {s1 : S_Tr} {s2 : S_Tr} {s0 : S_Mr} {x9 : Int32} {out : Int32 × S_Mr} (X : Cx p s m args meth c prog_4_method_3_code 11 ws_Mr_fits0 R_Mr (some .boolean) D g) (hl : lv_has ls 11 [(9, .int x9)]) (hI : Iw D A (w_Mr g a0 s0 ++ (w_Tr g a1 s1 ++ (w_Tr g a2 s2 ++ (rest)))) H) (hS : va_S A s.heap H locs) (h : B_Mr_fits0_147  s1 s2 s0 x9 = some out) : W p l e (headSpec ws_Mr_fits0 { frames := 6, cells := 0, slots := 0, locals := 169 }).room s m args below meth c H locs 0 0 (MQ below (QcI D A g out.1 (fun (_ : Unit) => w_Mr g a0 out.2 ++ (w_Tr g a1 s1 ++ (w_Tr g a2 s2 ++ (rest))))) args s 0 0 A) (F0 m 147 ls []) := by
  have X1 := X
  obtain ⟨hx, hb, hml, hown, hts, hr, hlocks, hKK⟩ := X1
  have ht : ∀ w ∈ TB, w.before args s = true := fun w h => hts w (List.mem_cons_of_mem _ h)
  have hK := hKK.1
  unfold B_Mr_fits0_147 at h
  refine lv_iload hx hb d_Mr_fits_147 (lv_at hl 0 rfl) ?_
  have hc1 : x9 = 0 ∨ x9 = 1 := by
    by_cases z : x9 = 0 ∨ x9 = 1
    · exact z
    · exact no_s (it_f h z)
  have h := it_t h hc1
  have h9 := Option.some.inj h
  subst h9
  exact W.zret (v := x9) hx hb hr (by rcases hc1 with z | z <;> rw [z] <;> rfl) (fun t ht hW => ⟨⟨_, (), rfl, rfl, ⟨by rw [ht]; exact hI, hKK.moved hW⟩⟩, hS.F ht⟩) hS.2.2 d_Mr_fits_149
set_option maxRecDepth 100000 in
set_option maxHeartbeats 4000000 in
theorem t_Mr_fits0_131 {p : Program} {l : Launch} {e : Env} {s : State} {m : MethodId} {args : Array Value} {below : List Frame} {meth : Method} {c : Code} {D : va_G} {A : Nat → Prop} {g : Nat → ClassId} {rest : va_W} {a0 : Nat → Nat} {a1 : Nat → Nat} {a2 : Nat → Nat} {ls : Array Slot} {H : Heap} {locs : List Loc} {k81 : S_Mr × Int32 × Int32 × Int32 × Int32 × Int32 × Int32 → Option (Int32 × S_Mr)} {s1 : S_Tr} {s2 : S_Tr} {s0 : S_Mr} {x4 : Int32} {x5 : Int32} {x7 : Int32} {x8 : Int32} {x10 : Int32} {y0 : Int32} {out : Int32 × S_Mr} (X : Cx p s m args meth c prog_4_method_3_code 11 ws_Mr_fits0 R_Mr (some .boolean) D g) (hk81 : ∀ (v : S_Mr × Int32 × Int32 × Int32 × Int32 × Int32 × Int32) (ls : Array Slot) (H : Heap) (locs : List Loc), lv_has ls 11 [(0, .ref (a0 0)), (1, .ref (a1 0)), (3, .ref (a2 0)), (4, .int v.2.1), (5, .int v.2.2.1), (7, .int v.2.2.2.1), (8, .int v.2.2.2.2.1), (9, .int v.2.2.2.2.2.1), (10, .int v.2.2.2.2.2.2)] → Iw D A (w_Mr g a0 v.1 ++ (w_Tr g a1 s1 ++ (w_Tr g a2 s2 ++ (rest)))) H → va_S A s.heap H locs → k81 v = some out → W p l e (headSpec ws_Mr_fits0 { frames := 6, cells := 0, slots := 0, locals := 169 }).room s m args below meth c H locs 0 0 (MQ below (QcI D A g out.1 (fun (_ : Unit) => w_Mr g a0 out.2 ++ (w_Tr g a1 s1 ++ (w_Tr g a2 s2 ++ (rest))))) args s 0 0 A) (F0 m 81 ls [])) (hl : lv_has ls 11 [(0, .ref (a0 0)), (1, .ref (a1 0)), (3, .ref (a2 0)), (4, .int x4), (5, .int x5), (7, .int x7), (8, .int x8), (10, .int x10)]) (hI : Iw D A (w_Mr g a0 s0 ++ (w_Tr g a1 s1 ++ (w_Tr g a2 s2 ++ (rest)))) H) (hS : va_S A s.heap H locs) (h : B_Mr_fits0_131 k81 s1 s2 s0 x4 x5 x7 x8 x10 y0 = some out) : W p l e (headSpec ws_Mr_fits0 { frames := 6, cells := 0, slots := 0, locals := 169 }).room s m args below meth c H locs 0 0 (MQ below (QcI D A g out.1 (fun (_ : Unit) => w_Mr g a0 out.2 ++ (w_Tr g a1 s1 ++ (w_Tr g a2 s2 ++ (rest))))) args s 0 0 A) (F0 m 131 ls [.int y0]) := by
  have X1 := X
  obtain ⟨hx, hb, hml, hown, hts, hr, hlocks, hKK⟩ := X1
  have ht : ∀ w ∈ TB, w.before args s = true := fun w h => hts w (List.mem_cons_of_mem _ h)
  have hK := hKK.1
  unfold B_Mr_fits0_131 at h
  refine lv_istore hx hb d_Mr_fits_131 hl (Nat.le_of_ble_eq_true rfl) rfl (fun ls hl => ?_)
  have hl : lv_has ls 11 [(9, .int y0), (0, .ref (a0 0)), (1, .ref (a1 0)), (3, .ref (a2 0)), (4, .int x4), (5, .int x5), (7, .int x7), (8, .int x8), (10, .int x10)] := hl
  refine lv_aload_n hx hb d_Mr_fits_133 rfl (lv_at hl 3 rfl) ?_
  refine lv_iload hx hb d_Mr_fits_134 (lv_at hl 7 rfl) ?_
  obtain ⟨o1, ho2, h⟩ := bd_s h
  refine cl_i (W1 := fun (_ : Unit) => w_Mr g a0 s0 ++ (w_Tr g a1 s1 ++ (w_Tr g a2 s2 ++ (rest)))) (va_runV (As := [.int x8]) (rest := []) ⟨hx, hb, hml, hown, ht⟩ (c_Tr_behind (l := l) (D := D) (A := A) (g := g) (rest := w_Mr g a0 s0 ++ (w_Tr g a1 s1 ++ (rest))) (a0 := a2) ho2) (cwV 1 ht (gd_V m_622 m_508 m_509 m_9 m_510) rfl rfl rfl (by decide +kernel) ⟨(Nat.le_of_ble_eq_true rfl), (Nat.le_of_ble_eq_true rfl)⟩) (prV (ci := 7) (q0 := 0) hKK hI (mv_2) rfl rfl rfl) rfl rfl hl.1 rfl (lv_room (Nat.le_of_ble_eq_true rfl)) d_Mr_fits_136 ⟨(Nat.le_of_ble_eq_true rfl), (Nat.le_of_ble_eq_true rfl)⟩) hS (fun _ => ((mv_2)).symm) (fun _ H locs hI hS => ?_)
  have hI : Iw D A (w_Mr g a0 s0 ++ (w_Tr g a1 s1 ++ (w_Tr g a2 s2 ++ (rest)))) H := hI
  refine lv_istore hx hb d_Mr_fits_139 hl (Nat.le_of_ble_eq_true rfl) rfl (fun ls hl => ?_)
  have hl : lv_has ls 11 [(8, .int o1), (9, .int y0), (0, .ref (a0 0)), (1, .ref (a1 0)), (3, .ref (a2 0)), (4, .int x4), (5, .int x5), (7, .int x7), (10, .int x10)] := hl
  refine lv_iinc (k := 8) (v := (x10 + 1)) hx hb d_Mr_fits_141 hl rfl (congrArg (fun z => x10 + z) (by decide)) (Nat.le_of_ble_eq_true rfl) rfl (fun ls hl => ?_)
  have hl : lv_has ls 11 [(10, .int (x10 + 1)), (8, .int o1), (9, .int y0), (0, .ref (a0 0)), (1, .ref (a1 0)), (3, .ref (a2 0)), (4, .int x4), (5, .int x5), (7, .int x7)] := hl
  refine lv_goto (tgt := 81) hx hb d_Mr_fits_144 (by decide) ?_
  exact hk81 (s0, x4, x5, x7, o1, y0, (x10 + 1)) _ _ _ (lv_sub hl [3, 4, 5, 6, 7, 8, 1, 2, 0] rfl) hI hS h
set_option maxRecDepth 100000 in
set_option maxHeartbeats 4000000 in
theorem t_Mr_fits0_130 {p : Program} {l : Launch} {e : Env} {s : State} {m : MethodId} {args : Array Value} {below : List Frame} {meth : Method} {c : Code} {D : va_G} {A : Nat → Prop} {g : Nat → ClassId} {rest : va_W} {a0 : Nat → Nat} {a1 : Nat → Nat} {a2 : Nat → Nat} {ls : Array Slot} {H : Heap} {locs : List Loc} {k81 : S_Mr × Int32 × Int32 × Int32 × Int32 × Int32 × Int32 → Option (Int32 × S_Mr)} {s1 : S_Tr} {s2 : S_Tr} {s0 : S_Mr} {x4 : Int32} {x5 : Int32} {x7 : Int32} {x8 : Int32} {x10 : Int32} {out : Int32 × S_Mr} (X : Cx p s m args meth c prog_4_method_3_code 11 ws_Mr_fits0 R_Mr (some .boolean) D g) (hk81 : ∀ (v : S_Mr × Int32 × Int32 × Int32 × Int32 × Int32 × Int32) (ls : Array Slot) (H : Heap) (locs : List Loc), lv_has ls 11 [(0, .ref (a0 0)), (1, .ref (a1 0)), (3, .ref (a2 0)), (4, .int v.2.1), (5, .int v.2.2.1), (7, .int v.2.2.2.1), (8, .int v.2.2.2.2.1), (9, .int v.2.2.2.2.2.1), (10, .int v.2.2.2.2.2.2)] → Iw D A (w_Mr g a0 v.1 ++ (w_Tr g a1 s1 ++ (w_Tr g a2 s2 ++ (rest)))) H → va_S A s.heap H locs → k81 v = some out → W p l e (headSpec ws_Mr_fits0 { frames := 6, cells := 0, slots := 0, locals := 169 }).room s m args below meth c H locs 0 0 (MQ below (QcI D A g out.1 (fun (_ : Unit) => w_Mr g a0 out.2 ++ (w_Tr g a1 s1 ++ (w_Tr g a2 s2 ++ (rest))))) args s 0 0 A) (F0 m 81 ls [])) (hl : lv_has ls 11 [(0, .ref (a0 0)), (1, .ref (a1 0)), (3, .ref (a2 0)), (4, .int x4), (5, .int x5), (7, .int x7), (8, .int x8), (10, .int x10)]) (hI : Iw D A (w_Mr g a0 s0 ++ (w_Tr g a1 s1 ++ (w_Tr g a2 s2 ++ (rest)))) H) (hS : va_S A s.heap H locs) (h : B_Mr_fits0_130 k81 s1 s2 s0 x4 x5 x7 x8 x10 = some out) : W p l e (headSpec ws_Mr_fits0 { frames := 6, cells := 0, slots := 0, locals := 169 }).room s m args below meth c H locs 0 0 (MQ below (QcI D A g out.1 (fun (_ : Unit) => w_Mr g a0 out.2 ++ (w_Tr g a1 s1 ++ (w_Tr g a2 s2 ++ (rest))))) args s 0 0 A) (F0 m 130 ls []) := by
  have X1 := X
  obtain ⟨hx, hb, hml, hown, hts, hr, hlocks, hKK⟩ := X1
  have ht : ∀ w ∈ TB, w.before args s = true := fun w h => hts w (List.mem_cons_of_mem _ h)
  have hK := hKK.1
  unfold B_Mr_fits0_130 at h
  refine lv_iconst (v := 0) hx hb d_Mr_fits_130 (by decide) ?_
  exact t_Mr_fits0_131 X hk81 (lv_sub hl [0, 1, 2, 3, 4, 5, 6, 7] rfl) hI hS h
set_option maxRecDepth 100000 in
set_option maxHeartbeats 4000000 in
theorem t_Mr_fits0_126 {p : Program} {l : Launch} {e : Env} {s : State} {m : MethodId} {args : Array Value} {below : List Frame} {meth : Method} {c : Code} {D : va_G} {A : Nat → Prop} {g : Nat → ClassId} {rest : va_W} {a0 : Nat → Nat} {a1 : Nat → Nat} {a2 : Nat → Nat} {ls : Array Slot} {H : Heap} {locs : List Loc} {k81 : S_Mr × Int32 × Int32 × Int32 × Int32 × Int32 × Int32 → Option (Int32 × S_Mr)} {s1 : S_Tr} {s2 : S_Tr} {s0 : S_Mr} {x4 : Int32} {x5 : Int32} {x7 : Int32} {x8 : Int32} {x10 : Int32} {out : Int32 × S_Mr} (X : Cx p s m args meth c prog_4_method_3_code 11 ws_Mr_fits0 R_Mr (some .boolean) D g) (hk81 : ∀ (v : S_Mr × Int32 × Int32 × Int32 × Int32 × Int32 × Int32) (ls : Array Slot) (H : Heap) (locs : List Loc), lv_has ls 11 [(0, .ref (a0 0)), (1, .ref (a1 0)), (3, .ref (a2 0)), (4, .int v.2.1), (5, .int v.2.2.1), (7, .int v.2.2.2.1), (8, .int v.2.2.2.2.1), (9, .int v.2.2.2.2.2.1), (10, .int v.2.2.2.2.2.2)] → Iw D A (w_Mr g a0 v.1 ++ (w_Tr g a1 s1 ++ (w_Tr g a2 s2 ++ (rest)))) H → va_S A s.heap H locs → k81 v = some out → W p l e (headSpec ws_Mr_fits0 { frames := 6, cells := 0, slots := 0, locals := 169 }).room s m args below meth c H locs 0 0 (MQ below (QcI D A g out.1 (fun (_ : Unit) => w_Mr g a0 out.2 ++ (w_Tr g a1 s1 ++ (w_Tr g a2 s2 ++ (rest))))) args s 0 0 A) (F0 m 81 ls [])) (hl : lv_has ls 11 [(0, .ref (a0 0)), (1, .ref (a1 0)), (3, .ref (a2 0)), (4, .int x4), (5, .int x5), (7, .int x7), (8, .int x8), (10, .int x10)]) (hI : Iw D A (w_Mr g a0 s0 ++ (w_Tr g a1 s1 ++ (w_Tr g a2 s2 ++ (rest)))) H) (hS : va_S A s.heap H locs) (h : B_Mr_fits0_126 k81 s1 s2 s0 x4 x5 x7 x8 x10 = some out) : W p l e (headSpec ws_Mr_fits0 { frames := 6, cells := 0, slots := 0, locals := 169 }).room s m args below meth c H locs 0 0 (MQ below (QcI D A g out.1 (fun (_ : Unit) => w_Mr g a0 out.2 ++ (w_Tr g a1 s1 ++ (w_Tr g a2 s2 ++ (rest))))) args s 0 0 A) (F0 m 126 ls []) := by
  have X1 := X
  obtain ⟨hx, hb, hml, hown, hts, hr, hlocks, hKK⟩ := X1
  have ht : ∀ w ∈ TB, w.before args s = true := fun w h => hts w (List.mem_cons_of_mem _ h)
  have hK := hKK.1
  unfold B_Mr_fits0_126 at h
  refine lv_iconst (v := 1) hx hb d_Mr_fits_126 (by decide) ?_
  refine lv_goto (tgt := 131) hx hb d_Mr_fits_127 (by decide) ?_
  exact t_Mr_fits0_131 X hk81 (lv_sub hl [0, 1, 2, 3, 4, 5, 6, 7] rfl) hI hS h
set_option maxRecDepth 100000 in
set_option maxHeartbeats 4000000 in
theorem t_Mr_fits0_109 {p : Program} {l : Launch} {e : Env} {s : State} {m : MethodId} {args : Array Value} {below : List Frame} {meth : Method} {c : Code} {D : va_G} {A : Nat → Prop} {g : Nat → ClassId} {rest : va_W} {a0 : Nat → Nat} {a1 : Nat → Nat} {a2 : Nat → Nat} {ls : Array Slot} {H : Heap} {locs : List Loc} {k81 : S_Mr × Int32 × Int32 × Int32 × Int32 × Int32 × Int32 → Option (Int32 × S_Mr)} {s1 : S_Tr} {s2 : S_Tr} {s0 : S_Mr} {x4 : Int32} {x5 : Int32} {x7 : Int32} {x8 : Int32} {x10 : Int32} {out : Int32 × S_Mr} (X : Cx p s m args meth c prog_4_method_3_code 11 ws_Mr_fits0 R_Mr (some .boolean) D g) (hk81 : ∀ (v : S_Mr × Int32 × Int32 × Int32 × Int32 × Int32 × Int32) (ls : Array Slot) (H : Heap) (locs : List Loc), lv_has ls 11 [(0, .ref (a0 0)), (1, .ref (a1 0)), (3, .ref (a2 0)), (4, .int v.2.1), (5, .int v.2.2.1), (7, .int v.2.2.2.1), (8, .int v.2.2.2.2.1), (9, .int v.2.2.2.2.2.1), (10, .int v.2.2.2.2.2.2)] → Iw D A (w_Mr g a0 v.1 ++ (w_Tr g a1 s1 ++ (w_Tr g a2 s2 ++ (rest)))) H → va_S A s.heap H locs → k81 v = some out → W p l e (headSpec ws_Mr_fits0 { frames := 6, cells := 0, slots := 0, locals := 169 }).room s m args below meth c H locs 0 0 (MQ below (QcI D A g out.1 (fun (_ : Unit) => w_Mr g a0 out.2 ++ (w_Tr g a1 s1 ++ (w_Tr g a2 s2 ++ (rest))))) args s 0 0 A) (F0 m 81 ls [])) (hl : lv_has ls 11 [(0, .ref (a0 0)), (1, .ref (a1 0)), (3, .ref (a2 0)), (4, .int x4), (5, .int x5), (7, .int x7), (8, .int x8), (10, .int x10)]) (hI : Iw D A (w_Mr g a0 s0 ++ (w_Tr g a1 s1 ++ (w_Tr g a2 s2 ++ (rest)))) H) (hS : va_S A s.heap H locs) (h : B_Mr_fits0_109 k81 s1 s2 s0 x4 x5 x7 x8 x10 = some out) : W p l e (headSpec ws_Mr_fits0 { frames := 6, cells := 0, slots := 0, locals := 169 }).room s m args below meth c H locs 0 0 (MQ below (QcI D A g out.1 (fun (_ : Unit) => w_Mr g a0 out.2 ++ (w_Tr g a1 s1 ++ (w_Tr g a2 s2 ++ (rest))))) args s 0 0 A) (F0 m 109 ls []) := by
  have X1 := X
  obtain ⟨hx, hb, hml, hown, hts, hr, hlocks, hKK⟩ := X1
  have ht : ∀ w ∈ TB, w.before args s = true := fun w h => hts w (List.mem_cons_of_mem _ h)
  have hK := hKK.1
  unfold B_Mr_fits0_109 at h
  refine lv_aload_n hx hb d_Mr_fits_109 rfl (lv_at hl 0 rfl) ?_
  refine lv_aload_n hx hb d_Mr_fits_110 rfl (lv_at hl 1 rfl) ?_
  refine lv_iload hx hb d_Mr_fits_111 (lv_at hl 5 rfl) ?_
  refine lv_aload_n hx hb d_Mr_fits_113 rfl (lv_at hl 2 rfl) ?_
  refine lv_iload hx hb d_Mr_fits_114 (lv_at hl 6 rfl) ?_
  refine lv_iload hx hb d_Mr_fits_116 (lv_at hl 4 rfl) ?_
  refine lv_iconst (v := 1) hx hb d_Mr_fits_118 (by decide) ?_
  refine lv_iadd hx hb d_Mr_fits_119 ?_
  obtain ⟨o1, ho2, h⟩ := bd_s h
  refine cl_i (W1 := fun (_ : Unit) => w_Mr g a0 o1.2 ++ (w_Tr g a1 s1 ++ (w_Tr g a2 s2 ++ (rest)))) (va_runV (As := [.ref (a1 0), .int x7, .ref (a2 0), .int x8, .int (x5 + (1 : Int32))]) (rest := []) ⟨hx, hb, hml, hown, ht⟩ (c_Mr_matches1 (l := l) (D := D) (A := A) (g := g) (rest := rest) (a0 := a0) (a1 := a1) (a2 := a2) ho2) (cwV 5 ht (gd_V m_638 m_620 mp_33 m_10 m_621) rfl rfl rfl (by decide +kernel) ⟨(Nat.le_of_ble_eq_true rfl), (Nat.le_of_ble_eq_true rfl)⟩) (prV (ci := 2) (q0 := 0) hKK hI ((mv_2).trans ((mv_2).trans (mv_2))) rfl rfl rfl) rfl rfl hl.1 rfl (lv_room (Nat.le_of_ble_eq_true rfl)) d_Mr_fits_120 ⟨(Nat.le_of_ble_eq_true rfl), (Nat.le_of_ble_eq_true rfl)⟩) hS (fun _ => (((mv_2).trans ((mv_2).trans (mv_2)))).symm) (fun _ H locs hI hS => ?_)
  have hI : Iw D A (w_Mr g a0 o1.2 ++ (w_Tr g a1 s1 ++ (w_Tr g a2 s2 ++ (rest)))) H := hI
  refine lv_if_eq (tgt := 130) hx hb d_Mr_fits_123 (by decide) (fun hc => ?_) (fun hc => ?_)
  · have h := it_t h hc
    exact t_Mr_fits0_130 X hk81 (lv_sub hl [0, 1, 2, 3, 4, 5, 6, 7] rfl) hI hS h
  · have h := it_f h hc
    exact t_Mr_fits0_126 X hk81 (lv_sub hl [0, 1, 2, 3, 4, 5, 6, 7] rfl) hI hS h
set_option maxRecDepth 100000 in
set_option maxHeartbeats 4000000 in
theorem t_Mr_fits0_103 {p : Program} {l : Launch} {e : Env} {s : State} {m : MethodId} {args : Array Value} {below : List Frame} {meth : Method} {c : Code} {D : va_G} {A : Nat → Prop} {g : Nat → ClassId} {rest : va_W} {a0 : Nat → Nat} {a1 : Nat → Nat} {a2 : Nat → Nat} {ls : Array Slot} {H : Heap} {locs : List Loc} {k81 : S_Mr × Int32 × Int32 × Int32 × Int32 × Int32 × Int32 → Option (Int32 × S_Mr)} {s1 : S_Tr} {s2 : S_Tr} {s0 : S_Mr} {x4 : Int32} {x5 : Int32} {x7 : Int32} {x8 : Int32} {x10 : Int32} {out : Int32 × S_Mr} (X : Cx p s m args meth c prog_4_method_3_code 11 ws_Mr_fits0 R_Mr (some .boolean) D g) (hk81 : ∀ (v : S_Mr × Int32 × Int32 × Int32 × Int32 × Int32 × Int32) (ls : Array Slot) (H : Heap) (locs : List Loc), lv_has ls 11 [(0, .ref (a0 0)), (1, .ref (a1 0)), (3, .ref (a2 0)), (4, .int v.2.1), (5, .int v.2.2.1), (7, .int v.2.2.2.1), (8, .int v.2.2.2.2.1), (9, .int v.2.2.2.2.2.1), (10, .int v.2.2.2.2.2.2)] → Iw D A (w_Mr g a0 v.1 ++ (w_Tr g a1 s1 ++ (w_Tr g a2 s2 ++ (rest)))) H → va_S A s.heap H locs → k81 v = some out → W p l e (headSpec ws_Mr_fits0 { frames := 6, cells := 0, slots := 0, locals := 169 }).room s m args below meth c H locs 0 0 (MQ below (QcI D A g out.1 (fun (_ : Unit) => w_Mr g a0 out.2 ++ (w_Tr g a1 s1 ++ (w_Tr g a2 s2 ++ (rest))))) args s 0 0 A) (F0 m 81 ls [])) (hl : lv_has ls 11 [(0, .ref (a0 0)), (1, .ref (a1 0)), (3, .ref (a2 0)), (4, .int x4), (5, .int x5), (7, .int x7), (8, .int x8), (10, .int x10)]) (hI : Iw D A (w_Mr g a0 s0 ++ (w_Tr g a1 s1 ++ (w_Tr g a2 s2 ++ (rest)))) H) (hS : va_S A s.heap H locs) (h : B_Mr_fits0_103 k81 s1 s2 s0 x4 x5 x7 x8 x10 = some out) : W p l e (headSpec ws_Mr_fits0 { frames := 6, cells := 0, slots := 0, locals := 169 }).room s m args below meth c H locs 0 0 (MQ below (QcI D A g out.1 (fun (_ : Unit) => w_Mr g a0 out.2 ++ (w_Tr g a1 s1 ++ (w_Tr g a2 s2 ++ (rest))))) args s 0 0 A) (F0 m 103 ls []) := by
  have X1 := X
  obtain ⟨hx, hb, hml, hown, hts, hr, hlocks, hKK⟩ := X1
  have ht : ∀ w ∈ TB, w.before args s = true := fun w h => hts w (List.mem_cons_of_mem _ h)
  have hK := hKK.1
  unfold B_Mr_fits0_103 at h
  refine lv_iload hx hb d_Mr_fits_103 (lv_at hl 4 rfl) ?_
  refine lv_iconst (v := 2) hx hb d_Mr_fits_105 (by decide) ?_
  refine lv_icmp_ge (tgt := 130) hx hb d_Mr_fits_106 (by decide) (fun hc => ?_) (fun hc => ?_)
  · have h := it_t h hc
    exact t_Mr_fits0_130 X hk81 (lv_sub hl [0, 1, 2, 3, 4, 5, 6, 7] rfl) hI hS h
  · have h := it_f h hc
    exact t_Mr_fits0_109 X hk81 (lv_sub hl [0, 1, 2, 3, 4, 5, 6, 7] rfl) hI hS h
set_option maxRecDepth 100000 in
set_option maxHeartbeats 4000000 in
theorem t_Mr_fits0_98 {p : Program} {l : Launch} {e : Env} {s : State} {m : MethodId} {args : Array Value} {below : List Frame} {meth : Method} {c : Code} {D : va_G} {A : Nat → Prop} {g : Nat → ClassId} {rest : va_W} {a0 : Nat → Nat} {a1 : Nat → Nat} {a2 : Nat → Nat} {ls : Array Slot} {H : Heap} {locs : List Loc} {k81 : S_Mr × Int32 × Int32 × Int32 × Int32 × Int32 × Int32 → Option (Int32 × S_Mr)} {s1 : S_Tr} {s2 : S_Tr} {s0 : S_Mr} {x4 : Int32} {x5 : Int32} {x7 : Int32} {x8 : Int32} {x9 : Int32} {x10 : Int32} {out : Int32 × S_Mr} (X : Cx p s m args meth c prog_4_method_3_code 11 ws_Mr_fits0 R_Mr (some .boolean) D g) (hk81 : ∀ (v : S_Mr × Int32 × Int32 × Int32 × Int32 × Int32 × Int32) (ls : Array Slot) (H : Heap) (locs : List Loc), lv_has ls 11 [(0, .ref (a0 0)), (1, .ref (a1 0)), (3, .ref (a2 0)), (4, .int v.2.1), (5, .int v.2.2.1), (7, .int v.2.2.2.1), (8, .int v.2.2.2.2.1), (9, .int v.2.2.2.2.2.1), (10, .int v.2.2.2.2.2.2)] → Iw D A (w_Mr g a0 v.1 ++ (w_Tr g a1 s1 ++ (w_Tr g a2 s2 ++ (rest)))) H → va_S A s.heap H locs → k81 v = some out → W p l e (headSpec ws_Mr_fits0 { frames := 6, cells := 0, slots := 0, locals := 169 }).room s m args below meth c H locs 0 0 (MQ below (QcI D A g out.1 (fun (_ : Unit) => w_Mr g a0 out.2 ++ (w_Tr g a1 s1 ++ (w_Tr g a2 s2 ++ (rest))))) args s 0 0 A) (F0 m 81 ls [])) (hl : lv_has ls 11 [(0, .ref (a0 0)), (1, .ref (a1 0)), (3, .ref (a2 0)), (4, .int x4), (5, .int x5), (7, .int x7), (8, .int x8), (9, .int x9), (10, .int x10)]) (hI : Iw D A (w_Mr g a0 s0 ++ (w_Tr g a1 s1 ++ (w_Tr g a2 s2 ++ (rest)))) H) (hS : va_S A s.heap H locs) (h : B_Mr_fits0_98 k81 s1 s2 s0 x4 x5 x7 x8 x9 x10 = some out) : W p l e (headSpec ws_Mr_fits0 { frames := 6, cells := 0, slots := 0, locals := 169 }).room s m args below meth c H locs 0 0 (MQ below (QcI D A g out.1 (fun (_ : Unit) => w_Mr g a0 out.2 ++ (w_Tr g a1 s1 ++ (w_Tr g a2 s2 ++ (rest))))) args s 0 0 A) (F0 m 98 ls []) := by
  have X1 := X
  obtain ⟨hx, hb, hml, hown, hts, hr, hlocks, hKK⟩ := X1
  have ht : ∀ w ∈ TB, w.before args s = true := fun w h => hts w (List.mem_cons_of_mem _ h)
  have hK := hKK.1
  unfold B_Mr_fits0_98 at h
  refine lv_iload hx hb d_Mr_fits_98 (lv_at hl 7 rfl) ?_
  refine lv_if_ne (tgt := 147) hx hb d_Mr_fits_100 (by decide) (fun hc => ?_) (fun hc => ?_)
  · have h := it_f h hc
    exact t_Mr_fits0_147 X (lv_sub hl [7] rfl) hI hS h
  · have h := it_t h hc
    exact t_Mr_fits0_103 X hk81 (lv_sub hl [0, 1, 2, 3, 4, 5, 6, 8] rfl) hI hS h
set_option maxRecDepth 100000 in
set_option maxHeartbeats 4000000 in
theorem t_Mr_fits0_87 {p : Program} {l : Launch} {e : Env} {s : State} {m : MethodId} {args : Array Value} {below : List Frame} {meth : Method} {c : Code} {D : va_G} {A : Nat → Prop} {g : Nat → ClassId} {rest : va_W} {a0 : Nat → Nat} {a1 : Nat → Nat} {a2 : Nat → Nat} {ls : Array Slot} {H : Heap} {locs : List Loc} {k81 : S_Mr × Int32 × Int32 × Int32 × Int32 × Int32 × Int32 → Option (Int32 × S_Mr)} {s1 : S_Tr} {s2 : S_Tr} {s0 : S_Mr} {x4 : Int32} {x5 : Int32} {x7 : Int32} {x8 : Int32} {x9 : Int32} {x10 : Int32} {out : Int32 × S_Mr} (X : Cx p s m args meth c prog_4_method_3_code 11 ws_Mr_fits0 R_Mr (some .boolean) D g) (hk81 : ∀ (v : S_Mr × Int32 × Int32 × Int32 × Int32 × Int32 × Int32) (ls : Array Slot) (H : Heap) (locs : List Loc), lv_has ls 11 [(0, .ref (a0 0)), (1, .ref (a1 0)), (3, .ref (a2 0)), (4, .int v.2.1), (5, .int v.2.2.1), (7, .int v.2.2.2.1), (8, .int v.2.2.2.2.1), (9, .int v.2.2.2.2.2.1), (10, .int v.2.2.2.2.2.2)] → Iw D A (w_Mr g a0 v.1 ++ (w_Tr g a1 s1 ++ (w_Tr g a2 s2 ++ (rest)))) H → va_S A s.heap H locs → k81 v = some out → W p l e (headSpec ws_Mr_fits0 { frames := 6, cells := 0, slots := 0, locals := 169 }).room s m args below meth c H locs 0 0 (MQ below (QcI D A g out.1 (fun (_ : Unit) => w_Mr g a0 out.2 ++ (w_Tr g a1 s1 ++ (w_Tr g a2 s2 ++ (rest))))) args s 0 0 A) (F0 m 81 ls [])) (hl : lv_has ls 11 [(0, .ref (a0 0)), (1, .ref (a1 0)), (3, .ref (a2 0)), (4, .int x4), (5, .int x5), (7, .int x7), (8, .int x8), (9, .int x9), (10, .int x10)]) (hI : Iw D A (w_Mr g a0 s0 ++ (w_Tr g a1 s1 ++ (w_Tr g a2 s2 ++ (rest)))) H) (hS : va_S A s.heap H locs) (h : B_Mr_fits0_87 k81 s1 s2 s0 x4 x5 x7 x8 x9 x10 = some out) : W p l e (headSpec ws_Mr_fits0 { frames := 6, cells := 0, slots := 0, locals := 169 }).room s m args below meth c H locs 0 0 (MQ below (QcI D A g out.1 (fun (_ : Unit) => w_Mr g a0 out.2 ++ (w_Tr g a1 s1 ++ (w_Tr g a2 s2 ++ (rest))))) args s 0 0 A) (F0 m 87 ls []) := by
  have X1 := X
  obtain ⟨hx, hb, hml, hown, hts, hr, hlocks, hKK⟩ := X1
  have ht : ∀ w ∈ TB, w.before args s = true := fun w h => hts w (List.mem_cons_of_mem _ h)
  have hK := hKK.1
  unfold B_Mr_fits0_87 at h
  refine lv_iload hx hb d_Mr_fits_87 (lv_at hl 6 rfl) ?_
  refine lv_aload_n hx hb d_Mr_fits_89 rfl (lv_at hl 2 rfl) ?_
  refine lv_iload hx hb d_Mr_fits_90 (lv_at hl 3 rfl) ?_
  obtain ⟨o1, ho2, h⟩ := bd_s h
  refine cl_i (W1 := fun (_ : Unit) => w_Mr g a0 s0 ++ (w_Tr g a1 s1 ++ (w_Tr g a2 s2 ++ (rest)))) (va_runV (As := [.int x4]) (rest := [.int x8]) ⟨hx, hb, hml, hown, ht⟩ (c_Tr_behind (l := l) (D := D) (A := A) (g := g) (rest := w_Mr g a0 s0 ++ (w_Tr g a1 s1 ++ (rest))) (a0 := a2) ho2) (cwV 1 ht (gd_V m_622 m_508 m_509 m_9 m_510) rfl rfl rfl (by decide +kernel) ⟨(Nat.le_of_ble_eq_true rfl), (Nat.le_of_ble_eq_true rfl)⟩) (prV (ci := 7) (q0 := 0) hKK hI (mv_2) rfl rfl rfl) rfl rfl hl.1 rfl (lv_room (Nat.le_of_ble_eq_true rfl)) d_Mr_fits_92 ⟨(Nat.le_of_ble_eq_true rfl), (Nat.le_of_ble_eq_true rfl)⟩) hS (fun _ => ((mv_2)).symm) (fun _ H locs hI hS => ?_)
  have hI : Iw D A (w_Mr g a0 s0 ++ (w_Tr g a1 s1 ++ (w_Tr g a2 s2 ++ (rest)))) H := hI
  refine lv_icmp_ge (tgt := 147) hx hb d_Mr_fits_95 (by decide) (fun hc => ?_) (fun hc => ?_)
  · have h := it_t h hc
    exact t_Mr_fits0_147 X (lv_sub hl [7] rfl) hI hS h
  · have h := it_f h hc
    exact t_Mr_fits0_98 X hk81 (lv_sub hl [0, 1, 2, 3, 4, 5, 6, 7, 8] rfl) hI hS h
set_option maxRecDepth 100000 in
set_option maxHeartbeats 4000000 in
theorem t_Mr_fits0_81 {p : Program} {l : Launch} {e : Env} {s : State} {m : MethodId} {args : Array Value} {below : List Frame} {meth : Method} {c : Code} {D : va_G} {A : Nat → Prop} {g : Nat → ClassId} {rest : va_W} {a0 : Nat → Nat} {a1 : Nat → Nat} {a2 : Nat → Nat} {ls : Array Slot} {H : Heap} {locs : List Loc} {k81 : S_Mr × Int32 × Int32 × Int32 × Int32 × Int32 × Int32 → Option (Int32 × S_Mr)} {s1 : S_Tr} {s2 : S_Tr} {s0 : S_Mr} {x4 : Int32} {x5 : Int32} {x7 : Int32} {x8 : Int32} {x9 : Int32} {x10 : Int32} {out : Int32 × S_Mr} (X : Cx p s m args meth c prog_4_method_3_code 11 ws_Mr_fits0 R_Mr (some .boolean) D g) (hk81 : ∀ (v : S_Mr × Int32 × Int32 × Int32 × Int32 × Int32 × Int32) (ls : Array Slot) (H : Heap) (locs : List Loc), lv_has ls 11 [(0, .ref (a0 0)), (1, .ref (a1 0)), (3, .ref (a2 0)), (4, .int v.2.1), (5, .int v.2.2.1), (7, .int v.2.2.2.1), (8, .int v.2.2.2.2.1), (9, .int v.2.2.2.2.2.1), (10, .int v.2.2.2.2.2.2)] → Iw D A (w_Mr g a0 v.1 ++ (w_Tr g a1 s1 ++ (w_Tr g a2 s2 ++ (rest)))) H → va_S A s.heap H locs → k81 v = some out → W p l e (headSpec ws_Mr_fits0 { frames := 6, cells := 0, slots := 0, locals := 169 }).room s m args below meth c H locs 0 0 (MQ below (QcI D A g out.1 (fun (_ : Unit) => w_Mr g a0 out.2 ++ (w_Tr g a1 s1 ++ (w_Tr g a2 s2 ++ (rest))))) args s 0 0 A) (F0 m 81 ls [])) (hl : lv_has ls 11 [(0, .ref (a0 0)), (1, .ref (a1 0)), (3, .ref (a2 0)), (4, .int x4), (5, .int x5), (7, .int x7), (8, .int x8), (9, .int x9), (10, .int x10)]) (hI : Iw D A (w_Mr g a0 s0 ++ (w_Tr g a1 s1 ++ (w_Tr g a2 s2 ++ (rest)))) H) (hS : va_S A s.heap H locs) (h : B_Mr_fits0_81 k81 s1 s2 s0 x4 x5 x7 x8 x9 x10 = some out) : W p l e (headSpec ws_Mr_fits0 { frames := 6, cells := 0, slots := 0, locals := 169 }).room s m args below meth c H locs 0 0 (MQ below (QcI D A g out.1 (fun (_ : Unit) => w_Mr g a0 out.2 ++ (w_Tr g a1 s1 ++ (w_Tr g a2 s2 ++ (rest))))) args s 0 0 A) (F0 m 81 ls []) := by
  have X1 := X
  obtain ⟨hx, hb, hml, hown, hts, hr, hlocks, hKK⟩ := X1
  have ht : ∀ w ∈ TB, w.before args s = true := fun w h => hts w (List.mem_cons_of_mem _ h)
  have hK := hKK.1
  unfold B_Mr_fits0_81 at h
  refine lv_iload hx hb d_Mr_fits_81 (lv_at hl 8 rfl) ?_
  refine lv_iconst (v := 4) hx hb d_Mr_fits_83 (by decide) ?_
  refine lv_icmp_ge (tgt := 147) hx hb d_Mr_fits_84 (by decide) (fun hc => ?_) (fun hc => ?_)
  · have h := it_t h hc
    exact t_Mr_fits0_147 X (lv_sub hl [7] rfl) hI hS h
  · have h := it_f h hc
    exact t_Mr_fits0_87 X hk81 (lv_sub hl [0, 1, 2, 3, 4, 5, 6, 7, 8] rfl) hI hS h
set_option maxRecDepth 100000 in
set_option maxHeartbeats 4000000 in
theorem T_Mr_fits0_81 {p : Program} {l : Launch} {e : Env} {s : State} {m : MethodId} {args : Array Value} {below : List Frame} {meth : Method} {c : Code} {D : va_G} {A : Nat → Prop} {g : Nat → ClassId} {rest : va_W} {a0 : Nat → Nat} {a1 : Nat → Nat} {a2 : Nat → Nat} {ls : Array Slot} {H : Heap} {locs : List Loc} {s1 : S_Tr} {s2 : S_Tr} {s0 : S_Mr} {x4 : Int32} {x5 : Int32} {x7 : Int32} {x8 : Int32} {x9 : Int32} {x10 : Int32} {out : Int32 × S_Mr} (X : Cx p s m args meth c prog_4_method_3_code 11 ws_Mr_fits0 R_Mr (some .boolean) D g) (hl : lv_has ls 11 [(0, .ref (a0 0)), (1, .ref (a1 0)), (3, .ref (a2 0)), (4, .int x4), (5, .int x5), (7, .int x7), (8, .int x8), (9, .int x9), (10, .int x10)]) (hI : Iw D A (w_Mr g a0 s0 ++ (w_Tr g a1 s1 ++ (w_Tr g a2 s2 ++ (rest)))) H) (hS : va_S A s.heap H locs) (h : L_Mr_fits0_81  s1 s2 (s0, x4, x5, x7, x8, x9, x10) = some out) : W p l e (headSpec ws_Mr_fits0 { frames := 6, cells := 0, slots := 0, locals := 169 }).room s m args below meth c H locs 0 0 (MQ below (QcI D A g out.1 (fun (_ : Unit) => w_Mr g a0 out.2 ++ (w_Tr g a1 s1 ++ (w_Tr g a2 s2 ++ (rest))))) args s 0 0 A) (F0 m 81 ls []) := by
  unfold L_Mr_fits0_81 at h
  exact lp_ind (P := fun v => ∀ (ls : Array Slot) (H : Heap) (locs : List Loc), lv_has ls 11 [(0, .ref (a0 0)), (1, .ref (a1 0)), (3, .ref (a2 0)), (4, .int v.2.1), (5, .int v.2.2.1), (7, .int v.2.2.2.1), (8, .int v.2.2.2.2.1), (9, .int v.2.2.2.2.2.1), (10, .int v.2.2.2.2.2.2)] → Iw D A (w_Mr g a0 v.1 ++ (w_Tr g a1 s1 ++ (w_Tr g a2 s2 ++ (rest)))) H → va_S A s.heap H locs → W p l e (headSpec ws_Mr_fits0 { frames := 6, cells := 0, slots := 0, locals := 169 }).room s m args below meth c H locs 0 0 (MQ below (QcI D A g out.1 (fun (_ : Unit) => w_Mr g a0 out.2 ++ (w_Tr g a1 s1 ++ (w_Tr g a2 s2 ++ (rest))))) args s 0 0 A) (F0 m 81 ls [])) (fun k v ih hb ls H locs  hl hI hS => t_Mr_fits0_81 X  (fun v' ls H locs  hl hI hS h' => ih v' h' ls H locs  hl hI hS) hl hI hS hb) FU _ h ls H locs  hl hI hS
set_option maxRecDepth 100000 in
set_option maxHeartbeats 4000000 in
theorem t_Mr_fits0_69 {p : Program} {l : Launch} {e : Env} {s : State} {m : MethodId} {args : Array Value} {below : List Frame} {meth : Method} {c : Code} {D : va_G} {A : Nat → Prop} {g : Nat → ClassId} {rest : va_W} {a0 : Nat → Nat} {a1 : Nat → Nat} {a2 : Nat → Nat} {ls : Array Slot} {H : Heap} {locs : List Loc} {s1 : S_Tr} {s2 : S_Tr} {s0 : S_Mr} {x4 : Int32} {x5 : Int32} {x7 : Int32} {out : Int32 × S_Mr} (X : Cx p s m args meth c prog_4_method_3_code 11 ws_Mr_fits0 R_Mr (some .boolean) D g) (hl : lv_has ls 11 [(0, .ref (a0 0)), (1, .ref (a1 0)), (3, .ref (a2 0)), (4, .int x4), (5, .int x5), (7, .int x7)]) (hI : Iw D A (w_Mr g a0 s0 ++ (w_Tr g a1 s1 ++ (w_Tr g a2 s2 ++ (rest)))) H) (hS : va_S A s.heap H locs) (h : B_Mr_fits0_69  s1 s2 s0 x4 x5 x7 = some out) : W p l e (headSpec ws_Mr_fits0 { frames := 6, cells := 0, slots := 0, locals := 169 }).room s m args below meth c H locs 0 0 (MQ below (QcI D A g out.1 (fun (_ : Unit) => w_Mr g a0 out.2 ++ (w_Tr g a1 s1 ++ (w_Tr g a2 s2 ++ (rest))))) args s 0 0 A) (F0 m 69 ls []) := by
  have X1 := X
  obtain ⟨hx, hb, hml, hown, hts, hr, hlocks, hKK⟩ := X1
  have ht : ∀ w ∈ TB, w.before args s = true := fun w h => hts w (List.mem_cons_of_mem _ h)
  have hK := hKK.1
  unfold B_Mr_fits0_69 at h
  refine lv_iload hx hb d_Mr_fits_69 (lv_at hl 3 rfl) ?_
  refine lv_iconst (v := 1) hx hb d_Mr_fits_71 (by decide) ?_
  refine lv_iadd hx hb d_Mr_fits_72 ?_
  refine lv_istore hx hb d_Mr_fits_73 hl (Nat.le_of_ble_eq_true rfl) rfl (fun ls hl => ?_)
  have hl : lv_has ls 11 [(8, .int (x4 + (1 : Int32))), (0, .ref (a0 0)), (1, .ref (a1 0)), (3, .ref (a2 0)), (4, .int x4), (5, .int x5), (7, .int x7)] := hl
  refine lv_iconst (v := 0) hx hb d_Mr_fits_75 (by decide) ?_
  refine lv_istore hx hb d_Mr_fits_76 hl (Nat.le_of_ble_eq_true rfl) rfl (fun ls hl => ?_)
  have hl : lv_has ls 11 [(9, .int (0 : Int32)), (8, .int (x4 + (1 : Int32))), (0, .ref (a0 0)), (1, .ref (a1 0)), (3, .ref (a2 0)), (4, .int x4), (5, .int x5), (7, .int x7)] := hl
  refine lv_iconst (v := 0) hx hb d_Mr_fits_78 (by decide) ?_
  refine lv_istore hx hb d_Mr_fits_79 hl (Nat.le_of_ble_eq_true rfl) rfl (fun ls hl => ?_)
  have hl : lv_has ls 11 [(10, .int (0 : Int32)), (9, .int (0 : Int32)), (8, .int (x4 + (1 : Int32))), (0, .ref (a0 0)), (1, .ref (a1 0)), (3, .ref (a2 0)), (4, .int x4), (5, .int x5), (7, .int x7)] := hl
  exact T_Mr_fits0_81 X (lv_sub hl [3, 4, 5, 6, 7, 8, 2, 1, 0] rfl) hI hS h
set_option maxRecDepth 100000 in
set_option maxHeartbeats 4000000 in
theorem t_Mr_fits0_67 {p : Program} {l : Launch} {e : Env} {s : State} {m : MethodId} {args : Array Value} {below : List Frame} {meth : Method} {c : Code} {D : va_G} {A : Nat → Prop} {g : Nat → ClassId} {rest : va_W} {a0 : Nat → Nat} {a1 : Nat → Nat} {a2 : Nat → Nat} {ls : Array Slot} {H : Heap} {locs : List Loc} {s1 : S_Tr} {s2 : S_Tr} {s0 : S_Mr} {out : Int32 × S_Mr} (X : Cx p s m args meth c prog_4_method_3_code 11 ws_Mr_fits0 R_Mr (some .boolean) D g) (hl : lv_has ls 11 []) (hI : Iw D A (w_Mr g a0 s0 ++ (w_Tr g a1 s1 ++ (w_Tr g a2 s2 ++ (rest)))) H) (hS : va_S A s.heap H locs) (h : B_Mr_fits0_67  s1 s2 s0 = some out) : W p l e (headSpec ws_Mr_fits0 { frames := 6, cells := 0, slots := 0, locals := 169 }).room s m args below meth c H locs 0 0 (MQ below (QcI D A g out.1 (fun (_ : Unit) => w_Mr g a0 out.2 ++ (w_Tr g a1 s1 ++ (w_Tr g a2 s2 ++ (rest))))) args s 0 0 A) (F0 m 67 ls []) := by
  have X1 := X
  obtain ⟨hx, hb, hml, hown, hts, hr, hlocks, hKK⟩ := X1
  have ht : ∀ w ∈ TB, w.before args s = true := fun w h => hts w (List.mem_cons_of_mem _ h)
  have hK := hKK.1
  unfold B_Mr_fits0_67 at h
  refine lv_iconst (v := 1) hx hb d_Mr_fits_67 (by decide) ?_
  have h9 := Option.some.inj h
  subst h9
  exact W.zret (v := (1 : Int32)) hx hb hr rfl (fun t ht hW => ⟨⟨_, (), rfl, rfl, ⟨by rw [ht]; exact hI, hKK.moved hW⟩⟩, hS.F ht⟩) hS.2.2 d_Mr_fits_68
set_option maxRecDepth 100000 in
set_option maxHeartbeats 4000000 in
theorem t_Mr_fits0_52 {p : Program} {l : Launch} {e : Env} {s : State} {m : MethodId} {args : Array Value} {below : List Frame} {meth : Method} {c : Code} {D : va_G} {A : Nat → Prop} {g : Nat → ClassId} {rest : va_W} {a0 : Nat → Nat} {a1 : Nat → Nat} {a2 : Nat → Nat} {ls : Array Slot} {H : Heap} {locs : List Loc} {s1 : S_Tr} {s2 : S_Tr} {s0 : S_Mr} {x2 : Int32} {x4 : Int32} {x5 : Int32} {out : Int32 × S_Mr} (X : Cx p s m args meth c prog_4_method_3_code 11 ws_Mr_fits0 R_Mr (some .boolean) D g) (hl : lv_has ls 11 [(0, .ref (a0 0)), (1, .ref (a1 0)), (2, .int x2), (3, .ref (a2 0)), (4, .int x4), (5, .int x5)]) (hI : Iw D A (w_Mr g a0 s0 ++ (w_Tr g a1 s1 ++ (w_Tr g a2 s2 ++ (rest)))) H) (hS : va_S A s.heap H locs) (h : B_Mr_fits0_52  s1 s2 s0 x2 x4 x5 = some out) : W p l e (headSpec ws_Mr_fits0 { frames := 6, cells := 0, slots := 0, locals := 169 }).room s m args below meth c H locs 0 0 (MQ below (QcI D A g out.1 (fun (_ : Unit) => w_Mr g a0 out.2 ++ (w_Tr g a1 s1 ++ (w_Tr g a2 s2 ++ (rest))))) args s 0 0 A) (F0 m 52 ls []) := by
  have X1 := X
  obtain ⟨hx, hb, hml, hown, hts, hr, hlocks, hKK⟩ := X1
  have ht : ∀ w ∈ TB, w.before args s = true := fun w h => hts w (List.mem_cons_of_mem _ h)
  have hK := hKK.1
  unfold B_Mr_fits0_52 at h
  refine lv_iload_n hx hb d_Mr_fits_52 rfl (lv_at hl 2 rfl) ?_
  refine lv_iconst (v := 1) hx hb d_Mr_fits_53 (by decide) ?_
  refine lv_iadd hx hb d_Mr_fits_54 ?_
  refine lv_istore hx hb d_Mr_fits_55 hl (Nat.le_of_ble_eq_true rfl) rfl (fun ls hl => ?_)
  have hl : lv_has ls 11 [(7, .int (x2 + (1 : Int32))), (0, .ref (a0 0)), (1, .ref (a1 0)), (2, .int x2), (3, .ref (a2 0)), (4, .int x4), (5, .int x5)] := hl
  refine lv_iload hx hb d_Mr_fits_57 (lv_at hl 0 rfl) ?_
  refine lv_aload_n hx hb d_Mr_fits_59 rfl (lv_at hl 2 rfl) ?_
  refine lv_iload_n hx hb d_Mr_fits_60 rfl (lv_at hl 3 rfl) ?_
  obtain ⟨o1, ho2, h⟩ := bd_s h
  refine cl_i (W1 := fun (_ : Unit) => w_Mr g a0 s0 ++ (w_Tr g a1 s1 ++ (w_Tr g a2 s2 ++ (rest)))) (va_runV (As := [.int x2]) (rest := [.int (x2 + (1 : Int32))]) ⟨hx, hb, hml, hown, ht⟩ (c_Tr_behind (l := l) (D := D) (A := A) (g := g) (rest := w_Mr g a0 s0 ++ (w_Tr g a2 s2 ++ (rest))) (a0 := a1) ho2) (cwV 1 ht (gd_V m_622 m_508 m_509 m_9 m_510) rfl rfl rfl (by decide +kernel) ⟨(Nat.le_of_ble_eq_true rfl), (Nat.le_of_ble_eq_true rfl)⟩) (prV (ci := 7) (q0 := 0) hKK hI (mv_1) rfl rfl rfl) rfl rfl hl.1 rfl (lv_room (Nat.le_of_ble_eq_true rfl)) d_Mr_fits_61 ⟨(Nat.le_of_ble_eq_true rfl), (Nat.le_of_ble_eq_true rfl)⟩) hS (fun _ => ((mv_1)).symm) (fun _ H locs hI hS => ?_)
  have hI : Iw D A (w_Mr g a0 s0 ++ (w_Tr g a1 s1 ++ (w_Tr g a2 s2 ++ (rest)))) H := hI
  refine lv_icmp_ne (tgt := 69) hx hb d_Mr_fits_64 (by decide) (fun hc => ?_) (fun hc => ?_)
  · have h := it_f h hc
    exact t_Mr_fits0_69 X (lv_sub hl [1, 2, 4, 5, 6, 0] rfl) hI hS h
  · have h := it_t h hc
    exact t_Mr_fits0_67 X (lv_sub hl [] rfl) hI hS h
set_option maxRecDepth 100000 in
set_option maxHeartbeats 4000000 in
theorem t_Mr_fits0_42 {p : Program} {l : Launch} {e : Env} {s : State} {m : MethodId} {args : Array Value} {below : List Frame} {meth : Method} {c : Code} {D : va_G} {A : Nat → Prop} {g : Nat → ClassId} {rest : va_W} {a0 : Nat → Nat} {a1 : Nat → Nat} {a2 : Nat → Nat} {ls : Array Slot} {H : Heap} {locs : List Loc} {s1 : S_Tr} {s2 : S_Tr} {s0 : S_Mr} {x2 : Int32} {x4 : Int32} {out : Int32 × S_Mr} (X : Cx p s m args meth c prog_4_method_3_code 11 ws_Mr_fits0 R_Mr (some .boolean) D g) (hl : lv_has ls 11 [(0, .ref (a0 0)), (1, .ref (a1 0)), (2, .int x2), (3, .ref (a2 0)), (4, .int x4)]) (hI : Iw D A (w_Mr g a0 s0 ++ (w_Tr g a1 s1 ++ (w_Tr g a2 s2 ++ (rest)))) H) (hS : va_S A s.heap H locs) (h : B_Mr_fits0_42  s1 s2 s0 x2 x4 = some out) : W p l e (headSpec ws_Mr_fits0 { frames := 6, cells := 0, slots := 0, locals := 169 }).room s m args below meth c H locs 0 0 (MQ below (QcI D A g out.1 (fun (_ : Unit) => w_Mr g a0 out.2 ++ (w_Tr g a1 s1 ++ (w_Tr g a2 s2 ++ (rest))))) args s 0 0 A) (F0 m 42 ls []) := by
  have X1 := X
  obtain ⟨hx, hb, hml, hown, hts, hr, hlocks, hKK⟩ := X1
  have ht : ∀ w ∈ TB, w.before args s = true := fun w h => hts w (List.mem_cons_of_mem _ h)
  have hK := hKK.1
  unfold B_Mr_fits0_42 at h
  refine lv_aload_n hx hb d_Mr_fits_42 rfl (lv_at hl 0 rfl) ?_
  refine lv_aload_n hx hb d_Mr_fits_43 rfl (lv_at hl 1 rfl) ?_
  refine lv_iload_n hx hb d_Mr_fits_44 rfl (lv_at hl 2 rfl) ?_
  refine lv_aload_n hx hb d_Mr_fits_45 rfl (lv_at hl 3 rfl) ?_
  refine lv_iload hx hb d_Mr_fits_46 (lv_at hl 4 rfl) ?_
  obtain ⟨o1, ho2, h⟩ := bd_s h
  refine cl_i (W1 := fun (_ : Unit) => w_Mr g a0 o1.2 ++ (w_Tr g a1 s1 ++ (w_Tr g a2 s2 ++ (rest)))) (va_runV (As := [.ref (a1 0), .int x2, .ref (a2 0), .int x4]) (rest := []) ⟨hx, hb, hml, hown, ht⟩ (c_Mr_textFits (l := l) (D := D) (A := A) (g := g) (rest := rest) (a0 := a0) (a1 := a1) (a2 := a2) ho2) (cwV 4 ht (gd_V m_631 m_633 mp_35 m_10 m_634) rfl rfl rfl (by decide +kernel) ⟨(Nat.le_of_ble_eq_true rfl), (Nat.le_of_ble_eq_true rfl)⟩) (prV (ci := 2) (q0 := 0) hKK hI ((mv_2).trans ((mv_2).trans (mv_2))) rfl rfl rfl) rfl rfl hl.1 rfl (lv_room (Nat.le_of_ble_eq_true rfl)) d_Mr_fits_48 ⟨(Nat.le_of_ble_eq_true rfl), (Nat.le_of_ble_eq_true rfl)⟩) hS (fun _ => (((mv_2).trans ((mv_2).trans (mv_2)))).symm) (fun _ H locs hI hS => ?_)
  have hI : Iw D A (w_Mr g a0 o1.2 ++ (w_Tr g a1 s1 ++ (w_Tr g a2 s2 ++ (rest)))) H := hI
  have hc3 : o1.1 = 0 ∨ o1.1 = 1 := by
    by_cases z : o1.1 = 0 ∨ o1.1 = 1
    · exact z
    · exact no_s (it_f h z)
  have h := it_t h hc3
  have h9 := Option.some.inj h
  subst h9
  exact W.zret (v := o1.1) hx hb hr (by rcases hc3 with z | z <;> rw [z] <;> rfl) (fun t ht hW => ⟨⟨_, (), rfl, rfl, ⟨by rw [ht]; exact hI, hKK.moved hW⟩⟩, hS.F ht⟩) hS.2.2 d_Mr_fits_51
set_option maxRecDepth 100000 in
set_option maxHeartbeats 4000000 in
theorem t_Mr_fits0_36 {p : Program} {l : Launch} {e : Env} {s : State} {m : MethodId} {args : Array Value} {below : List Frame} {meth : Method} {c : Code} {D : va_G} {A : Nat → Prop} {g : Nat → ClassId} {rest : va_W} {a0 : Nat → Nat} {a1 : Nat → Nat} {a2 : Nat → Nat} {ls : Array Slot} {H : Heap} {locs : List Loc} {s1 : S_Tr} {s2 : S_Tr} {s0 : S_Mr} {x2 : Int32} {x4 : Int32} {x5 : Int32} {x6 : Int32} {out : Int32 × S_Mr} (X : Cx p s m args meth c prog_4_method_3_code 11 ws_Mr_fits0 R_Mr (some .boolean) D g) (hl : lv_has ls 11 [(0, .ref (a0 0)), (1, .ref (a1 0)), (2, .int x2), (3, .ref (a2 0)), (4, .int x4), (5, .int x5), (6, .int x6)]) (hI : Iw D A (w_Mr g a0 s0 ++ (w_Tr g a1 s1 ++ (w_Tr g a2 s2 ++ (rest)))) H) (hS : va_S A s.heap H locs) (h : B_Mr_fits0_36  s1 s2 s0 x2 x4 x5 x6 = some out) : W p l e (headSpec ws_Mr_fits0 { frames := 6, cells := 0, slots := 0, locals := 169 }).room s m args below meth c H locs 0 0 (MQ below (QcI D A g out.1 (fun (_ : Unit) => w_Mr g a0 out.2 ++ (w_Tr g a1 s1 ++ (w_Tr g a2 s2 ++ (rest))))) args s 0 0 A) (F0 m 36 ls []) := by
  have X1 := X
  obtain ⟨hx, hb, hml, hown, hts, hr, hlocks, hKK⟩ := X1
  have ht : ∀ w ∈ TB, w.before args s = true := fun w h => hts w (List.mem_cons_of_mem _ h)
  have hK := hKK.1
  unfold B_Mr_fits0_36 at h
  refine lv_iload hx hb d_Mr_fits_36 (lv_at hl 6 rfl) ?_
  refine lv_iconst (v := 2) hx hb d_Mr_fits_38 (by decide) ?_
  refine lv_icmp_ne (tgt := 52) hx hb d_Mr_fits_39 (by decide) (fun hc => ?_) (fun hc => ?_)
  · have h := it_f h hc
    exact t_Mr_fits0_52 X (lv_sub hl [0, 1, 2, 3, 4, 5] rfl) hI hS h
  · have h := it_t h hc
    exact t_Mr_fits0_42 X (lv_sub hl [0, 1, 2, 3, 4] rfl) hI hS h
set_option maxRecDepth 100000 in
set_option maxHeartbeats 4000000 in
theorem t_Mr_fits0_35 {p : Program} {l : Launch} {e : Env} {s : State} {m : MethodId} {args : Array Value} {below : List Frame} {meth : Method} {c : Code} {D : va_G} {A : Nat → Prop} {g : Nat → ClassId} {rest : va_W} {a0 : Nat → Nat} {a1 : Nat → Nat} {a2 : Nat → Nat} {ls : Array Slot} {H : Heap} {locs : List Loc} {s1 : S_Tr} {s2 : S_Tr} {s0 : S_Mr} {y0 : Int32} {out : Int32 × S_Mr} (X : Cx p s m args meth c prog_4_method_3_code 11 ws_Mr_fits0 R_Mr (some .boolean) D g) (hl : lv_has ls 11 []) (hI : Iw D A (w_Mr g a0 s0 ++ (w_Tr g a1 s1 ++ (w_Tr g a2 s2 ++ (rest)))) H) (hS : va_S A s.heap H locs) (h : B_Mr_fits0_35  s1 s2 s0 y0 = some out) : W p l e (headSpec ws_Mr_fits0 { frames := 6, cells := 0, slots := 0, locals := 169 }).room s m args below meth c H locs 0 0 (MQ below (QcI D A g out.1 (fun (_ : Unit) => w_Mr g a0 out.2 ++ (w_Tr g a1 s1 ++ (w_Tr g a2 s2 ++ (rest))))) args s 0 0 A) (F0 m 35 ls [.int y0]) := by
  have X1 := X
  obtain ⟨hx, hb, hml, hown, hts, hr, hlocks, hKK⟩ := X1
  have ht : ∀ w ∈ TB, w.before args s = true := fun w h => hts w (List.mem_cons_of_mem _ h)
  have hK := hKK.1
  unfold B_Mr_fits0_35 at h
  have hc1 : y0 = 0 ∨ y0 = 1 := by
    by_cases z : y0 = 0 ∨ y0 = 1
    · exact z
    · exact no_s (it_f h z)
  have h := it_t h hc1
  have h9 := Option.some.inj h
  subst h9
  exact W.zret (v := y0) hx hb hr (by rcases hc1 with z | z <;> rw [z] <;> rfl) (fun t ht hW => ⟨⟨_, (), rfl, rfl, ⟨by rw [ht]; exact hI, hKK.moved hW⟩⟩, hS.F ht⟩) hS.2.2 d_Mr_fits_35
set_option maxRecDepth 100000 in
set_option maxHeartbeats 4000000 in
theorem t_Mr_fits0_34 {p : Program} {l : Launch} {e : Env} {s : State} {m : MethodId} {args : Array Value} {below : List Frame} {meth : Method} {c : Code} {D : va_G} {A : Nat → Prop} {g : Nat → ClassId} {rest : va_W} {a0 : Nat → Nat} {a1 : Nat → Nat} {a2 : Nat → Nat} {ls : Array Slot} {H : Heap} {locs : List Loc} {s1 : S_Tr} {s2 : S_Tr} {s0 : S_Mr} {out : Int32 × S_Mr} (X : Cx p s m args meth c prog_4_method_3_code 11 ws_Mr_fits0 R_Mr (some .boolean) D g) (hl : lv_has ls 11 []) (hI : Iw D A (w_Mr g a0 s0 ++ (w_Tr g a1 s1 ++ (w_Tr g a2 s2 ++ (rest)))) H) (hS : va_S A s.heap H locs) (h : B_Mr_fits0_34  s1 s2 s0 = some out) : W p l e (headSpec ws_Mr_fits0 { frames := 6, cells := 0, slots := 0, locals := 169 }).room s m args below meth c H locs 0 0 (MQ below (QcI D A g out.1 (fun (_ : Unit) => w_Mr g a0 out.2 ++ (w_Tr g a1 s1 ++ (w_Tr g a2 s2 ++ (rest))))) args s 0 0 A) (F0 m 34 ls []) := by
  have X1 := X
  obtain ⟨hx, hb, hml, hown, hts, hr, hlocks, hKK⟩ := X1
  have ht : ∀ w ∈ TB, w.before args s = true := fun w h => hts w (List.mem_cons_of_mem _ h)
  have hK := hKK.1
  unfold B_Mr_fits0_34 at h
  refine lv_iconst (v := 0) hx hb d_Mr_fits_34 (by decide) ?_
  exact t_Mr_fits0_35 X (lv_sub hl [] rfl) hI hS h
set_option maxRecDepth 100000 in
set_option maxHeartbeats 4000000 in
theorem t_Mr_fits0_30 {p : Program} {l : Launch} {e : Env} {s : State} {m : MethodId} {args : Array Value} {below : List Frame} {meth : Method} {c : Code} {D : va_G} {A : Nat → Prop} {g : Nat → ClassId} {rest : va_W} {a0 : Nat → Nat} {a1 : Nat → Nat} {a2 : Nat → Nat} {ls : Array Slot} {H : Heap} {locs : List Loc} {s1 : S_Tr} {s2 : S_Tr} {s0 : S_Mr} {out : Int32 × S_Mr} (X : Cx p s m args meth c prog_4_method_3_code 11 ws_Mr_fits0 R_Mr (some .boolean) D g) (hl : lv_has ls 11 []) (hI : Iw D A (w_Mr g a0 s0 ++ (w_Tr g a1 s1 ++ (w_Tr g a2 s2 ++ (rest)))) H) (hS : va_S A s.heap H locs) (h : B_Mr_fits0_30  s1 s2 s0 = some out) : W p l e (headSpec ws_Mr_fits0 { frames := 6, cells := 0, slots := 0, locals := 169 }).room s m args below meth c H locs 0 0 (MQ below (QcI D A g out.1 (fun (_ : Unit) => w_Mr g a0 out.2 ++ (w_Tr g a1 s1 ++ (w_Tr g a2 s2 ++ (rest))))) args s 0 0 A) (F0 m 30 ls []) := by
  have X1 := X
  obtain ⟨hx, hb, hml, hown, hts, hr, hlocks, hKK⟩ := X1
  have ht : ∀ w ∈ TB, w.before args s = true := fun w h => hts w (List.mem_cons_of_mem _ h)
  have hK := hKK.1
  unfold B_Mr_fits0_30 at h
  refine lv_iconst (v := 1) hx hb d_Mr_fits_30 (by decide) ?_
  refine lv_goto (tgt := 35) hx hb d_Mr_fits_31 (by decide) ?_
  exact t_Mr_fits0_35 X (lv_sub hl [] rfl) hI hS h
set_option maxRecDepth 100000 in
set_option maxHeartbeats 4000000 in
theorem t_Mr_fits0_16 {p : Program} {l : Launch} {e : Env} {s : State} {m : MethodId} {args : Array Value} {below : List Frame} {meth : Method} {c : Code} {D : va_G} {A : Nat → Prop} {g : Nat → ClassId} {rest : va_W} {a0 : Nat → Nat} {a1 : Nat → Nat} {a2 : Nat → Nat} {ls : Array Slot} {H : Heap} {locs : List Loc} {s1 : S_Tr} {s2 : S_Tr} {s0 : S_Mr} {x2 : Int32} {x4 : Int32} {out : Int32 × S_Mr} (X : Cx p s m args meth c prog_4_method_3_code 11 ws_Mr_fits0 R_Mr (some .boolean) D g) (hl : lv_has ls 11 [(1, .ref (a1 0)), (2, .int x2), (3, .ref (a2 0)), (4, .int x4)]) (hI : Iw D A (w_Mr g a0 s0 ++ (w_Tr g a1 s1 ++ (w_Tr g a2 s2 ++ (rest)))) H) (hS : va_S A s.heap H locs) (h : B_Mr_fits0_16  s1 s2 s0 x2 x4 = some out) : W p l e (headSpec ws_Mr_fits0 { frames := 6, cells := 0, slots := 0, locals := 169 }).room s m args below meth c H locs 0 0 (MQ below (QcI D A g out.1 (fun (_ : Unit) => w_Mr g a0 out.2 ++ (w_Tr g a1 s1 ++ (w_Tr g a2 s2 ++ (rest))))) args s 0 0 A) (F0 m 16 ls []) := by
  have X1 := X
  obtain ⟨hx, hb, hml, hown, hts, hr, hlocks, hKK⟩ := X1
  have ht : ∀ w ∈ TB, w.before args s = true := fun w h => hts w (List.mem_cons_of_mem _ h)
  have hK := hKK.1
  unfold B_Mr_fits0_16 at h
  refine lv_aload_n hx hb d_Mr_fits_16 rfl (lv_at hl 0 rfl) ?_
  refine lv_iload_n hx hb d_Mr_fits_17 rfl (lv_at hl 1 rfl) ?_
  obtain ⟨o1, ho2, h⟩ := bd_s h
  refine cl_i (W1 := fun (_ : Unit) => w_Mr g a0 s0 ++ (w_Tr g a1 s1 ++ (w_Tr g a2 s2 ++ (rest)))) (va_runV (As := [.int x2]) (rest := []) ⟨hx, hb, hml, hown, ht⟩ (c_Tr_number (l := l) (D := D) (A := A) (g := g) (rest := w_Mr g a0 s0 ++ (w_Tr g a2 s2 ++ (rest))) (a0 := a1) ho2) (cwV 1 ht (gd_V m_630 m_516 m_517 m_9 m_518) rfl rfl rfl (by decide +kernel) ⟨(Nat.le_of_ble_eq_true rfl), (Nat.le_of_ble_eq_true rfl)⟩) (prV (ci := 7) (q0 := 0) hKK hI (mv_1) rfl rfl rfl) rfl rfl hl.1 rfl (lv_room (Nat.le_of_ble_eq_true rfl)) d_Mr_fits_18 ⟨(Nat.le_of_ble_eq_true rfl), (Nat.le_of_ble_eq_true rfl)⟩) hS (fun _ => ((mv_1)).symm) (fun _ H locs hI hS => ?_)
  have hI : Iw D A (w_Mr g a0 s0 ++ (w_Tr g a1 s1 ++ (w_Tr g a2 s2 ++ (rest)))) H := hI
  refine lv_aload_n hx hb d_Mr_fits_21 rfl (lv_at hl 2 rfl) ?_
  refine lv_iload hx hb d_Mr_fits_22 (lv_at hl 3 rfl) ?_
  obtain ⟨o3, ho4, h⟩ := bd_s h
  refine cl_i (W1 := fun (_ : Unit) => w_Mr g a0 s0 ++ (w_Tr g a1 s1 ++ (w_Tr g a2 s2 ++ (rest)))) (va_runV (As := [.int x4]) (rest := [.int o1]) ⟨hx, hb, hml, hown, ht⟩ (c_Tr_number (l := l) (D := D) (A := A) (g := g) (rest := w_Mr g a0 s0 ++ (w_Tr g a1 s1 ++ (rest))) (a0 := a2) ho4) (cwV 1 ht (gd_V m_630 m_516 m_517 m_9 m_518) rfl rfl rfl (by decide +kernel) ⟨(Nat.le_of_ble_eq_true rfl), (Nat.le_of_ble_eq_true rfl)⟩) (prV (ci := 7) (q0 := 0) hKK hI (mv_2) rfl rfl rfl) rfl rfl hl.1 rfl (lv_room (Nat.le_of_ble_eq_true rfl)) d_Mr_fits_24 ⟨(Nat.le_of_ble_eq_true rfl), (Nat.le_of_ble_eq_true rfl)⟩) hS (fun _ => ((mv_2)).symm) (fun _ H locs hI hS => ?_)
  have hI : Iw D A (w_Mr g a0 s0 ++ (w_Tr g a1 s1 ++ (w_Tr g a2 s2 ++ (rest)))) H := hI
  refine lv_icmp_ne (tgt := 34) hx hb d_Mr_fits_27 (by decide) (fun hc => ?_) (fun hc => ?_)
  · have h := it_f h hc
    exact t_Mr_fits0_34 X (lv_sub hl [] rfl) hI hS h
  · have h := it_t h hc
    exact t_Mr_fits0_30 X (lv_sub hl [] rfl) hI hS h
set_option maxRecDepth 100000 in
set_option maxHeartbeats 4000000 in
theorem t_Mr_fits0_0 {p : Program} {l : Launch} {e : Env} {s : State} {m : MethodId} {args : Array Value} {below : List Frame} {meth : Method} {c : Code} {D : va_G} {A : Nat → Prop} {g : Nat → ClassId} {rest : va_W} {a0 : Nat → Nat} {a1 : Nat → Nat} {a2 : Nat → Nat} {ls : Array Slot} {H : Heap} {locs : List Loc} {s1 : S_Tr} {s2 : S_Tr} {s0 : S_Mr} {x2 : Int32} {x4 : Int32} {x5 : Int32} {out : Int32 × S_Mr} (X : Cx p s m args meth c prog_4_method_3_code 11 ws_Mr_fits0 R_Mr (some .boolean) D g) (hl : lv_has ls 11 [(0, .ref (a0 0)), (1, .ref (a1 0)), (2, .int x2), (3, .ref (a2 0)), (4, .int x4), (5, .int x5)]) (hI : Iw D A (w_Mr g a0 s0 ++ (w_Tr g a1 s1 ++ (w_Tr g a2 s2 ++ (rest)))) H) (hS : va_S A s.heap H locs) (h : B_Mr_fits0_0  s1 s2 s0 x2 x4 x5 = some out) : W p l e (headSpec ws_Mr_fits0 { frames := 6, cells := 0, slots := 0, locals := 169 }).room s m args below meth c H locs 0 0 (MQ below (QcI D A g out.1 (fun (_ : Unit) => w_Mr g a0 out.2 ++ (w_Tr g a1 s1 ++ (w_Tr g a2 s2 ++ (rest))))) args s 0 0 A) (F0 m 0 ls []) := by
  have X1 := X
  obtain ⟨hx, hb, hml, hown, hts, hr, hlocks, hKK⟩ := X1
  have ht : ∀ w ∈ TB, w.before args s = true := fun w h => hts w (List.mem_cons_of_mem _ h)
  have hK := hKK.1
  unfold B_Mr_fits0_0 at h
  refine lv_aload_n hx hb d_Mr_fits_0 rfl (lv_at hl 1 rfl) ?_
  refine lv_iload_n hx hb d_Mr_fits_1 rfl (lv_at hl 2 rfl) ?_
  obtain ⟨o1, ho2, h⟩ := bd_s h
  refine cl_i (W1 := fun (_ : Unit) => w_Mr g a0 s0 ++ (w_Tr g a1 s1 ++ (w_Tr g a2 s2 ++ (rest)))) (va_runV (As := [.int x2]) (rest := []) ⟨hx, hb, hml, hown, ht⟩ (c_Tr_tag (l := l) (D := D) (A := A) (g := g) (rest := w_Mr g a0 s0 ++ (w_Tr g a2 s2 ++ (rest))) (a0 := a1) ho2) (cwV 1 ht (gd_V m_623 m_512 m_513 m_9 m_514) rfl rfl rfl (by decide +kernel) ⟨(Nat.le_of_ble_eq_true rfl), (Nat.le_of_ble_eq_true rfl)⟩) (prV (ci := 7) (q0 := 0) hKK hI (mv_1) rfl rfl rfl) rfl rfl hl.1 rfl (lv_room (Nat.le_of_ble_eq_true rfl)) d_Mr_fits_2 ⟨(Nat.le_of_ble_eq_true rfl), (Nat.le_of_ble_eq_true rfl)⟩) hS (fun _ => ((mv_1)).symm) (fun _ H locs hI hS => ?_)
  have hI : Iw D A (w_Mr g a0 s0 ++ (w_Tr g a1 s1 ++ (w_Tr g a2 s2 ++ (rest)))) H := hI
  obtain ⟨o3, ho4, h⟩ := bd_s h
  refine cl_i (W1 := fun (_ : Unit) => w_Mr g a0 s0 ++ (w_Tr g a1 s1 ++ (w_Tr g a2 s2 ++ (rest)))) (va_runSN (As := [.int o1]) (rest := []) ⟨hx, hb, hml, hown, ht⟩ (c_Rn_kindOf (l := l) (D := D) (A := A) (g := g) (rest := w_Mr g a0 s0 ++ (w_Tr g a1 s1 ++ (w_Tr g a2 s2 ++ (rest))))  ho4) ⟨va_cnB 1 ht (gd_0 m_456) rfl rfl rfl hKK.2.2.2.2.1 (ht _ m_1) (by decide +kernel) ⟨(Nat.le_of_ble_eq_true rfl), (Nat.le_of_ble_eq_true rfl)⟩, ht _ m_455, trivial⟩ (prS hKK hI (List.Perm.refl _)) rfl rfl hl.1 rfl (lv_room (Nat.le_of_ble_eq_true rfl)) d_Mr_fits_5 ⟨(Nat.le_of_ble_eq_true rfl), (Nat.le_of_ble_eq_true rfl)⟩) hS (fun _ => ((List.Perm.refl _)).symm) (fun _ H locs hI hS => ?_)
  have hI : Iw D A (w_Mr g a0 s0 ++ (w_Tr g a1 s1 ++ (w_Tr g a2 s2 ++ (rest)))) H := hI
  refine lv_istore hx hb d_Mr_fits_8 hl (Nat.le_of_ble_eq_true rfl) rfl (fun ls hl => ?_)
  have hl : lv_has ls 11 [(6, .int o3), (0, .ref (a0 0)), (1, .ref (a1 0)), (2, .int x2), (3, .ref (a2 0)), (4, .int x4), (5, .int x5)] := hl
  refine lv_iload hx hb d_Mr_fits_10 (lv_at hl 0 rfl) ?_
  refine lv_iconst (v := 1) hx hb d_Mr_fits_12 (by decide) ?_
  refine lv_icmp_ne (tgt := 36) hx hb d_Mr_fits_13 (by decide) (fun hc => ?_) (fun hc => ?_)
  · have h := it_f h hc
    exact t_Mr_fits0_36 X (lv_sub hl [1, 2, 3, 4, 5, 6, 0] rfl) hI hS h
  · have h := it_t h hc
    exact t_Mr_fits0_16 X (lv_sub hl [2, 3, 4, 5] rfl) hI hS h
set_option maxRecDepth 100000 in
set_option maxHeartbeats 4000000 in
theorem c_Mr_fits0 {l : Launch} {D : va_G} {A : Nat → Prop} {g : Nat → ClassId} {rest : va_W} {a0 : Nat → Nat} {a1 : Nat → Nat} {a2 : Nat → Nat} {s0 : S_Mr} {s1 : S_Tr} {s2 : S_Tr} {x2 : Int32} {x4 : Int32} {x5 : Int32} {out : Int32 × S_Mr} (h : F_Mr_fits0 s0 s1 s2 x2 x4 x5 = some out) : Met l y_Mr_fits ws_Mr_fits0 { frames := 6, cells := 0, slots := 0, locals := 169 } (PcW D A g [.ref (a0 0), .ref (a1 0), .int x2, .ref (a2 0), .int x4, .int x5] (w_Mr g a0 s0 ++ (w_Tr g a1 s1 ++ (w_Tr g a2 s2 ++ (rest))))) (QcI D A g out.1 (fun (_ : Unit) => w_Mr g a0 out.2 ++ (w_Tr g a1 s1 ++ (w_Tr g a2 s2 ++ (rest))))) 0 0 A := by
  refine Met.ofW (cc := prog_4_method_3_code) (maxL := 11) (ret := (some .boolean)) (by decide) rfl ?_
  intro p e s m args below meth c s₁ B hml hv
  obtain ⟨rfl, hI, hK⟩ := hv
  have hl := lv_entry [.ref (a0 0), .ref (a1 0), .int x2, .ref (a2 0), .int x4, .int x5] (n := 11) (Nat.le_of_ble_eq_true rfl)
  rw [lg_entry_eq]
  generalize (lg_sl [.ref (a0 0), .ref (a1 0), .int x2, .ref (a2 0), .int x4, .int x5] ++ List.replicate (11 - (lg_sl [.ref (a0 0), .ref (a1 0), .int x2, .ref (a2 0), .int x4, .int x5]).length) Slot.unset).toArray = ls at hl ⊢
  have hl : lv_has ls 11 [(0, .ref (a0 0)), (1, .ref (a1 0)), (2, .int x2), (3, .ref (a2 0)), (4, .int x4), (5, .int x5)] := hl
  exact t_Mr_fits0_0 ⟨B.exec, B.bytes, hml, findClass_of_methodNamed B.named, atoms_spec (ws := ws_Mr_fits0) B.pre, B.returns, B.notSynchronized, hK⟩ (lv_sub hl [0, 1, 2, 3, 4, 5] rfl) hI va_S.rf h
def ws_Mr_matches0 : List Cond := .code y_Mr_matches prog_4_method_2_code 9 (some .boolean) :: TB
def B_Mr_matches0_76 (s1 : S_Tr) (s2 : S_Tr) (s0 : S_Mr) : Option (Int32 × S_Mr) :=
  some ((1 : Int32), s0)
def B_Mr_matches0_60 (s1 : S_Tr) (s2 : S_Tr) (s0 : S_Mr) : Option (Int32 × S_Mr) :=
  some ((0 : Int32), s0)
def B_Mr_matches0_62 (k8 : S_Mr × Int32 × Int32 × Int32 × Int32 × Int32 → Option (Int32 × S_Mr)) (s1 : S_Tr) (s2 : S_Tr) (s0 : S_Mr) (x2 : Int32) (x4 : Int32) (x5 : Int32) (x6 : Int32) (x7 : Int32) : Option (Int32 × S_Mr) :=
  ((F_Tr_behind s1 x6).bind fun o1 => (k8 (s0, x2, x4, x5, o1, (x7 + 1))))
def B_Mr_matches0_45 (k8 : S_Mr × Int32 × Int32 × Int32 × Int32 × Int32 → Option (Int32 × S_Mr)) (s1 : S_Tr) (s2 : S_Tr) (s0 : S_Mr) (x2 : Int32) (x4 : Int32) (x5 : Int32) (x6 : Int32) (x7 : Int32) (x8 : Int32) : Option (Int32 × S_Mr) :=
  ((F_Mr_fits0 s0 s1 s2 x6 x8 x5).bind fun o1 => (if o1.1 = 0 then (B_Mr_matches0_60 s1 s2 o1.2) else (B_Mr_matches0_62 k8 s1 s2 o1.2 x2 x4 x5 x6 x7)))
def B_Mr_matches0_25 (k8 : S_Mr × Int32 × Int32 × Int32 × Int32 × Int32 → Option (Int32 × S_Mr)) (s1 : S_Tr) (s2 : S_Tr) (s0 : S_Mr) (x2 : Int32) (x4 : Int32) (x5 : Int32) (x6 : Int32) (x7 : Int32) : Option (Int32 × S_Mr) :=
  ((F_Tr_tag s1 x6).bind fun o1 => ((F_Tr_find s2 x4 o1).bind fun o3 => (if o3 = ((-1) : Int32) then (B_Mr_matches0_60 s1 s2 s0) else (B_Mr_matches0_45 k8 s1 s2 s0 x2 x4 x5 x6 x7 o3))))
def B_Mr_matches0_15 (k8 : S_Mr × Int32 × Int32 × Int32 × Int32 × Int32 → Option (Int32 × S_Mr)) (s1 : S_Tr) (s2 : S_Tr) (s0 : S_Mr) (x2 : Int32) (x4 : Int32) (x5 : Int32) (x6 : Int32) (x7 : Int32) : Option (Int32 × S_Mr) :=
  ((F_Tr_behind s1 x2).bind fun o1 => (if o1 ≤ x6 then (B_Mr_matches0_76 s1 s2 s0) else (B_Mr_matches0_25 k8 s1 s2 s0 x2 x4 x5 x6 x7)))
def B_Mr_matches0_8 (k8 : S_Mr × Int32 × Int32 × Int32 × Int32 × Int32 → Option (Int32 × S_Mr)) (s1 : S_Tr) (s2 : S_Tr) (s0 : S_Mr) (x2 : Int32) (x4 : Int32) (x5 : Int32) (x6 : Int32) (x7 : Int32) : Option (Int32 × S_Mr) :=
  (if (10 : Int32) ≤ x7 then (B_Mr_matches0_76 s1 s2 s0) else (B_Mr_matches0_15 k8 s1 s2 s0 x2 x4 x5 x6 x7))
def L_Mr_matches0_8 (s1 : S_Tr) (s2 : S_Tr) (v : S_Mr × Int32 × Int32 × Int32 × Int32 × Int32) : Option (Int32 × S_Mr) := lp (fun k8 v => B_Mr_matches0_8  k8 s1 s2 v.1 v.2.1 v.2.2.1 v.2.2.2.1 v.2.2.2.2.1 v.2.2.2.2.2) FU v
def B_Mr_matches0_0 (s1 : S_Tr) (s2 : S_Tr) (s0 : S_Mr) (x2 : Int32) (x4 : Int32) (x5 : Int32) : Option (Int32 × S_Mr) :=
  (L_Mr_matches0_8 s1 s2 (s0, x2, x4, x5, (x2 + (1 : Int32)), (0 : Int32)))
def F_Mr_matches0 (s0 : S_Mr) (s1 : S_Tr) (s2 : S_Tr) (x2 : Int32) (x4 : Int32) (x5 : Int32) : Option (Int32 × S_Mr) := B_Mr_matches0_0 s1 s2 s0 x2 x4 x5
set_option maxRecDepth 100000 in
set_option maxHeartbeats 4000000 in
theorem t_Mr_matches0_76 {p : Program} {l : Launch} {e : Env} {s : State} {m : MethodId} {args : Array Value} {below : List Frame} {meth : Method} {c : Code} {D : va_G} {A : Nat → Prop} {g : Nat → ClassId} {rest : va_W} {a0 : Nat → Nat} {a1 : Nat → Nat} {a2 : Nat → Nat} {ls : Array Slot} {H : Heap} {locs : List Loc} {s1 : S_Tr} {s2 : S_Tr} {s0 : S_Mr} {out : Int32 × S_Mr} (X : Cx p s m args meth c prog_4_method_2_code 9 ws_Mr_matches0 R_Mr (some .boolean) D g) (hl : lv_has ls 9 []) (hI : Iw D A (w_Mr g a0 s0 ++ (w_Tr g a1 s1 ++ (w_Tr g a2 s2 ++ (rest)))) H) (hS : va_S A s.heap H locs) (h : B_Mr_matches0_76  s1 s2 s0 = some out) : W p l e (headSpec ws_Mr_matches0 { frames := 7, cells := 0, slots := 0, locals := 199 }).room s m args below meth c H locs 0 0 (MQ below (QcI D A g out.1 (fun (_ : Unit) => w_Mr g a0 out.2 ++ (w_Tr g a1 s1 ++ (w_Tr g a2 s2 ++ (rest))))) args s 0 0 A) (F0 m 76 ls []) := by
  have X1 := X
  obtain ⟨hx, hb, hml, hown, hts, hr, hlocks, hKK⟩ := X1
  have ht : ∀ w ∈ TB, w.before args s = true := fun w h => hts w (List.mem_cons_of_mem _ h)
  have hK := hKK.1
  unfold B_Mr_matches0_76 at h
  refine lv_iconst (v := 1) hx hb d_Mr_matches_76 (by decide) ?_
  have h9 := Option.some.inj h
  subst h9
  exact W.zret (v := (1 : Int32)) hx hb hr rfl (fun t ht hW => ⟨⟨_, (), rfl, rfl, ⟨by rw [ht]; exact hI, hKK.moved hW⟩⟩, hS.F ht⟩) hS.2.2 d_Mr_matches_77
set_option maxRecDepth 100000 in
set_option maxHeartbeats 4000000 in
theorem t_Mr_matches0_60 {p : Program} {l : Launch} {e : Env} {s : State} {m : MethodId} {args : Array Value} {below : List Frame} {meth : Method} {c : Code} {D : va_G} {A : Nat → Prop} {g : Nat → ClassId} {rest : va_W} {a0 : Nat → Nat} {a1 : Nat → Nat} {a2 : Nat → Nat} {ls : Array Slot} {H : Heap} {locs : List Loc} {s1 : S_Tr} {s2 : S_Tr} {s0 : S_Mr} {out : Int32 × S_Mr} (X : Cx p s m args meth c prog_4_method_2_code 9 ws_Mr_matches0 R_Mr (some .boolean) D g) (hl : lv_has ls 9 []) (hI : Iw D A (w_Mr g a0 s0 ++ (w_Tr g a1 s1 ++ (w_Tr g a2 s2 ++ (rest)))) H) (hS : va_S A s.heap H locs) (h : B_Mr_matches0_60  s1 s2 s0 = some out) : W p l e (headSpec ws_Mr_matches0 { frames := 7, cells := 0, slots := 0, locals := 199 }).room s m args below meth c H locs 0 0 (MQ below (QcI D A g out.1 (fun (_ : Unit) => w_Mr g a0 out.2 ++ (w_Tr g a1 s1 ++ (w_Tr g a2 s2 ++ (rest))))) args s 0 0 A) (F0 m 60 ls []) := by
  have X1 := X
  obtain ⟨hx, hb, hml, hown, hts, hr, hlocks, hKK⟩ := X1
  have ht : ∀ w ∈ TB, w.before args s = true := fun w h => hts w (List.mem_cons_of_mem _ h)
  have hK := hKK.1
  unfold B_Mr_matches0_60 at h
  refine lv_iconst (v := 0) hx hb d_Mr_matches_60 (by decide) ?_
  have h9 := Option.some.inj h
  subst h9
  exact W.zret (v := (0 : Int32)) hx hb hr rfl (fun t ht hW => ⟨⟨_, (), rfl, rfl, ⟨by rw [ht]; exact hI, hKK.moved hW⟩⟩, hS.F ht⟩) hS.2.2 d_Mr_matches_61
set_option maxRecDepth 100000 in
set_option maxHeartbeats 4000000 in
theorem t_Mr_matches0_62 {p : Program} {l : Launch} {e : Env} {s : State} {m : MethodId} {args : Array Value} {below : List Frame} {meth : Method} {c : Code} {D : va_G} {A : Nat → Prop} {g : Nat → ClassId} {rest : va_W} {a0 : Nat → Nat} {a1 : Nat → Nat} {a2 : Nat → Nat} {ls : Array Slot} {H : Heap} {locs : List Loc} {k8 : S_Mr × Int32 × Int32 × Int32 × Int32 × Int32 → Option (Int32 × S_Mr)} {s1 : S_Tr} {s2 : S_Tr} {s0 : S_Mr} {x2 : Int32} {x4 : Int32} {x5 : Int32} {x6 : Int32} {x7 : Int32} {out : Int32 × S_Mr} (X : Cx p s m args meth c prog_4_method_2_code 9 ws_Mr_matches0 R_Mr (some .boolean) D g) (hk8 : ∀ (v : S_Mr × Int32 × Int32 × Int32 × Int32 × Int32) (ls : Array Slot) (H : Heap) (locs : List Loc), lv_has ls 9 [(0, .ref (a0 0)), (1, .ref (a1 0)), (2, .int v.2.1), (3, .ref (a2 0)), (4, .int v.2.2.1), (5, .int v.2.2.2.1), (6, .int v.2.2.2.2.1), (7, .int v.2.2.2.2.2)] → Iw D A (w_Mr g a0 v.1 ++ (w_Tr g a1 s1 ++ (w_Tr g a2 s2 ++ (rest)))) H → va_S A s.heap H locs → k8 v = some out → W p l e (headSpec ws_Mr_matches0 { frames := 7, cells := 0, slots := 0, locals := 199 }).room s m args below meth c H locs 0 0 (MQ below (QcI D A g out.1 (fun (_ : Unit) => w_Mr g a0 out.2 ++ (w_Tr g a1 s1 ++ (w_Tr g a2 s2 ++ (rest))))) args s 0 0 A) (F0 m 8 ls [])) (hl : lv_has ls 9 [(0, .ref (a0 0)), (1, .ref (a1 0)), (2, .int x2), (3, .ref (a2 0)), (4, .int x4), (5, .int x5), (6, .int x6), (7, .int x7)]) (hI : Iw D A (w_Mr g a0 s0 ++ (w_Tr g a1 s1 ++ (w_Tr g a2 s2 ++ (rest)))) H) (hS : va_S A s.heap H locs) (h : B_Mr_matches0_62 k8 s1 s2 s0 x2 x4 x5 x6 x7 = some out) : W p l e (headSpec ws_Mr_matches0 { frames := 7, cells := 0, slots := 0, locals := 199 }).room s m args below meth c H locs 0 0 (MQ below (QcI D A g out.1 (fun (_ : Unit) => w_Mr g a0 out.2 ++ (w_Tr g a1 s1 ++ (w_Tr g a2 s2 ++ (rest))))) args s 0 0 A) (F0 m 62 ls []) := by
  have X1 := X
  obtain ⟨hx, hb, hml, hown, hts, hr, hlocks, hKK⟩ := X1
  have ht : ∀ w ∈ TB, w.before args s = true := fun w h => hts w (List.mem_cons_of_mem _ h)
  have hK := hKK.1
  unfold B_Mr_matches0_62 at h
  refine lv_aload_n hx hb d_Mr_matches_62 rfl (lv_at hl 1 rfl) ?_
  refine lv_iload hx hb d_Mr_matches_63 (lv_at hl 6 rfl) ?_
  obtain ⟨o1, ho2, h⟩ := bd_s h
  refine cl_i (W1 := fun (_ : Unit) => w_Mr g a0 s0 ++ (w_Tr g a1 s1 ++ (w_Tr g a2 s2 ++ (rest)))) (va_runV (As := [.int x6]) (rest := []) ⟨hx, hb, hml, hown, ht⟩ (c_Tr_behind (l := l) (D := D) (A := A) (g := g) (rest := w_Mr g a0 s0 ++ (w_Tr g a2 s2 ++ (rest))) (a0 := a1) ho2) (cwV 1 ht (gd_V m_622 m_508 m_509 m_9 m_510) rfl rfl rfl (by decide +kernel) ⟨(Nat.le_of_ble_eq_true rfl), (Nat.le_of_ble_eq_true rfl)⟩) (prV (ci := 7) (q0 := 0) hKK hI (mv_1) rfl rfl rfl) rfl rfl hl.1 rfl (lv_room (Nat.le_of_ble_eq_true rfl)) d_Mr_matches_65 ⟨(Nat.le_of_ble_eq_true rfl), (Nat.le_of_ble_eq_true rfl)⟩) hS (fun _ => ((mv_1)).symm) (fun _ H locs hI hS => ?_)
  have hI : Iw D A (w_Mr g a0 s0 ++ (w_Tr g a1 s1 ++ (w_Tr g a2 s2 ++ (rest)))) H := hI
  refine lv_istore hx hb d_Mr_matches_68 hl (Nat.le_of_ble_eq_true rfl) rfl (fun ls hl => ?_)
  have hl : lv_has ls 9 [(6, .int o1), (0, .ref (a0 0)), (1, .ref (a1 0)), (2, .int x2), (3, .ref (a2 0)), (4, .int x4), (5, .int x5), (7, .int x7)] := hl
  refine lv_iinc (k := 7) (v := (x7 + 1)) hx hb d_Mr_matches_70 hl rfl (congrArg (fun z => x7 + z) (by decide)) (Nat.le_of_ble_eq_true rfl) rfl (fun ls hl => ?_)
  have hl : lv_has ls 9 [(7, .int (x7 + 1)), (6, .int o1), (0, .ref (a0 0)), (1, .ref (a1 0)), (2, .int x2), (3, .ref (a2 0)), (4, .int x4), (5, .int x5)] := hl
  refine lv_goto (tgt := 8) hx hb d_Mr_matches_73 (by decide) ?_
  exact hk8 (s0, x2, x4, x5, o1, (x7 + 1)) _ _ _ (lv_sub hl [2, 3, 4, 5, 6, 7, 1, 0] rfl) hI hS h
set_option maxRecDepth 100000 in
set_option maxHeartbeats 4000000 in
theorem t_Mr_matches0_45 {p : Program} {l : Launch} {e : Env} {s : State} {m : MethodId} {args : Array Value} {below : List Frame} {meth : Method} {c : Code} {D : va_G} {A : Nat → Prop} {g : Nat → ClassId} {rest : va_W} {a0 : Nat → Nat} {a1 : Nat → Nat} {a2 : Nat → Nat} {ls : Array Slot} {H : Heap} {locs : List Loc} {k8 : S_Mr × Int32 × Int32 × Int32 × Int32 × Int32 → Option (Int32 × S_Mr)} {s1 : S_Tr} {s2 : S_Tr} {s0 : S_Mr} {x2 : Int32} {x4 : Int32} {x5 : Int32} {x6 : Int32} {x7 : Int32} {x8 : Int32} {out : Int32 × S_Mr} (X : Cx p s m args meth c prog_4_method_2_code 9 ws_Mr_matches0 R_Mr (some .boolean) D g) (hk8 : ∀ (v : S_Mr × Int32 × Int32 × Int32 × Int32 × Int32) (ls : Array Slot) (H : Heap) (locs : List Loc), lv_has ls 9 [(0, .ref (a0 0)), (1, .ref (a1 0)), (2, .int v.2.1), (3, .ref (a2 0)), (4, .int v.2.2.1), (5, .int v.2.2.2.1), (6, .int v.2.2.2.2.1), (7, .int v.2.2.2.2.2)] → Iw D A (w_Mr g a0 v.1 ++ (w_Tr g a1 s1 ++ (w_Tr g a2 s2 ++ (rest)))) H → va_S A s.heap H locs → k8 v = some out → W p l e (headSpec ws_Mr_matches0 { frames := 7, cells := 0, slots := 0, locals := 199 }).room s m args below meth c H locs 0 0 (MQ below (QcI D A g out.1 (fun (_ : Unit) => w_Mr g a0 out.2 ++ (w_Tr g a1 s1 ++ (w_Tr g a2 s2 ++ (rest))))) args s 0 0 A) (F0 m 8 ls [])) (hl : lv_has ls 9 [(0, .ref (a0 0)), (1, .ref (a1 0)), (2, .int x2), (3, .ref (a2 0)), (4, .int x4), (5, .int x5), (6, .int x6), (7, .int x7), (8, .int x8)]) (hI : Iw D A (w_Mr g a0 s0 ++ (w_Tr g a1 s1 ++ (w_Tr g a2 s2 ++ (rest)))) H) (hS : va_S A s.heap H locs) (h : B_Mr_matches0_45 k8 s1 s2 s0 x2 x4 x5 x6 x7 x8 = some out) : W p l e (headSpec ws_Mr_matches0 { frames := 7, cells := 0, slots := 0, locals := 199 }).room s m args below meth c H locs 0 0 (MQ below (QcI D A g out.1 (fun (_ : Unit) => w_Mr g a0 out.2 ++ (w_Tr g a1 s1 ++ (w_Tr g a2 s2 ++ (rest))))) args s 0 0 A) (F0 m 45 ls []) := by
  have X1 := X
  obtain ⟨hx, hb, hml, hown, hts, hr, hlocks, hKK⟩ := X1
  have ht : ∀ w ∈ TB, w.before args s = true := fun w h => hts w (List.mem_cons_of_mem _ h)
  have hK := hKK.1
  unfold B_Mr_matches0_45 at h
  refine lv_aload_n hx hb d_Mr_matches_45 rfl (lv_at hl 0 rfl) ?_
  refine lv_aload_n hx hb d_Mr_matches_46 rfl (lv_at hl 1 rfl) ?_
  refine lv_iload hx hb d_Mr_matches_47 (lv_at hl 6 rfl) ?_
  refine lv_aload_n hx hb d_Mr_matches_49 rfl (lv_at hl 3 rfl) ?_
  refine lv_iload hx hb d_Mr_matches_50 (lv_at hl 8 rfl) ?_
  refine lv_iload hx hb d_Mr_matches_52 (lv_at hl 5 rfl) ?_
  obtain ⟨o1, ho2, h⟩ := bd_s h
  refine cl_i (W1 := fun (_ : Unit) => w_Mr g a0 o1.2 ++ (w_Tr g a1 s1 ++ (w_Tr g a2 s2 ++ (rest)))) (va_runV (As := [.ref (a1 0), .int x6, .ref (a2 0), .int x8, .int x5]) (rest := []) ⟨hx, hb, hml, hown, ht⟩ (c_Mr_fits0 (l := l) (D := D) (A := A) (g := g) (rest := rest) (a0 := a0) (a1 := a1) (a2 := a2) ho2) (cwV 5 ht (gd_V m_625 m_627 mp_34 m_10 m_628) rfl rfl rfl (by decide +kernel) ⟨(Nat.le_of_ble_eq_true rfl), (Nat.le_of_ble_eq_true rfl)⟩) (prV (ci := 2) (q0 := 0) hKK hI ((mv_2).trans ((mv_2).trans (mv_2))) rfl rfl rfl) rfl rfl hl.1 rfl (lv_room (Nat.le_of_ble_eq_true rfl)) d_Mr_matches_54 ⟨(Nat.le_of_ble_eq_true rfl), (Nat.le_of_ble_eq_true rfl)⟩) hS (fun _ => (((mv_2).trans ((mv_2).trans (mv_2)))).symm) (fun _ H locs hI hS => ?_)
  have hI : Iw D A (w_Mr g a0 o1.2 ++ (w_Tr g a1 s1 ++ (w_Tr g a2 s2 ++ (rest)))) H := hI
  refine lv_if_ne (tgt := 62) hx hb d_Mr_matches_57 (by decide) (fun hc => ?_) (fun hc => ?_)
  · have h := it_f h hc
    exact t_Mr_matches0_62 X hk8 (lv_sub hl [0, 1, 2, 3, 4, 5, 6, 7] rfl) hI hS h
  · have h := it_t h hc
    exact t_Mr_matches0_60 X (lv_sub hl [] rfl) hI hS h
set_option maxRecDepth 100000 in
set_option maxHeartbeats 4000000 in
theorem t_Mr_matches0_25 {p : Program} {l : Launch} {e : Env} {s : State} {m : MethodId} {args : Array Value} {below : List Frame} {meth : Method} {c : Code} {D : va_G} {A : Nat → Prop} {g : Nat → ClassId} {rest : va_W} {a0 : Nat → Nat} {a1 : Nat → Nat} {a2 : Nat → Nat} {ls : Array Slot} {H : Heap} {locs : List Loc} {k8 : S_Mr × Int32 × Int32 × Int32 × Int32 × Int32 → Option (Int32 × S_Mr)} {s1 : S_Tr} {s2 : S_Tr} {s0 : S_Mr} {x2 : Int32} {x4 : Int32} {x5 : Int32} {x6 : Int32} {x7 : Int32} {out : Int32 × S_Mr} (X : Cx p s m args meth c prog_4_method_2_code 9 ws_Mr_matches0 R_Mr (some .boolean) D g) (hk8 : ∀ (v : S_Mr × Int32 × Int32 × Int32 × Int32 × Int32) (ls : Array Slot) (H : Heap) (locs : List Loc), lv_has ls 9 [(0, .ref (a0 0)), (1, .ref (a1 0)), (2, .int v.2.1), (3, .ref (a2 0)), (4, .int v.2.2.1), (5, .int v.2.2.2.1), (6, .int v.2.2.2.2.1), (7, .int v.2.2.2.2.2)] → Iw D A (w_Mr g a0 v.1 ++ (w_Tr g a1 s1 ++ (w_Tr g a2 s2 ++ (rest)))) H → va_S A s.heap H locs → k8 v = some out → W p l e (headSpec ws_Mr_matches0 { frames := 7, cells := 0, slots := 0, locals := 199 }).room s m args below meth c H locs 0 0 (MQ below (QcI D A g out.1 (fun (_ : Unit) => w_Mr g a0 out.2 ++ (w_Tr g a1 s1 ++ (w_Tr g a2 s2 ++ (rest))))) args s 0 0 A) (F0 m 8 ls [])) (hl : lv_has ls 9 [(0, .ref (a0 0)), (1, .ref (a1 0)), (2, .int x2), (3, .ref (a2 0)), (4, .int x4), (5, .int x5), (6, .int x6), (7, .int x7)]) (hI : Iw D A (w_Mr g a0 s0 ++ (w_Tr g a1 s1 ++ (w_Tr g a2 s2 ++ (rest)))) H) (hS : va_S A s.heap H locs) (h : B_Mr_matches0_25 k8 s1 s2 s0 x2 x4 x5 x6 x7 = some out) : W p l e (headSpec ws_Mr_matches0 { frames := 7, cells := 0, slots := 0, locals := 199 }).room s m args below meth c H locs 0 0 (MQ below (QcI D A g out.1 (fun (_ : Unit) => w_Mr g a0 out.2 ++ (w_Tr g a1 s1 ++ (w_Tr g a2 s2 ++ (rest))))) args s 0 0 A) (F0 m 25 ls []) := by
  have X1 := X
  obtain ⟨hx, hb, hml, hown, hts, hr, hlocks, hKK⟩ := X1
  have ht : ∀ w ∈ TB, w.before args s = true := fun w h => hts w (List.mem_cons_of_mem _ h)
  have hK := hKK.1
  unfold B_Mr_matches0_25 at h
  refine lv_aload_n hx hb d_Mr_matches_25 rfl (lv_at hl 3 rfl) ?_
  refine lv_iload hx hb d_Mr_matches_26 (lv_at hl 4 rfl) ?_
  refine lv_aload_n hx hb d_Mr_matches_28 rfl (lv_at hl 1 rfl) ?_
  refine lv_iload hx hb d_Mr_matches_29 (lv_at hl 6 rfl) ?_
  obtain ⟨o1, ho2, h⟩ := bd_s h
  refine cl_i (W1 := fun (_ : Unit) => w_Mr g a0 s0 ++ (w_Tr g a1 s1 ++ (w_Tr g a2 s2 ++ (rest)))) (va_runV (As := [.int x6]) (rest := [.int x4, .ref (a2 0)]) ⟨hx, hb, hml, hown, ht⟩ (c_Tr_tag (l := l) (D := D) (A := A) (g := g) (rest := w_Mr g a0 s0 ++ (w_Tr g a2 s2 ++ (rest))) (a0 := a1) ho2) (cwV 1 ht (gd_V m_623 m_512 m_513 m_9 m_514) rfl rfl rfl (by decide +kernel) ⟨(Nat.le_of_ble_eq_true rfl), (Nat.le_of_ble_eq_true rfl)⟩) (prV (ci := 7) (q0 := 0) hKK hI (mv_1) rfl rfl rfl) rfl rfl hl.1 rfl (lv_room (Nat.le_of_ble_eq_true rfl)) d_Mr_matches_31 ⟨(Nat.le_of_ble_eq_true rfl), (Nat.le_of_ble_eq_true rfl)⟩) hS (fun _ => ((mv_1)).symm) (fun _ H locs hI hS => ?_)
  have hI : Iw D A (w_Mr g a0 s0 ++ (w_Tr g a1 s1 ++ (w_Tr g a2 s2 ++ (rest)))) H := hI
  obtain ⟨o3, ho4, h⟩ := bd_s h
  refine cl_i (W1 := fun (_ : Unit) => w_Mr g a0 s0 ++ (w_Tr g a1 s1 ++ (w_Tr g a2 s2 ++ (rest)))) (va_runV (As := [.int x4, .int o1]) (rest := []) ⟨hx, hb, hml, hown, ht⟩ (c_Tr_find (l := l) (D := D) (A := A) (g := g) (rest := w_Mr g a0 s0 ++ (w_Tr g a1 s1 ++ (rest))) (a0 := a2) ho4) (cwV 2 ht (gd_V m_624 m_504 m_505 m_9 m_506) rfl rfl rfl (by decide +kernel) ⟨(Nat.le_of_ble_eq_true rfl), (Nat.le_of_ble_eq_true rfl)⟩) (prV (ci := 7) (q0 := 0) hKK hI (mv_2) rfl rfl rfl) rfl rfl hl.1 rfl (lv_room (Nat.le_of_ble_eq_true rfl)) d_Mr_matches_34 ⟨(Nat.le_of_ble_eq_true rfl), (Nat.le_of_ble_eq_true rfl)⟩) hS (fun _ => ((mv_2)).symm) (fun _ H locs hI hS => ?_)
  have hI : Iw D A (w_Mr g a0 s0 ++ (w_Tr g a1 s1 ++ (w_Tr g a2 s2 ++ (rest)))) H := hI
  refine lv_istore hx hb d_Mr_matches_37 hl (Nat.le_of_ble_eq_true rfl) rfl (fun ls hl => ?_)
  have hl : lv_has ls 9 [(8, .int o3), (0, .ref (a0 0)), (1, .ref (a1 0)), (2, .int x2), (3, .ref (a2 0)), (4, .int x4), (5, .int x5), (6, .int x6), (7, .int x7)] := hl
  refine lv_iload hx hb d_Mr_matches_39 (lv_at hl 0 rfl) ?_
  refine lv_iconst (v := (-1)) hx hb d_Mr_matches_41 (by decide) ?_
  refine lv_icmp_eq (tgt := 60) hx hb d_Mr_matches_42 (by decide) (fun hc => ?_) (fun hc => ?_)
  · have h := it_t h hc
    exact t_Mr_matches0_60 X (lv_sub hl [] rfl) hI hS h
  · have h := it_f h hc
    exact t_Mr_matches0_45 X hk8 (lv_sub hl [1, 2, 3, 4, 5, 6, 7, 8, 0] rfl) hI hS h
set_option maxRecDepth 100000 in
set_option maxHeartbeats 4000000 in
theorem t_Mr_matches0_15 {p : Program} {l : Launch} {e : Env} {s : State} {m : MethodId} {args : Array Value} {below : List Frame} {meth : Method} {c : Code} {D : va_G} {A : Nat → Prop} {g : Nat → ClassId} {rest : va_W} {a0 : Nat → Nat} {a1 : Nat → Nat} {a2 : Nat → Nat} {ls : Array Slot} {H : Heap} {locs : List Loc} {k8 : S_Mr × Int32 × Int32 × Int32 × Int32 × Int32 → Option (Int32 × S_Mr)} {s1 : S_Tr} {s2 : S_Tr} {s0 : S_Mr} {x2 : Int32} {x4 : Int32} {x5 : Int32} {x6 : Int32} {x7 : Int32} {out : Int32 × S_Mr} (X : Cx p s m args meth c prog_4_method_2_code 9 ws_Mr_matches0 R_Mr (some .boolean) D g) (hk8 : ∀ (v : S_Mr × Int32 × Int32 × Int32 × Int32 × Int32) (ls : Array Slot) (H : Heap) (locs : List Loc), lv_has ls 9 [(0, .ref (a0 0)), (1, .ref (a1 0)), (2, .int v.2.1), (3, .ref (a2 0)), (4, .int v.2.2.1), (5, .int v.2.2.2.1), (6, .int v.2.2.2.2.1), (7, .int v.2.2.2.2.2)] → Iw D A (w_Mr g a0 v.1 ++ (w_Tr g a1 s1 ++ (w_Tr g a2 s2 ++ (rest)))) H → va_S A s.heap H locs → k8 v = some out → W p l e (headSpec ws_Mr_matches0 { frames := 7, cells := 0, slots := 0, locals := 199 }).room s m args below meth c H locs 0 0 (MQ below (QcI D A g out.1 (fun (_ : Unit) => w_Mr g a0 out.2 ++ (w_Tr g a1 s1 ++ (w_Tr g a2 s2 ++ (rest))))) args s 0 0 A) (F0 m 8 ls [])) (hl : lv_has ls 9 [(0, .ref (a0 0)), (1, .ref (a1 0)), (2, .int x2), (3, .ref (a2 0)), (4, .int x4), (5, .int x5), (6, .int x6), (7, .int x7)]) (hI : Iw D A (w_Mr g a0 s0 ++ (w_Tr g a1 s1 ++ (w_Tr g a2 s2 ++ (rest)))) H) (hS : va_S A s.heap H locs) (h : B_Mr_matches0_15 k8 s1 s2 s0 x2 x4 x5 x6 x7 = some out) : W p l e (headSpec ws_Mr_matches0 { frames := 7, cells := 0, slots := 0, locals := 199 }).room s m args below meth c H locs 0 0 (MQ below (QcI D A g out.1 (fun (_ : Unit) => w_Mr g a0 out.2 ++ (w_Tr g a1 s1 ++ (w_Tr g a2 s2 ++ (rest))))) args s 0 0 A) (F0 m 15 ls []) := by
  have X1 := X
  obtain ⟨hx, hb, hml, hown, hts, hr, hlocks, hKK⟩ := X1
  have ht : ∀ w ∈ TB, w.before args s = true := fun w h => hts w (List.mem_cons_of_mem _ h)
  have hK := hKK.1
  unfold B_Mr_matches0_15 at h
  refine lv_iload hx hb d_Mr_matches_15 (lv_at hl 6 rfl) ?_
  refine lv_aload_n hx hb d_Mr_matches_17 rfl (lv_at hl 1 rfl) ?_
  refine lv_iload_n hx hb d_Mr_matches_18 rfl (lv_at hl 2 rfl) ?_
  obtain ⟨o1, ho2, h⟩ := bd_s h
  refine cl_i (W1 := fun (_ : Unit) => w_Mr g a0 s0 ++ (w_Tr g a1 s1 ++ (w_Tr g a2 s2 ++ (rest)))) (va_runV (As := [.int x2]) (rest := [.int x6]) ⟨hx, hb, hml, hown, ht⟩ (c_Tr_behind (l := l) (D := D) (A := A) (g := g) (rest := w_Mr g a0 s0 ++ (w_Tr g a2 s2 ++ (rest))) (a0 := a1) ho2) (cwV 1 ht (gd_V m_622 m_508 m_509 m_9 m_510) rfl rfl rfl (by decide +kernel) ⟨(Nat.le_of_ble_eq_true rfl), (Nat.le_of_ble_eq_true rfl)⟩) (prV (ci := 7) (q0 := 0) hKK hI (mv_1) rfl rfl rfl) rfl rfl hl.1 rfl (lv_room (Nat.le_of_ble_eq_true rfl)) d_Mr_matches_19 ⟨(Nat.le_of_ble_eq_true rfl), (Nat.le_of_ble_eq_true rfl)⟩) hS (fun _ => ((mv_1)).symm) (fun _ H locs hI hS => ?_)
  have hI : Iw D A (w_Mr g a0 s0 ++ (w_Tr g a1 s1 ++ (w_Tr g a2 s2 ++ (rest)))) H := hI
  refine lv_icmp_ge (tgt := 76) hx hb d_Mr_matches_22 (by decide) (fun hc => ?_) (fun hc => ?_)
  · have h := it_t h hc
    exact t_Mr_matches0_76 X (lv_sub hl [] rfl) hI hS h
  · have h := it_f h hc
    exact t_Mr_matches0_25 X hk8 (lv_sub hl [0, 1, 2, 3, 4, 5, 6, 7] rfl) hI hS h
set_option maxRecDepth 100000 in
set_option maxHeartbeats 4000000 in
theorem t_Mr_matches0_8 {p : Program} {l : Launch} {e : Env} {s : State} {m : MethodId} {args : Array Value} {below : List Frame} {meth : Method} {c : Code} {D : va_G} {A : Nat → Prop} {g : Nat → ClassId} {rest : va_W} {a0 : Nat → Nat} {a1 : Nat → Nat} {a2 : Nat → Nat} {ls : Array Slot} {H : Heap} {locs : List Loc} {k8 : S_Mr × Int32 × Int32 × Int32 × Int32 × Int32 → Option (Int32 × S_Mr)} {s1 : S_Tr} {s2 : S_Tr} {s0 : S_Mr} {x2 : Int32} {x4 : Int32} {x5 : Int32} {x6 : Int32} {x7 : Int32} {out : Int32 × S_Mr} (X : Cx p s m args meth c prog_4_method_2_code 9 ws_Mr_matches0 R_Mr (some .boolean) D g) (hk8 : ∀ (v : S_Mr × Int32 × Int32 × Int32 × Int32 × Int32) (ls : Array Slot) (H : Heap) (locs : List Loc), lv_has ls 9 [(0, .ref (a0 0)), (1, .ref (a1 0)), (2, .int v.2.1), (3, .ref (a2 0)), (4, .int v.2.2.1), (5, .int v.2.2.2.1), (6, .int v.2.2.2.2.1), (7, .int v.2.2.2.2.2)] → Iw D A (w_Mr g a0 v.1 ++ (w_Tr g a1 s1 ++ (w_Tr g a2 s2 ++ (rest)))) H → va_S A s.heap H locs → k8 v = some out → W p l e (headSpec ws_Mr_matches0 { frames := 7, cells := 0, slots := 0, locals := 199 }).room s m args below meth c H locs 0 0 (MQ below (QcI D A g out.1 (fun (_ : Unit) => w_Mr g a0 out.2 ++ (w_Tr g a1 s1 ++ (w_Tr g a2 s2 ++ (rest))))) args s 0 0 A) (F0 m 8 ls [])) (hl : lv_has ls 9 [(0, .ref (a0 0)), (1, .ref (a1 0)), (2, .int x2), (3, .ref (a2 0)), (4, .int x4), (5, .int x5), (6, .int x6), (7, .int x7)]) (hI : Iw D A (w_Mr g a0 s0 ++ (w_Tr g a1 s1 ++ (w_Tr g a2 s2 ++ (rest)))) H) (hS : va_S A s.heap H locs) (h : B_Mr_matches0_8 k8 s1 s2 s0 x2 x4 x5 x6 x7 = some out) : W p l e (headSpec ws_Mr_matches0 { frames := 7, cells := 0, slots := 0, locals := 199 }).room s m args below meth c H locs 0 0 (MQ below (QcI D A g out.1 (fun (_ : Unit) => w_Mr g a0 out.2 ++ (w_Tr g a1 s1 ++ (w_Tr g a2 s2 ++ (rest))))) args s 0 0 A) (F0 m 8 ls []) := by
  have X1 := X
  obtain ⟨hx, hb, hml, hown, hts, hr, hlocks, hKK⟩ := X1
  have ht : ∀ w ∈ TB, w.before args s = true := fun w h => hts w (List.mem_cons_of_mem _ h)
  have hK := hKK.1
  unfold B_Mr_matches0_8 at h
  refine lv_iload hx hb d_Mr_matches_8 (lv_at hl 7 rfl) ?_
  refine lv_bipush (v := 10) hx hb d_Mr_matches_10 (by decide) ?_
  refine lv_icmp_ge (tgt := 76) hx hb d_Mr_matches_12 (by decide) (fun hc => ?_) (fun hc => ?_)
  · have h := it_t h hc
    exact t_Mr_matches0_76 X (lv_sub hl [] rfl) hI hS h
  · have h := it_f h hc
    exact t_Mr_matches0_15 X hk8 (lv_sub hl [0, 1, 2, 3, 4, 5, 6, 7] rfl) hI hS h
set_option maxRecDepth 100000 in
set_option maxHeartbeats 4000000 in
theorem T_Mr_matches0_8 {p : Program} {l : Launch} {e : Env} {s : State} {m : MethodId} {args : Array Value} {below : List Frame} {meth : Method} {c : Code} {D : va_G} {A : Nat → Prop} {g : Nat → ClassId} {rest : va_W} {a0 : Nat → Nat} {a1 : Nat → Nat} {a2 : Nat → Nat} {ls : Array Slot} {H : Heap} {locs : List Loc} {s1 : S_Tr} {s2 : S_Tr} {s0 : S_Mr} {x2 : Int32} {x4 : Int32} {x5 : Int32} {x6 : Int32} {x7 : Int32} {out : Int32 × S_Mr} (X : Cx p s m args meth c prog_4_method_2_code 9 ws_Mr_matches0 R_Mr (some .boolean) D g) (hl : lv_has ls 9 [(0, .ref (a0 0)), (1, .ref (a1 0)), (2, .int x2), (3, .ref (a2 0)), (4, .int x4), (5, .int x5), (6, .int x6), (7, .int x7)]) (hI : Iw D A (w_Mr g a0 s0 ++ (w_Tr g a1 s1 ++ (w_Tr g a2 s2 ++ (rest)))) H) (hS : va_S A s.heap H locs) (h : L_Mr_matches0_8  s1 s2 (s0, x2, x4, x5, x6, x7) = some out) : W p l e (headSpec ws_Mr_matches0 { frames := 7, cells := 0, slots := 0, locals := 199 }).room s m args below meth c H locs 0 0 (MQ below (QcI D A g out.1 (fun (_ : Unit) => w_Mr g a0 out.2 ++ (w_Tr g a1 s1 ++ (w_Tr g a2 s2 ++ (rest))))) args s 0 0 A) (F0 m 8 ls []) := by
  unfold L_Mr_matches0_8 at h
  exact lp_ind (P := fun v => ∀ (ls : Array Slot) (H : Heap) (locs : List Loc), lv_has ls 9 [(0, .ref (a0 0)), (1, .ref (a1 0)), (2, .int v.2.1), (3, .ref (a2 0)), (4, .int v.2.2.1), (5, .int v.2.2.2.1), (6, .int v.2.2.2.2.1), (7, .int v.2.2.2.2.2)] → Iw D A (w_Mr g a0 v.1 ++ (w_Tr g a1 s1 ++ (w_Tr g a2 s2 ++ (rest)))) H → va_S A s.heap H locs → W p l e (headSpec ws_Mr_matches0 { frames := 7, cells := 0, slots := 0, locals := 199 }).room s m args below meth c H locs 0 0 (MQ below (QcI D A g out.1 (fun (_ : Unit) => w_Mr g a0 out.2 ++ (w_Tr g a1 s1 ++ (w_Tr g a2 s2 ++ (rest))))) args s 0 0 A) (F0 m 8 ls [])) (fun k v ih hb ls H locs  hl hI hS => t_Mr_matches0_8 X  (fun v' ls H locs  hl hI hS h' => ih v' h' ls H locs  hl hI hS) hl hI hS hb) FU _ h ls H locs  hl hI hS
set_option maxRecDepth 100000 in
set_option maxHeartbeats 4000000 in
theorem t_Mr_matches0_0 {p : Program} {l : Launch} {e : Env} {s : State} {m : MethodId} {args : Array Value} {below : List Frame} {meth : Method} {c : Code} {D : va_G} {A : Nat → Prop} {g : Nat → ClassId} {rest : va_W} {a0 : Nat → Nat} {a1 : Nat → Nat} {a2 : Nat → Nat} {ls : Array Slot} {H : Heap} {locs : List Loc} {s1 : S_Tr} {s2 : S_Tr} {s0 : S_Mr} {x2 : Int32} {x4 : Int32} {x5 : Int32} {out : Int32 × S_Mr} (X : Cx p s m args meth c prog_4_method_2_code 9 ws_Mr_matches0 R_Mr (some .boolean) D g) (hl : lv_has ls 9 [(0, .ref (a0 0)), (1, .ref (a1 0)), (2, .int x2), (3, .ref (a2 0)), (4, .int x4), (5, .int x5)]) (hI : Iw D A (w_Mr g a0 s0 ++ (w_Tr g a1 s1 ++ (w_Tr g a2 s2 ++ (rest)))) H) (hS : va_S A s.heap H locs) (h : B_Mr_matches0_0  s1 s2 s0 x2 x4 x5 = some out) : W p l e (headSpec ws_Mr_matches0 { frames := 7, cells := 0, slots := 0, locals := 199 }).room s m args below meth c H locs 0 0 (MQ below (QcI D A g out.1 (fun (_ : Unit) => w_Mr g a0 out.2 ++ (w_Tr g a1 s1 ++ (w_Tr g a2 s2 ++ (rest))))) args s 0 0 A) (F0 m 0 ls []) := by
  have X1 := X
  obtain ⟨hx, hb, hml, hown, hts, hr, hlocks, hKK⟩ := X1
  have ht : ∀ w ∈ TB, w.before args s = true := fun w h => hts w (List.mem_cons_of_mem _ h)
  have hK := hKK.1
  unfold B_Mr_matches0_0 at h
  refine lv_iload_n hx hb d_Mr_matches_0 rfl (lv_at hl 2 rfl) ?_
  refine lv_iconst (v := 1) hx hb d_Mr_matches_1 (by decide) ?_
  refine lv_iadd hx hb d_Mr_matches_2 ?_
  refine lv_istore hx hb d_Mr_matches_3 hl (Nat.le_of_ble_eq_true rfl) rfl (fun ls hl => ?_)
  have hl : lv_has ls 9 [(6, .int (x2 + (1 : Int32))), (0, .ref (a0 0)), (1, .ref (a1 0)), (2, .int x2), (3, .ref (a2 0)), (4, .int x4), (5, .int x5)] := hl
  refine lv_iconst (v := 0) hx hb d_Mr_matches_5 (by decide) ?_
  refine lv_istore hx hb d_Mr_matches_6 hl (Nat.le_of_ble_eq_true rfl) rfl (fun ls hl => ?_)
  have hl : lv_has ls 9 [(7, .int (0 : Int32)), (6, .int (x2 + (1 : Int32))), (0, .ref (a0 0)), (1, .ref (a1 0)), (2, .int x2), (3, .ref (a2 0)), (4, .int x4), (5, .int x5)] := hl
  exact T_Mr_matches0_8 X (lv_sub hl [2, 3, 4, 5, 6, 7, 1, 0] rfl) hI hS h
set_option maxRecDepth 100000 in
set_option maxHeartbeats 4000000 in
theorem c_Mr_matches0 {l : Launch} {D : va_G} {A : Nat → Prop} {g : Nat → ClassId} {rest : va_W} {a0 : Nat → Nat} {a1 : Nat → Nat} {a2 : Nat → Nat} {s0 : S_Mr} {s1 : S_Tr} {s2 : S_Tr} {x2 : Int32} {x4 : Int32} {x5 : Int32} {out : Int32 × S_Mr} (h : F_Mr_matches0 s0 s1 s2 x2 x4 x5 = some out) : Met l y_Mr_matches ws_Mr_matches0 { frames := 7, cells := 0, slots := 0, locals := 199 } (PcW D A g [.ref (a0 0), .ref (a1 0), .int x2, .ref (a2 0), .int x4, .int x5] (w_Mr g a0 s0 ++ (w_Tr g a1 s1 ++ (w_Tr g a2 s2 ++ (rest))))) (QcI D A g out.1 (fun (_ : Unit) => w_Mr g a0 out.2 ++ (w_Tr g a1 s1 ++ (w_Tr g a2 s2 ++ (rest))))) 0 0 A := by
  refine Met.ofW (cc := prog_4_method_2_code) (maxL := 9) (ret := (some .boolean)) (by decide) rfl ?_
  intro p e s m args below meth c s₁ B hml hv
  obtain ⟨rfl, hI, hK⟩ := hv
  have hl := lv_entry [.ref (a0 0), .ref (a1 0), .int x2, .ref (a2 0), .int x4, .int x5] (n := 9) (Nat.le_of_ble_eq_true rfl)
  rw [lg_entry_eq]
  generalize (lg_sl [.ref (a0 0), .ref (a1 0), .int x2, .ref (a2 0), .int x4, .int x5] ++ List.replicate (9 - (lg_sl [.ref (a0 0), .ref (a1 0), .int x2, .ref (a2 0), .int x4, .int x5]).length) Slot.unset).toArray = ls at hl ⊢
  have hl : lv_has ls 9 [(0, .ref (a0 0)), (1, .ref (a1 0)), (2, .int x2), (3, .ref (a2 0)), (4, .int x4), (5, .int x5)] := hl
  exact t_Mr_matches0_0 ⟨B.exec, B.bytes, hml, findClass_of_methodNamed B.named, atoms_spec (ws := ws_Mr_matches0) B.pre, B.returns, B.notSynchronized, hK⟩ (lv_sub hl [0, 1, 2, 3, 4, 5] rfl) hI va_S.rf h
