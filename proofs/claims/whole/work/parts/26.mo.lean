theorem d_Mo_fragment_0 : decode prog_11_method_39_code 0 = .ok (.iload_n 1, 1) := by decide +kernel
theorem d_Mo_fragment_1 : decode prog_11_method_39_code 1 = .ok (.iconst 2, 1) := by decide +kernel
theorem d_Mo_fragment_2 : decode prog_11_method_39_code 2 = .ok (.if_icmp .ge 7, 3) := by decide +kernel
theorem d_Mo_fragment_5 : decode prog_11_method_39_code 5 = .ok (.iconst (-1), 1) := by decide +kernel
theorem d_Mo_fragment_6 : decode prog_11_method_39_code 6 = .ok (.goto 13, 3) := by decide +kernel
theorem d_Mo_fragment_9 : decode prog_11_method_39_code 9 = .ok (.aload_n 0, 1) := by decide +kernel
theorem d_Mo_fragment_10 : decode prog_11_method_39_code 10 = .ok (.aload_n 0, 1) := by decide +kernel
theorem d_Mo_fragment_11 : decode prog_11_method_39_code 11 = .ok (.getfield 74, 3) := by decide +kernel
theorem d_Mo_fragment_14 : decode prog_11_method_39_code 14 = .ok (.iconst 2, 1) := by decide +kernel
theorem d_Mo_fragment_15 : decode prog_11_method_39_code 15 = .ok (.iaload, 1) := by decide +kernel
theorem d_Mo_fragment_16 : decode prog_11_method_39_code 16 = .ok (.invokevirtual 244, 3) := by decide +kernel
theorem d_Mo_fragment_19 : decode prog_11_method_39_code 19 = .ok (.istore_n 2, 1) := by decide +kernel
theorem d_Mo_fragment_20 : decode prog_11_method_39_code 20 = .ok (.iload_n 2, 1) := by decide +kernel
theorem d_Mo_fragment_21 : decode prog_11_method_39_code 21 = .ok (.ifCond .lt 23, 3) := by decide +kernel
theorem d_Mo_fragment_24 : decode prog_11_method_39_code 24 = .ok (.aload_n 0, 1) := by decide +kernel
theorem d_Mo_fragment_25 : decode prog_11_method_39_code 25 = .ok (.getfield 86, 3) := by decide +kernel
theorem d_Mo_fragment_28 : decode prog_11_method_39_code 28 = .ok (.iload_n 2, 1) := by decide +kernel
theorem d_Mo_fragment_29 : decode prog_11_method_39_code 29 = .ok (.iaload, 1) := by decide +kernel
theorem d_Mo_fragment_30 : decode prog_11_method_39_code 30 = .ok (.iconst 1, 1) := by decide +kernel
theorem d_Mo_fragment_31 : decode prog_11_method_39_code 31 = .ok (.if_icmp .gt 13, 3) := by decide +kernel
theorem d_Mo_fragment_34 : decode prog_11_method_39_code 34 = .ok (.aload_n 0, 1) := by decide +kernel
theorem d_Mo_fragment_35 : decode prog_11_method_39_code 35 = .ok (.getfield 74, 3) := by decide +kernel
theorem d_Mo_fragment_38 : decode prog_11_method_39_code 38 = .ok (.iconst 3, 1) := by decide +kernel
theorem d_Mo_fragment_39 : decode prog_11_method_39_code 39 = .ok (.iaload, 1) := by decide +kernel
theorem d_Mo_fragment_40 : decode prog_11_method_39_code 40 = .ok (.iconst 3, 1) := by decide +kernel
theorem d_Mo_fragment_41 : decode prog_11_method_39_code 41 = .ok (.if_icmp .le 5, 3) := by decide +kernel
theorem d_Mo_fragment_44 : decode prog_11_method_39_code 44 = .ok (.iconst 0, 1) := by decide +kernel
theorem d_Mo_fragment_45 : decode prog_11_method_39_code 45 = .ok (.ireturn, 1) := by decide +kernel
theorem d_Mo_fragment_46 : decode prog_11_method_39_code 46 = .ok (.aload_n 0, 1) := by decide +kernel
theorem d_Mo_fragment_47 : decode prog_11_method_39_code 47 = .ok (.getfield 74, 3) := by decide +kernel
theorem d_Mo_fragment_50 : decode prog_11_method_39_code 50 = .ok (.iconst 3, 1) := by decide +kernel
theorem d_Mo_fragment_51 : decode prog_11_method_39_code 51 = .ok (.iaload, 1) := by decide +kernel
theorem d_Mo_fragment_52 : decode prog_11_method_39_code 52 = .ok (.iconst 2, 1) := by decide +kernel
theorem d_Mo_fragment_53 : decode prog_11_method_39_code 53 = .ok (.irem, 1) := by decide +kernel
theorem d_Mo_fragment_54 : decode prog_11_method_39_code 54 = .ok (.iconst 1, 1) := by decide +kernel
theorem d_Mo_fragment_55 : decode prog_11_method_39_code 55 = .ok (.if_icmp .ne 7, 3) := by decide +kernel
theorem d_Mo_fragment_58 : decode prog_11_method_39_code 58 = .ok (.iconst 1, 1) := by decide +kernel
theorem d_Mo_fragment_59 : decode prog_11_method_39_code 59 = .ok (.goto 4, 3) := by decide +kernel
theorem d_Mo_fragment_62 : decode prog_11_method_39_code 62 = .ok (.iconst 0, 1) := by decide +kernel
theorem d_Mo_fragment_63 : decode prog_11_method_39_code 63 = .ok (.istore_n 3, 1) := by decide +kernel
theorem d_Mo_fragment_64 : decode prog_11_method_39_code 64 = .ok (.iload_n 3, 1) := by decide +kernel
theorem d_Mo_fragment_65 : decode prog_11_method_39_code 65 = .ok (.aload_n 0, 1) := by decide +kernel
theorem d_Mo_fragment_66 : decode prog_11_method_39_code 66 = .ok (.getfield 198, 3) := by decide +kernel
theorem d_Mo_fragment_69 : decode prog_11_method_39_code 69 = .ok (.ifCond .ne 7, 3) := by decide +kernel
theorem d_Mo_fragment_72 : decode prog_11_method_39_code 72 = .ok (.iconst 1, 1) := by decide +kernel
theorem d_Mo_fragment_73 : decode prog_11_method_39_code 73 = .ok (.goto 4, 3) := by decide +kernel
theorem d_Mo_fragment_76 : decode prog_11_method_39_code 76 = .ok (.iconst 0, 1) := by decide +kernel
theorem d_Mo_fragment_77 : decode prog_11_method_39_code 77 = .ok (.if_icmp .ne 18, 3) := by decide +kernel
theorem d_Mo_fragment_80 : decode prog_11_method_39_code 80 = .ok (.aload_n 0, 1) := by decide +kernel
theorem d_Mo_fragment_81 : decode prog_11_method_39_code 81 = .ok (.getfield 207, 3) := by decide +kernel
theorem d_Mo_fragment_84 : decode prog_11_method_39_code 84 = .ok (.ifCond .lt 13, 3) := by decide +kernel
theorem d_Mo_fragment_87 : decode prog_11_method_39_code 87 = .ok (.aload_n 0, 1) := by decide +kernel
theorem d_Mo_fragment_88 : decode prog_11_method_39_code 88 = .ok (.getfield 207, 3) := by decide +kernel
theorem d_Mo_fragment_91 : decode prog_11_method_39_code 91 = .ok (.iload_n 2, 1) := by decide +kernel
theorem d_Mo_fragment_92 : decode prog_11_method_39_code 92 = .ok (.if_icmp .eq 5, 3) := by decide +kernel
theorem d_Mo_fragment_95 : decode prog_11_method_39_code 95 = .ok (.iconst 0, 1) := by decide +kernel
theorem d_Mo_fragment_96 : decode prog_11_method_39_code 96 = .ok (.ireturn, 1) := by decide +kernel
theorem d_Mo_fragment_97 : decode prog_11_method_39_code 97 = .ok (.iload_n 1, 1) := by decide +kernel
theorem d_Mo_fragment_98 : decode prog_11_method_39_code 98 = .ok (.iconst 2, 1) := by decide +kernel
theorem d_Mo_fragment_99 : decode prog_11_method_39_code 99 = .ok (.isub, 1) := by decide +kernel
theorem d_Mo_fragment_100 : decode prog_11_method_39_code 100 = .ok (.istore 4, 2) := by decide +kernel
theorem d_Mo_fragment_102 : decode prog_11_method_39_code 102 = .ok (.iload_n 3, 1) := by decide +kernel
theorem d_Mo_fragment_103 : decode prog_11_method_39_code 103 = .ok (.ifCond .eq 10, 3) := by decide +kernel
theorem d_Mo_fragment_106 : decode prog_11_method_39_code 106 = .ok (.aload_n 0, 1) := by decide +kernel
theorem d_Mo_fragment_107 : decode prog_11_method_39_code 107 = .ok (.getfield 201, 3) := by decide +kernel
theorem d_Mo_fragment_110 : decode prog_11_method_39_code 110 = .ok (.goto 7, 3) := by decide +kernel
theorem d_Mo_fragment_113 : decode prog_11_method_39_code 113 = .ok (.aload_n 0, 1) := by decide +kernel
theorem d_Mo_fragment_114 : decode prog_11_method_39_code 114 = .ok (.getfield 204, 3) := by decide +kernel
theorem d_Mo_fragment_117 : decode prog_11_method_39_code 117 = .ok (.iload 4, 2) := by decide +kernel
theorem d_Mo_fragment_119 : decode prog_11_method_39_code 119 = .ok (.iadd, 1) := by decide +kernel
theorem d_Mo_fragment_120 : decode prog_11_method_39_code 120 = .ok (.sipush 200, 3) := by decide +kernel
theorem d_Mo_fragment_123 : decode prog_11_method_39_code 123 = .ok (.if_icmp .le 5, 3) := by decide +kernel
theorem d_Mo_fragment_126 : decode prog_11_method_39_code 126 = .ok (.iconst 0, 1) := by decide +kernel
theorem d_Mo_fragment_127 : decode prog_11_method_39_code 127 = .ok (.ireturn, 1) := by decide +kernel
theorem d_Mo_fragment_128 : decode prog_11_method_39_code 128 = .ok (.aload_n 0, 1) := by decide +kernel
theorem d_Mo_fragment_129 : decode prog_11_method_39_code 129 = .ok (.iload_n 2, 1) := by decide +kernel
theorem d_Mo_fragment_130 : decode prog_11_method_39_code 130 = .ok (.putfield 207, 3) := by decide +kernel
theorem d_Mo_fragment_133 : decode prog_11_method_39_code 133 = .ok (.iconst 0, 1) := by decide +kernel
theorem d_Mo_fragment_134 : decode prog_11_method_39_code 134 = .ok (.istore 5, 2) := by decide +kernel
theorem d_Mo_fragment_136 : decode prog_11_method_39_code 136 = .ok (.iload 5, 2) := by decide +kernel
theorem d_Mo_fragment_138 : decode prog_11_method_39_code 138 = .ok (.iload 4, 2) := by decide +kernel
theorem d_Mo_fragment_140 : decode prog_11_method_39_code 140 = .ok (.if_icmp .ge 58, 3) := by decide +kernel
theorem d_Mo_fragment_143 : decode prog_11_method_39_code 143 = .ok (.iload_n 3, 1) := by decide +kernel
theorem d_Mo_fragment_144 : decode prog_11_method_39_code 144 = .ok (.ifCond .eq 27, 3) := by decide +kernel
theorem d_Mo_fragment_147 : decode prog_11_method_39_code 147 = .ok (.aload_n 0, 1) := by decide +kernel
theorem d_Mo_fragment_148 : decode prog_11_method_39_code 148 = .ok (.getfield 89, 3) := by decide +kernel
theorem d_Mo_fragment_151 : decode prog_11_method_39_code 151 = .ok (.aload_n 0, 1) := by decide +kernel
theorem d_Mo_fragment_152 : decode prog_11_method_39_code 152 = .ok (.getfield 201, 3) := by decide +kernel
theorem d_Mo_fragment_155 : decode prog_11_method_39_code 155 = .ok (.iload 5, 2) := by decide +kernel
theorem d_Mo_fragment_157 : decode prog_11_method_39_code 157 = .ok (.iadd, 1) := by decide +kernel
theorem d_Mo_fragment_158 : decode prog_11_method_39_code 158 = .ok (.aload_n 0, 1) := by decide +kernel
theorem d_Mo_fragment_159 : decode prog_11_method_39_code 159 = .ok (.getfield 74, 3) := by decide +kernel
theorem d_Mo_fragment_162 : decode prog_11_method_39_code 162 = .ok (.iconst 4, 1) := by decide +kernel
theorem d_Mo_fragment_163 : decode prog_11_method_39_code 163 = .ok (.iload 5, 2) := by decide +kernel
theorem d_Mo_fragment_165 : decode prog_11_method_39_code 165 = .ok (.iadd, 1) := by decide +kernel
theorem d_Mo_fragment_166 : decode prog_11_method_39_code 166 = .ok (.iaload, 1) := by decide +kernel
theorem d_Mo_fragment_167 : decode prog_11_method_39_code 167 = .ok (.iastore, 1) := by decide +kernel
theorem d_Mo_fragment_168 : decode prog_11_method_39_code 168 = .ok (.goto 24, 3) := by decide +kernel
theorem d_Mo_fragment_171 : decode prog_11_method_39_code 171 = .ok (.aload_n 0, 1) := by decide +kernel
theorem d_Mo_fragment_172 : decode prog_11_method_39_code 172 = .ok (.getfield 92, 3) := by decide +kernel
theorem d_Mo_fragment_175 : decode prog_11_method_39_code 175 = .ok (.aload_n 0, 1) := by decide +kernel
theorem d_Mo_fragment_176 : decode prog_11_method_39_code 176 = .ok (.getfield 204, 3) := by decide +kernel
theorem d_Mo_fragment_179 : decode prog_11_method_39_code 179 = .ok (.iload 5, 2) := by decide +kernel
theorem d_Mo_fragment_181 : decode prog_11_method_39_code 181 = .ok (.iadd, 1) := by decide +kernel
theorem d_Mo_fragment_182 : decode prog_11_method_39_code 182 = .ok (.aload_n 0, 1) := by decide +kernel
theorem d_Mo_fragment_183 : decode prog_11_method_39_code 183 = .ok (.getfield 74, 3) := by decide +kernel
theorem d_Mo_fragment_186 : decode prog_11_method_39_code 186 = .ok (.iconst 4, 1) := by decide +kernel
theorem d_Mo_fragment_187 : decode prog_11_method_39_code 187 = .ok (.iload 5, 2) := by decide +kernel
theorem d_Mo_fragment_189 : decode prog_11_method_39_code 189 = .ok (.iadd, 1) := by decide +kernel
theorem d_Mo_fragment_190 : decode prog_11_method_39_code 190 = .ok (.iaload, 1) := by decide +kernel
theorem d_Mo_fragment_191 : decode prog_11_method_39_code 191 = .ok (.iastore, 1) := by decide +kernel
theorem d_Mo_fragment_192 : decode prog_11_method_39_code 192 = .ok (.iinc 5 1, 3) := by decide +kernel
theorem d_Mo_fragment_195 : decode prog_11_method_39_code 195 = .ok (.goto (-59), 3) := by decide +kernel
theorem d_Mo_fragment_198 : decode prog_11_method_39_code 198 = .ok (.aload_n 0, 1) := by decide +kernel
theorem d_Mo_fragment_199 : decode prog_11_method_39_code 199 = .ok (.dup, 1) := by decide +kernel
theorem d_Mo_fragment_200 : decode prog_11_method_39_code 200 = .ok (.getfield 201, 3) := by decide +kernel
theorem d_Mo_fragment_203 : decode prog_11_method_39_code 203 = .ok (.iload_n 3, 1) := by decide +kernel
theorem d_Mo_fragment_204 : decode prog_11_method_39_code 204 = .ok (.ifCond .eq 8, 3) := by decide +kernel
theorem d_Mo_fragment_207 : decode prog_11_method_39_code 207 = .ok (.iload 4, 2) := by decide +kernel
theorem d_Mo_fragment_209 : decode prog_11_method_39_code 209 = .ok (.goto 4, 3) := by decide +kernel
theorem d_Mo_fragment_212 : decode prog_11_method_39_code 212 = .ok (.iconst 0, 1) := by decide +kernel
theorem d_Mo_fragment_213 : decode prog_11_method_39_code 213 = .ok (.iadd, 1) := by decide +kernel
theorem d_Mo_fragment_214 : decode prog_11_method_39_code 214 = .ok (.putfield 201, 3) := by decide +kernel
theorem d_Mo_fragment_217 : decode prog_11_method_39_code 217 = .ok (.aload_n 0, 1) := by decide +kernel
theorem d_Mo_fragment_218 : decode prog_11_method_39_code 218 = .ok (.dup, 1) := by decide +kernel
theorem d_Mo_fragment_219 : decode prog_11_method_39_code 219 = .ok (.getfield 204, 3) := by decide +kernel
theorem d_Mo_fragment_222 : decode prog_11_method_39_code 222 = .ok (.iload_n 3, 1) := by decide +kernel
theorem d_Mo_fragment_223 : decode prog_11_method_39_code 223 = .ok (.ifCond .eq 7, 3) := by decide +kernel
theorem d_Mo_fragment_226 : decode prog_11_method_39_code 226 = .ok (.iconst 0, 1) := by decide +kernel
theorem d_Mo_fragment_227 : decode prog_11_method_39_code 227 = .ok (.goto 5, 3) := by decide +kernel
theorem d_Mo_fragment_230 : decode prog_11_method_39_code 230 = .ok (.iload 4, 2) := by decide +kernel
theorem d_Mo_fragment_232 : decode prog_11_method_39_code 232 = .ok (.iadd, 1) := by decide +kernel
theorem d_Mo_fragment_233 : decode prog_11_method_39_code 233 = .ok (.putfield 204, 3) := by decide +kernel
theorem d_Mo_fragment_236 : decode prog_11_method_39_code 236 = .ok (.aload_n 0, 1) := by decide +kernel
theorem d_Mo_fragment_237 : decode prog_11_method_39_code 237 = .ok (.getfield 74, 3) := by decide +kernel
theorem d_Mo_fragment_240 : decode prog_11_method_39_code 240 = .ok (.iconst 3, 1) := by decide +kernel
theorem d_Mo_fragment_241 : decode prog_11_method_39_code 241 = .ok (.iaload, 1) := by decide +kernel
theorem d_Mo_fragment_242 : decode prog_11_method_39_code 242 = .ok (.iconst 2, 1) := by decide +kernel
theorem d_Mo_fragment_243 : decode prog_11_method_39_code 243 = .ok (.if_icmp .ge 5, 3) := by decide +kernel
theorem d_Mo_fragment_246 : decode prog_11_method_39_code 246 = .ok (.iconst 1, 1) := by decide +kernel
theorem d_Mo_fragment_247 : decode prog_11_method_39_code 247 = .ok (.ireturn, 1) := by decide +kernel
theorem d_Mo_fragment_248 : decode prog_11_method_39_code 248 = .ok (.iload_n 3, 1) := by decide +kernel
theorem d_Mo_fragment_249 : decode prog_11_method_39_code 249 = .ok (.ifCond .ne 8, 3) := by decide +kernel
theorem d_Mo_fragment_252 : decode prog_11_method_39_code 252 = .ok (.aload_n 0, 1) := by decide +kernel
theorem d_Mo_fragment_253 : decode prog_11_method_39_code 253 = .ok (.iconst 1, 1) := by decide +kernel
theorem d_Mo_fragment_254 : decode prog_11_method_39_code 254 = .ok (.invokevirtual 247, 3) := by decide +kernel
theorem d_Mo_fragment_257 : decode prog_11_method_39_code 257 = .ok (.iload_n 3, 1) := by decide +kernel
theorem d_Mo_fragment_258 : decode prog_11_method_39_code 258 = .ok (.ifCond .eq 10, 3) := by decide +kernel
theorem d_Mo_fragment_261 : decode prog_11_method_39_code 261 = .ok (.aload_n 0, 1) := by decide +kernel
theorem d_Mo_fragment_262 : decode prog_11_method_39_code 262 = .ok (.invokevirtual 251, 3) := by decide +kernel
theorem d_Mo_fragment_265 : decode prog_11_method_39_code 265 = .ok (.ifCond .eq 7, 3) := by decide +kernel
theorem d_Mo_fragment_268 : decode prog_11_method_39_code 268 = .ok (.iconst 1, 1) := by decide +kernel
theorem d_Mo_fragment_269 : decode prog_11_method_39_code 269 = .ok (.goto 4, 3) := by decide +kernel
theorem d_Mo_fragment_272 : decode prog_11_method_39_code 272 = .ok (.iconst 0, 1) := by decide +kernel
theorem d_Mo_fragment_273 : decode prog_11_method_39_code 273 = .ok (.ireturn, 1) := by decide +kernel
theorem d_Mo_isRequest_0 : decode prog_11_method_36_code 0 = .ok (.iload_n 1, 1) := by decide +kernel
theorem d_Mo_isRequest_1 : decode prog_11_method_36_code 1 = .ok (.iconst 5, 1) := by decide +kernel
theorem d_Mo_isRequest_2 : decode prog_11_method_36_code 2 = .ok (.if_icmp .lt 21, 3) := by decide +kernel
theorem d_Mo_isRequest_5 : decode prog_11_method_36_code 5 = .ok (.iload_n 1, 1) := by decide +kernel
theorem d_Mo_isRequest_6 : decode prog_11_method_36_code 6 = .ok (.bipush 14, 2) := by decide +kernel
theorem d_Mo_isRequest_8 : decode prog_11_method_36_code 8 = .ok (.if_icmp .gt 15, 3) := by decide +kernel
theorem d_Mo_isRequest_11 : decode prog_11_method_36_code 11 = .ok (.iload_n 1, 1) := by decide +kernel
theorem d_Mo_isRequest_12 : decode prog_11_method_36_code 12 = .ok (.iconst 2, 1) := by decide +kernel
theorem d_Mo_isRequest_13 : decode prog_11_method_36_code 13 = .ok (.isub, 1) := by decide +kernel
theorem d_Mo_isRequest_14 : decode prog_11_method_36_code 14 = .ok (.iconst 3, 1) := by decide +kernel
theorem d_Mo_isRequest_15 : decode prog_11_method_36_code 15 = .ok (.irem, 1) := by decide +kernel
theorem d_Mo_isRequest_16 : decode prog_11_method_36_code 16 = .ok (.ifCond .ne 7, 3) := by decide +kernel
theorem d_Mo_isRequest_19 : decode prog_11_method_36_code 19 = .ok (.iconst 1, 1) := by decide +kernel
theorem d_Mo_isRequest_20 : decode prog_11_method_36_code 20 = .ok (.goto 4, 3) := by decide +kernel
theorem d_Mo_isRequest_23 : decode prog_11_method_36_code 23 = .ok (.iconst 0, 1) := by decide +kernel
theorem d_Mo_isRequest_24 : decode prog_11_method_36_code 24 = .ok (.istore_n 2, 1) := by decide +kernel
theorem d_Mo_isRequest_25 : decode prog_11_method_36_code 25 = .ok (.iconst 4, 1) := by decide +kernel
theorem d_Mo_isRequest_26 : decode prog_11_method_36_code 26 = .ok (.istore_n 3, 1) := by decide +kernel
theorem d_Mo_isRequest_27 : decode prog_11_method_36_code 27 = .ok (.iload_n 3, 1) := by decide +kernel
theorem d_Mo_isRequest_28 : decode prog_11_method_36_code 28 = .ok (.iconst 2, 1) := by decide +kernel
theorem d_Mo_isRequest_29 : decode prog_11_method_36_code 29 = .ok (.iload_n 1, 1) := by decide +kernel
theorem d_Mo_isRequest_30 : decode prog_11_method_36_code 30 = .ok (.iadd, 1) := by decide +kernel
theorem d_Mo_isRequest_31 : decode prog_11_method_36_code 31 = .ok (.if_icmp .ge 72, 3) := by decide +kernel
theorem d_Mo_isRequest_34 : decode prog_11_method_36_code 34 = .ok (.iload_n 2, 1) := by decide +kernel
theorem d_Mo_isRequest_35 : decode prog_11_method_36_code 35 = .ok (.ifCond .eq 68, 3) := by decide +kernel
theorem d_Mo_isRequest_38 : decode prog_11_method_36_code 38 = .ok (.aload_n 0, 1) := by decide +kernel
theorem d_Mo_isRequest_39 : decode prog_11_method_36_code 39 = .ok (.getfield 74, 3) := by decide +kernel
theorem d_Mo_isRequest_42 : decode prog_11_method_36_code 42 = .ok (.iload_n 3, 1) := by decide +kernel
theorem d_Mo_isRequest_43 : decode prog_11_method_36_code 43 = .ok (.iaload, 1) := by decide +kernel
theorem d_Mo_isRequest_44 : decode prog_11_method_36_code 44 = .ok (.iconst 2, 1) := by decide +kernel
theorem d_Mo_isRequest_45 : decode prog_11_method_36_code 45 = .ok (.irem, 1) := by decide +kernel
theorem d_Mo_isRequest_46 : decode prog_11_method_36_code 46 = .ok (.iconst 1, 1) := by decide +kernel
theorem d_Mo_isRequest_47 : decode prog_11_method_36_code 47 = .ok (.if_icmp .ne 7, 3) := by decide +kernel
theorem d_Mo_isRequest_50 : decode prog_11_method_36_code 50 = .ok (.iconst 1, 1) := by decide +kernel
theorem d_Mo_isRequest_51 : decode prog_11_method_36_code 51 = .ok (.goto 4, 3) := by decide +kernel
theorem d_Mo_isRequest_54 : decode prog_11_method_36_code 54 = .ok (.iconst 0, 1) := by decide +kernel
theorem d_Mo_isRequest_55 : decode prog_11_method_36_code 55 = .ok (.istore_n 2, 1) := by decide +kernel
theorem d_Mo_isRequest_56 : decode prog_11_method_36_code 56 = .ok (.iconst 4, 1) := by decide +kernel
theorem d_Mo_isRequest_57 : decode prog_11_method_36_code 57 = .ok (.istore 4, 2) := by decide +kernel
theorem d_Mo_isRequest_59 : decode prog_11_method_36_code 59 = .ok (.iload 4, 2) := by decide +kernel
theorem d_Mo_isRequest_61 : decode prog_11_method_36_code 61 = .ok (.iload_n 3, 1) := by decide +kernel
theorem d_Mo_isRequest_62 : decode prog_11_method_36_code 62 = .ok (.if_icmp .ge 35, 3) := by decide +kernel
theorem d_Mo_isRequest_65 : decode prog_11_method_36_code 65 = .ok (.iload_n 2, 1) := by decide +kernel
theorem d_Mo_isRequest_66 : decode prog_11_method_36_code 66 = .ok (.ifCond .eq 23, 3) := by decide +kernel
theorem d_Mo_isRequest_69 : decode prog_11_method_36_code 69 = .ok (.aload_n 0, 1) := by decide +kernel
theorem d_Mo_isRequest_70 : decode prog_11_method_36_code 70 = .ok (.getfield 74, 3) := by decide +kernel
theorem d_Mo_isRequest_73 : decode prog_11_method_36_code 73 = .ok (.iload 4, 2) := by decide +kernel
theorem d_Mo_isRequest_75 : decode prog_11_method_36_code 75 = .ok (.iaload, 1) := by decide +kernel
theorem d_Mo_isRequest_76 : decode prog_11_method_36_code 76 = .ok (.aload_n 0, 1) := by decide +kernel
theorem d_Mo_isRequest_77 : decode prog_11_method_36_code 77 = .ok (.getfield 74, 3) := by decide +kernel
theorem d_Mo_isRequest_80 : decode prog_11_method_36_code 80 = .ok (.iload_n 3, 1) := by decide +kernel
theorem d_Mo_isRequest_81 : decode prog_11_method_36_code 81 = .ok (.iaload, 1) := by decide +kernel
theorem d_Mo_isRequest_82 : decode prog_11_method_36_code 82 = .ok (.if_icmp .eq 7, 3) := by decide +kernel
theorem d_Mo_isRequest_85 : decode prog_11_method_36_code 85 = .ok (.iconst 1, 1) := by decide +kernel
theorem d_Mo_isRequest_86 : decode prog_11_method_36_code 86 = .ok (.goto 4, 3) := by decide +kernel
theorem d_Mo_isRequest_89 : decode prog_11_method_36_code 89 = .ok (.iconst 0, 1) := by decide +kernel
theorem d_Mo_isRequest_90 : decode prog_11_method_36_code 90 = .ok (.istore_n 2, 1) := by decide +kernel
theorem d_Mo_isRequest_91 : decode prog_11_method_36_code 91 = .ok (.iinc 4 3, 3) := by decide +kernel
theorem d_Mo_isRequest_94 : decode prog_11_method_36_code 94 = .ok (.goto (-35), 3) := by decide +kernel
theorem d_Mo_isRequest_97 : decode prog_11_method_36_code 97 = .ok (.iinc 3 3, 3) := by decide +kernel
theorem d_Mo_isRequest_100 : decode prog_11_method_36_code 100 = .ok (.goto (-73), 3) := by decide +kernel
theorem d_Mo_isRequest_103 : decode prog_11_method_36_code 103 = .ok (.iload_n 2, 1) := by decide +kernel
theorem d_Mo_isRequest_104 : decode prog_11_method_36_code 104 = .ok (.ireturn, 1) := by decide +kernel
theorem d_Mo_request_0 : decode prog_11_method_37_code 0 = .ok (.aload_n 0, 1) := by decide +kernel
theorem d_Mo_request_1 : decode prog_11_method_37_code 1 = .ok (.iconst 0, 1) := by decide +kernel
theorem d_Mo_request_2 : decode prog_11_method_37_code 2 = .ok (.putfield 155, 3) := by decide +kernel
theorem d_Mo_request_5 : decode prog_11_method_37_code 5 = .ok (.aload_n 0, 1) := by decide +kernel
theorem d_Mo_request_6 : decode prog_11_method_37_code 6 = .ok (.getfield 74, 3) := by decide +kernel
theorem d_Mo_request_9 : decode prog_11_method_37_code 9 = .ok (.iconst 2, 1) := by decide +kernel
theorem d_Mo_request_10 : decode prog_11_method_37_code 10 = .ok (.iaload, 1) := by decide +kernel
theorem d_Mo_request_11 : decode prog_11_method_37_code 11 = .ok (.iconst 2, 1) := by decide +kernel
theorem d_Mo_request_12 : decode prog_11_method_37_code 12 = .ok (.irem, 1) := by decide +kernel
theorem d_Mo_request_13 : decode prog_11_method_37_code 13 = .ok (.ifCond .eq 13, 3) := by decide +kernel
theorem d_Mo_request_16 : decode prog_11_method_37_code 16 = .ok (.aload_n 0, 1) := by decide +kernel
theorem d_Mo_request_17 : decode prog_11_method_37_code 17 = .ok (.getfield 74, 3) := by decide +kernel
theorem d_Mo_request_20 : decode prog_11_method_37_code 20 = .ok (.iconst 3, 1) := by decide +kernel
theorem d_Mo_request_21 : decode prog_11_method_37_code 21 = .ok (.iaload, 1) := by decide +kernel
theorem d_Mo_request_22 : decode prog_11_method_37_code 22 = .ok (.iconst 1, 1) := by decide +kernel
theorem d_Mo_request_23 : decode prog_11_method_37_code 23 = .ok (.if_icmp .eq 37, 3) := by decide +kernel
theorem d_Mo_request_26 : decode prog_11_method_37_code 26 = .ok (.aload_n 0, 1) := by decide +kernel
theorem d_Mo_request_27 : decode prog_11_method_37_code 27 = .ok (.aload_n 0, 1) := by decide +kernel
theorem d_Mo_request_28 : decode prog_11_method_37_code 28 = .ok (.getfield 74, 3) := by decide +kernel
theorem d_Mo_request_31 : decode prog_11_method_37_code 31 = .ok (.iconst 2, 1) := by decide +kernel
theorem d_Mo_request_32 : decode prog_11_method_37_code 32 = .ok (.iaload, 1) := by decide +kernel
theorem d_Mo_request_33 : decode prog_11_method_37_code 33 = .ok (.iconst 2, 1) := by decide +kernel
theorem d_Mo_request_34 : decode prog_11_method_37_code 34 = .ok (.irem, 1) := by decide +kernel
theorem d_Mo_request_35 : decode prog_11_method_37_code 35 = .ok (.ifCond .ne 7, 3) := by decide +kernel
theorem d_Mo_request_38 : decode prog_11_method_37_code 38 = .ok (.iconst 1, 1) := by decide +kernel
theorem d_Mo_request_39 : decode prog_11_method_37_code 39 = .ok (.goto 4, 3) := by decide +kernel
theorem d_Mo_request_42 : decode prog_11_method_37_code 42 = .ok (.iconst 2, 1) := by decide +kernel
theorem d_Mo_request_43 : decode prog_11_method_37_code 43 = .ok (.invokevirtual 158, 3) := by decide +kernel
theorem d_Mo_request_46 : decode prog_11_method_37_code 46 = .ok (.aload_n 0, 1) := by decide +kernel
theorem d_Mo_request_47 : decode prog_11_method_37_code 47 = .ok (.iconst 3, 1) := by decide +kernel
theorem d_Mo_request_48 : decode prog_11_method_37_code 48 = .ok (.invokevirtual 216, 3) := by decide +kernel
theorem d_Mo_request_51 : decode prog_11_method_37_code 51 = .ok (.ifCond .eq 8, 3) := by decide +kernel
theorem d_Mo_request_54 : decode prog_11_method_37_code 54 = .ok (.aload_n 0, 1) := by decide +kernel
theorem d_Mo_request_55 : decode prog_11_method_37_code 55 = .ok (.iconst 3, 1) := by decide +kernel
theorem d_Mo_request_56 : decode prog_11_method_37_code 56 = .ok (.invokevirtual 219, 3) := by decide +kernel
theorem d_Mo_request_59 : decode prog_11_method_37_code 59 = .ok (.return_, 1) := by decide +kernel
theorem d_Mo_request_60 : decode prog_11_method_37_code 60 = .ok (.aload_n 0, 1) := by decide +kernel
theorem d_Mo_request_61 : decode prog_11_method_37_code 61 = .ok (.iload_n 1, 1) := by decide +kernel
theorem d_Mo_request_62 : decode prog_11_method_37_code 62 = .ok (.iconst 2, 1) := by decide +kernel
theorem d_Mo_request_63 : decode prog_11_method_37_code 63 = .ok (.isub, 1) := by decide +kernel
theorem d_Mo_request_64 : decode prog_11_method_37_code 64 = .ok (.iconst 3, 1) := by decide +kernel
theorem d_Mo_request_65 : decode prog_11_method_37_code 65 = .ok (.idiv, 1) := by decide +kernel
theorem d_Mo_request_66 : decode prog_11_method_37_code 66 = .ok (.putfield 241, 3) := by decide +kernel
theorem d_Mo_request_69 : decode prog_11_method_37_code 69 = .ok (.iconst 0, 1) := by decide +kernel
theorem d_Mo_request_70 : decode prog_11_method_37_code 70 = .ok (.istore_n 2, 1) := by decide +kernel
theorem d_Mo_request_71 : decode prog_11_method_37_code 71 = .ok (.iload_n 2, 1) := by decide +kernel
theorem d_Mo_request_72 : decode prog_11_method_37_code 72 = .ok (.aload_n 0, 1) := by decide +kernel
theorem d_Mo_request_73 : decode prog_11_method_37_code 73 = .ok (.getfield 241, 3) := by decide +kernel
theorem d_Mo_request_76 : decode prog_11_method_37_code 76 = .ok (.if_icmp .ge 122, 3) := by decide +kernel
theorem d_Mo_request_79 : decode prog_11_method_37_code 79 = .ok (.aload_n 0, 1) := by decide +kernel
theorem d_Mo_request_80 : decode prog_11_method_37_code 80 = .ok (.getfield 80, 3) := by decide +kernel
theorem d_Mo_request_83 : decode prog_11_method_37_code 83 = .ok (.iload_n 2, 1) := by decide +kernel
theorem d_Mo_request_84 : decode prog_11_method_37_code 84 = .ok (.aload_n 0, 1) := by decide +kernel
theorem d_Mo_request_85 : decode prog_11_method_37_code 85 = .ok (.getfield 74, 3) := by decide +kernel
theorem d_Mo_request_88 : decode prog_11_method_37_code 88 = .ok (.iconst 4, 1) := by decide +kernel
theorem d_Mo_request_89 : decode prog_11_method_37_code 89 = .ok (.iconst 3, 1) := by decide +kernel
theorem d_Mo_request_90 : decode prog_11_method_37_code 90 = .ok (.iload_n 2, 1) := by decide +kernel
theorem d_Mo_request_91 : decode prog_11_method_37_code 91 = .ok (.imul, 1) := by decide +kernel
theorem d_Mo_request_92 : decode prog_11_method_37_code 92 = .ok (.iadd, 1) := by decide +kernel
theorem d_Mo_request_93 : decode prog_11_method_37_code 93 = .ok (.iaload, 1) := by decide +kernel
theorem d_Mo_request_94 : decode prog_11_method_37_code 94 = .ok (.iastore, 1) := by decide +kernel
theorem d_Mo_request_95 : decode prog_11_method_37_code 95 = .ok (.aload_n 0, 1) := by decide +kernel
theorem d_Mo_request_96 : decode prog_11_method_37_code 96 = .ok (.getfield 83, 3) := by decide +kernel
theorem d_Mo_request_99 : decode prog_11_method_37_code 99 = .ok (.iload_n 2, 1) := by decide +kernel
theorem d_Mo_request_100 : decode prog_11_method_37_code 100 = .ok (.aload_n 0, 1) := by decide +kernel
theorem d_Mo_request_101 : decode prog_11_method_37_code 101 = .ok (.getfield 74, 3) := by decide +kernel
theorem d_Mo_request_104 : decode prog_11_method_37_code 104 = .ok (.iconst 5, 1) := by decide +kernel
theorem d_Mo_request_105 : decode prog_11_method_37_code 105 = .ok (.iconst 3, 1) := by decide +kernel
theorem d_Mo_request_106 : decode prog_11_method_37_code 106 = .ok (.iload_n 2, 1) := by decide +kernel
theorem d_Mo_request_107 : decode prog_11_method_37_code 107 = .ok (.imul, 1) := by decide +kernel
theorem d_Mo_request_108 : decode prog_11_method_37_code 108 = .ok (.iadd, 1) := by decide +kernel
theorem d_Mo_request_109 : decode prog_11_method_37_code 109 = .ok (.iaload, 1) := by decide +kernel
theorem d_Mo_request_110 : decode prog_11_method_37_code 110 = .ok (.iastore, 1) := by decide +kernel
theorem d_Mo_request_111 : decode prog_11_method_37_code 111 = .ok (.aload_n 0, 1) := by decide +kernel
theorem d_Mo_request_112 : decode prog_11_method_37_code 112 = .ok (.getfield 74, 3) := by decide +kernel
theorem d_Mo_request_115 : decode prog_11_method_37_code 115 = .ok (.bipush 6, 2) := by decide +kernel
theorem d_Mo_request_117 : decode prog_11_method_37_code 117 = .ok (.iconst 3, 1) := by decide +kernel
theorem d_Mo_request_118 : decode prog_11_method_37_code 118 = .ok (.iload_n 2, 1) := by decide +kernel
theorem d_Mo_request_119 : decode prog_11_method_37_code 119 = .ok (.imul, 1) := by decide +kernel
theorem d_Mo_request_120 : decode prog_11_method_37_code 120 = .ok (.iadd, 1) := by decide +kernel
theorem d_Mo_request_121 : decode prog_11_method_37_code 121 = .ok (.iaload, 1) := by decide +kernel
theorem d_Mo_request_122 : decode prog_11_method_37_code 122 = .ok (.istore_n 3, 1) := by decide +kernel
theorem d_Mo_request_123 : decode prog_11_method_37_code 123 = .ok (.aload_n 0, 1) := by decide +kernel
theorem d_Mo_request_124 : decode prog_11_method_37_code 124 = .ok (.getfield 86, 3) := by decide +kernel
theorem d_Mo_request_127 : decode prog_11_method_37_code 127 = .ok (.iload_n 2, 1) := by decide +kernel
theorem d_Mo_request_128 : decode prog_11_method_37_code 128 = .ok (.aload_n 0, 1) := by decide +kernel
theorem d_Mo_request_129 : decode prog_11_method_37_code 129 = .ok (.getfield 83, 3) := by decide +kernel
theorem d_Mo_request_132 : decode prog_11_method_37_code 132 = .ok (.iload_n 2, 1) := by decide +kernel
theorem d_Mo_request_133 : decode prog_11_method_37_code 133 = .ok (.iaload, 1) := by decide +kernel
theorem d_Mo_request_134 : decode prog_11_method_37_code 134 = .ok (.iconst 1, 1) := by decide +kernel
theorem d_Mo_request_135 : decode prog_11_method_37_code 135 = .ok (.iconst 3, 1) := by decide +kernel
theorem d_Mo_request_136 : decode prog_11_method_37_code 136 = .ok (.invokestatic 139, 3) := by decide +kernel
theorem d_Mo_request_139 : decode prog_11_method_37_code 139 = .ok (.ifCond .ne 7, 3) := by decide +kernel
theorem d_Mo_request_142 : decode prog_11_method_37_code 142 = .ok (.iconst 2, 1) := by decide +kernel
theorem d_Mo_request_143 : decode prog_11_method_37_code 143 = .ok (.goto 28, 3) := by decide +kernel
theorem d_Mo_request_146 : decode prog_11_method_37_code 146 = .ok (.iload_n 3, 1) := by decide +kernel
theorem d_Mo_request_147 : decode prog_11_method_37_code 147 = .ok (.iconst 2, 1) := by decide +kernel
theorem d_Mo_request_148 : decode prog_11_method_37_code 148 = .ok (.irem, 1) := by decide +kernel
theorem d_Mo_request_149 : decode prog_11_method_37_code 149 = .ok (.iconst 1, 1) := by decide +kernel
theorem d_Mo_request_150 : decode prog_11_method_37_code 150 = .ok (.if_icmp .ne 7, 3) := by decide +kernel
theorem d_Mo_request_153 : decode prog_11_method_37_code 153 = .ok (.iconst 0, 1) := by decide +kernel
theorem d_Mo_request_154 : decode prog_11_method_37_code 154 = .ok (.goto 17, 3) := by decide +kernel
theorem d_Mo_request_157 : decode prog_11_method_37_code 157 = .ok (.iload_n 3, 1) := by decide +kernel
theorem d_Mo_request_158 : decode prog_11_method_37_code 158 = .ok (.iconst 2, 1) := by decide +kernel
theorem d_Mo_request_159 : decode prog_11_method_37_code 159 = .ok (.idiv, 1) := by decide +kernel
theorem d_Mo_request_160 : decode prog_11_method_37_code 160 = .ok (.iconst 2, 1) := by decide +kernel
theorem d_Mo_request_161 : decode prog_11_method_37_code 161 = .ok (.irem, 1) := by decide +kernel
theorem d_Mo_request_162 : decode prog_11_method_37_code 162 = .ok (.iconst 1, 1) := by decide +kernel
theorem d_Mo_request_163 : decode prog_11_method_37_code 163 = .ok (.if_icmp .ne 7, 3) := by decide +kernel
theorem d_Mo_request_166 : decode prog_11_method_37_code 166 = .ok (.iconst 1, 1) := by decide +kernel
theorem d_Mo_request_167 : decode prog_11_method_37_code 167 = .ok (.goto 4, 3) := by decide +kernel
theorem d_Mo_request_170 : decode prog_11_method_37_code 170 = .ok (.iconst 3, 1) := by decide +kernel
theorem d_Mo_request_171 : decode prog_11_method_37_code 171 = .ok (.iastore, 1) := by decide +kernel
theorem d_Mo_request_172 : decode prog_11_method_37_code 172 = .ok (.aload_n 0, 1) := by decide +kernel
theorem d_Mo_request_173 : decode prog_11_method_37_code 173 = .ok (.aload_n 0, 1) := by decide +kernel
theorem d_Mo_request_174 : decode prog_11_method_37_code 174 = .ok (.getfield 80, 3) := by decide +kernel
theorem d_Mo_request_177 : decode prog_11_method_37_code 177 = .ok (.iload_n 2, 1) := by decide +kernel
theorem d_Mo_request_178 : decode prog_11_method_37_code 178 = .ok (.iaload, 1) := by decide +kernel
theorem d_Mo_request_179 : decode prog_11_method_37_code 179 = .ok (.invokevirtual 158, 3) := by decide +kernel
theorem d_Mo_request_182 : decode prog_11_method_37_code 182 = .ok (.aload_n 0, 1) := by decide +kernel
theorem d_Mo_request_183 : decode prog_11_method_37_code 183 = .ok (.aload_n 0, 1) := by decide +kernel
theorem d_Mo_request_184 : decode prog_11_method_37_code 184 = .ok (.getfield 86, 3) := by decide +kernel
theorem d_Mo_request_187 : decode prog_11_method_37_code 187 = .ok (.iload_n 2, 1) := by decide +kernel
theorem d_Mo_request_188 : decode prog_11_method_37_code 188 = .ok (.iaload, 1) := by decide +kernel
theorem d_Mo_request_189 : decode prog_11_method_37_code 189 = .ok (.invokevirtual 158, 3) := by decide +kernel
theorem d_Mo_request_192 : decode prog_11_method_37_code 192 = .ok (.iinc 2 1, 3) := by decide +kernel
theorem d_Mo_request_195 : decode prog_11_method_37_code 195 = .ok (.goto (-124), 3) := by decide +kernel
theorem d_Mo_request_198 : decode prog_11_method_37_code 198 = .ok (.aload_n 0, 1) := by decide +kernel
theorem d_Mo_request_199 : decode prog_11_method_37_code 199 = .ok (.iconst 2, 1) := by decide +kernel
theorem d_Mo_request_200 : decode prog_11_method_37_code 200 = .ok (.invokevirtual 216, 3) := by decide +kernel
theorem d_Mo_request_203 : decode prog_11_method_37_code 203 = .ok (.ifCond .eq 8, 3) := by decide +kernel
theorem d_Mo_request_206 : decode prog_11_method_37_code 206 = .ok (.aload_n 0, 1) := by decide +kernel
theorem d_Mo_request_207 : decode prog_11_method_37_code 207 = .ok (.iconst 2, 1) := by decide +kernel
theorem d_Mo_request_208 : decode prog_11_method_37_code 208 = .ok (.invokevirtual 219, 3) := by decide +kernel
theorem d_Mo_request_211 : decode prog_11_method_37_code 211 = .ok (.return_, 1) := by decide +kernel
theorem d_Mo_piece_0 : decode prog_11_method_35_code 0 = .ok (.iload_n 1, 1) := by decide +kernel
theorem d_Mo_piece_1 : decode prog_11_method_35_code 1 = .ok (.bipush 7, 2) := by decide +kernel
theorem d_Mo_piece_3 : decode prog_11_method_35_code 3 = .ok (.if_icmp .ne 10, 3) := by decide +kernel
theorem d_Mo_piece_6 : decode prog_11_method_35_code 6 = .ok (.aload_n 0, 1) := by decide +kernel
theorem d_Mo_piece_7 : decode prog_11_method_35_code 7 = .ok (.invokevirtual 213, 3) := by decide +kernel
theorem d_Mo_piece_10 : decode prog_11_method_35_code 10 = .ok (.goto 91, 3) := by decide +kernel
theorem d_Mo_piece_13 : decode prog_11_method_35_code 13 = .ok (.aload_n 0, 1) := by decide +kernel
theorem d_Mo_piece_14 : decode prog_11_method_35_code 14 = .ok (.getfield 186, 3) := by decide +kernel
theorem d_Mo_piece_17 : decode prog_11_method_35_code 17 = .ok (.iconst 1, 1) := by decide +kernel
theorem d_Mo_piece_18 : decode prog_11_method_35_code 18 = .ok (.if_icmp .ne 31, 3) := by decide +kernel
theorem d_Mo_piece_21 : decode prog_11_method_35_code 21 = .ok (.iload_n 1, 1) := by decide +kernel
theorem d_Mo_piece_22 : decode prog_11_method_35_code 22 = .ok (.iconst 1, 1) := by decide +kernel
theorem d_Mo_piece_23 : decode prog_11_method_35_code 23 = .ok (.if_icmp .ne 19, 3) := by decide +kernel
theorem d_Mo_piece_26 : decode prog_11_method_35_code 26 = .ok (.aload_n 0, 1) := by decide +kernel
theorem d_Mo_piece_27 : decode prog_11_method_35_code 27 = .ok (.iload_n 2, 1) := by decide +kernel
theorem d_Mo_piece_28 : decode prog_11_method_35_code 28 = .ok (.invokevirtual 232, 3) := by decide +kernel
theorem d_Mo_piece_31 : decode prog_11_method_35_code 31 = .ok (.ifCond .eq 11, 3) := by decide +kernel
theorem d_Mo_piece_34 : decode prog_11_method_35_code 34 = .ok (.aload_n 0, 1) := by decide +kernel
theorem d_Mo_piece_35 : decode prog_11_method_35_code 35 = .ok (.iload_n 2, 1) := by decide +kernel
theorem d_Mo_piece_36 : decode prog_11_method_35_code 36 = .ok (.invokevirtual 235, 3) := by decide +kernel
theorem d_Mo_piece_39 : decode prog_11_method_35_code 39 = .ok (.goto 62, 3) := by decide +kernel
theorem d_Mo_piece_42 : decode prog_11_method_35_code 42 = .ok (.aload_n 0, 1) := by decide +kernel
theorem d_Mo_piece_43 : decode prog_11_method_35_code 43 = .ok (.invokevirtual 225, 3) := by decide +kernel
theorem d_Mo_piece_46 : decode prog_11_method_35_code 46 = .ok (.goto 55, 3) := by decide +kernel
theorem d_Mo_piece_49 : decode prog_11_method_35_code 49 = .ok (.aload_n 0, 1) := by decide +kernel
theorem d_Mo_piece_50 : decode prog_11_method_35_code 50 = .ok (.getfield 186, 3) := by decide +kernel
theorem d_Mo_piece_53 : decode prog_11_method_35_code 53 = .ok (.iconst 2, 1) := by decide +kernel
theorem d_Mo_piece_54 : decode prog_11_method_35_code 54 = .ok (.if_icmp .ne 47, 3) := by decide +kernel
theorem d_Mo_piece_57 : decode prog_11_method_35_code 57 = .ok (.iload_n 1, 1) := by decide +kernel
theorem d_Mo_piece_58 : decode prog_11_method_35_code 58 = .ok (.iconst 5, 1) := by decide +kernel
theorem d_Mo_piece_59 : decode prog_11_method_35_code 59 = .ok (.if_icmp .ne 25, 3) := by decide +kernel
theorem d_Mo_piece_62 : decode prog_11_method_35_code 62 = .ok (.aload_n 0, 1) := by decide +kernel
theorem d_Mo_piece_63 : decode prog_11_method_35_code 63 = .ok (.iconst 0, 1) := by decide +kernel
theorem d_Mo_piece_64 : decode prog_11_method_35_code 64 = .ok (.putfield 155, 3) := by decide +kernel
theorem d_Mo_piece_67 : decode prog_11_method_35_code 67 = .ok (.aload_n 0, 1) := by decide +kernel
theorem d_Mo_piece_68 : decode prog_11_method_35_code 68 = .ok (.bipush 6, 2) := by decide +kernel
theorem d_Mo_piece_70 : decode prog_11_method_35_code 70 = .ok (.invokevirtual 216, 3) := by decide +kernel
theorem d_Mo_piece_73 : decode prog_11_method_35_code 73 = .ok (.ifCond .eq 28, 3) := by decide +kernel
theorem d_Mo_piece_76 : decode prog_11_method_35_code 76 = .ok (.aload_n 0, 1) := by decide +kernel
theorem d_Mo_piece_77 : decode prog_11_method_35_code 77 = .ok (.iconst 3, 1) := by decide +kernel
theorem d_Mo_piece_78 : decode prog_11_method_35_code 78 = .ok (.invokevirtual 219, 3) := by decide +kernel
theorem d_Mo_piece_81 : decode prog_11_method_35_code 81 = .ok (.goto 20, 3) := by decide +kernel
theorem d_Mo_piece_84 : decode prog_11_method_35_code 84 = .ok (.iload_n 1, 1) := by decide +kernel
theorem d_Mo_piece_85 : decode prog_11_method_35_code 85 = .ok (.iconst 4, 1) := by decide +kernel
theorem d_Mo_piece_86 : decode prog_11_method_35_code 86 = .ok (.if_icmp .ne 11, 3) := by decide +kernel
theorem d_Mo_piece_89 : decode prog_11_method_35_code 89 = .ok (.aload_n 0, 1) := by decide +kernel
theorem d_Mo_piece_90 : decode prog_11_method_35_code 90 = .ok (.iload_n 2, 1) := by decide +kernel
theorem d_Mo_piece_91 : decode prog_11_method_35_code 91 = .ok (.invokevirtual 238, 3) := by decide +kernel
theorem d_Mo_piece_94 : decode prog_11_method_35_code 94 = .ok (.ifCond .ne 7, 3) := by decide +kernel
theorem d_Mo_piece_97 : decode prog_11_method_35_code 97 = .ok (.aload_n 0, 1) := by decide +kernel
theorem d_Mo_piece_98 : decode prog_11_method_35_code 98 = .ok (.invokevirtual 225, 3) := by decide +kernel
theorem d_Mo_piece_101 : decode prog_11_method_35_code 101 = .ok (.return_, 1) := by decide +kernel
theorem d_Mo_comes_0 : decode prog_11_method_34_code 0 = .ok (.aload_n 0, 1) := by decide +kernel
theorem d_Mo_comes_1 : decode prog_11_method_34_code 1 = .ok (.getfield 186, 3) := by decide +kernel
theorem d_Mo_comes_4 : decode prog_11_method_34_code 4 = .ok (.ifCond .ne 4, 3) := by decide +kernel
theorem d_Mo_comes_7 : decode prog_11_method_34_code 7 = .ok (.return_, 1) := by decide +kernel
theorem d_Mo_comes_8 : decode prog_11_method_34_code 8 = .ok (.aload_n 0, 1) := by decide +kernel
theorem d_Mo_comes_9 : decode prog_11_method_34_code 9 = .ok (.getfield 74, 3) := by decide +kernel
theorem d_Mo_comes_12 : decode prog_11_method_34_code 12 = .ok (.aload_n 0, 1) := by decide +kernel
theorem d_Mo_comes_13 : decode prog_11_method_34_code 13 = .ok (.getfield 192, 3) := by decide +kernel
theorem d_Mo_comes_16 : decode prog_11_method_34_code 16 = .ok (.iload_n 1, 1) := by decide +kernel
theorem d_Mo_comes_17 : decode prog_11_method_34_code 17 = .ok (.iastore, 1) := by decide +kernel
theorem d_Mo_comes_18 : decode prog_11_method_34_code 18 = .ok (.aload_n 0, 1) := by decide +kernel
theorem d_Mo_comes_19 : decode prog_11_method_34_code 19 = .ok (.dup, 1) := by decide +kernel
theorem d_Mo_comes_20 : decode prog_11_method_34_code 20 = .ok (.getfield 192, 3) := by decide +kernel
theorem d_Mo_comes_23 : decode prog_11_method_34_code 23 = .ok (.iconst 1, 1) := by decide +kernel
theorem d_Mo_comes_24 : decode prog_11_method_34_code 24 = .ok (.iadd, 1) := by decide +kernel
theorem d_Mo_comes_25 : decode prog_11_method_34_code 25 = .ok (.putfield 192, 3) := by decide +kernel
theorem d_Mo_comes_28 : decode prog_11_method_34_code 28 = .ok (.aload_n 0, 1) := by decide +kernel
theorem d_Mo_comes_29 : decode prog_11_method_34_code 29 = .ok (.getfield 192, 3) := by decide +kernel
theorem d_Mo_comes_32 : decode prog_11_method_34_code 32 = .ok (.iconst 2, 1) := by decide +kernel
theorem d_Mo_comes_33 : decode prog_11_method_34_code 33 = .ok (.if_icmp .ne 37, 3) := by decide +kernel
theorem d_Mo_comes_36 : decode prog_11_method_34_code 36 = .ok (.iload_n 1, 1) := by decide +kernel
theorem d_Mo_comes_37 : decode prog_11_method_34_code 37 = .ok (.sipush 200, 3) := by decide +kernel
theorem d_Mo_comes_40 : decode prog_11_method_34_code 40 = .ok (.if_icmp .le 30, 3) := by decide +kernel
theorem d_Mo_comes_43 : decode prog_11_method_34_code 43 = .ok (.aload_n 0, 1) := by decide +kernel
theorem d_Mo_comes_44 : decode prog_11_method_34_code 44 = .ok (.iconst 0, 1) := by decide +kernel
theorem d_Mo_comes_45 : decode prog_11_method_34_code 45 = .ok (.putfield 192, 3) := by decide +kernel
theorem d_Mo_comes_48 : decode prog_11_method_34_code 48 = .ok (.aload_n 0, 1) := by decide +kernel
theorem d_Mo_comes_49 : decode prog_11_method_34_code 49 = .ok (.getfield 186, 3) := by decide +kernel
theorem d_Mo_comes_52 : decode prog_11_method_34_code 52 = .ok (.iconst 3, 1) := by decide +kernel
theorem d_Mo_comes_53 : decode prog_11_method_34_code 53 = .ok (.if_icmp .ne 10, 3) := by decide +kernel
theorem d_Mo_comes_56 : decode prog_11_method_34_code 56 = .ok (.aload_n 0, 1) := by decide +kernel
theorem d_Mo_comes_57 : decode prog_11_method_34_code 57 = .ok (.invokevirtual 213, 3) := by decide +kernel
theorem d_Mo_comes_60 : decode prog_11_method_34_code 60 = .ok (.goto 54, 3) := by decide +kernel
theorem d_Mo_comes_63 : decode prog_11_method_34_code 63 = .ok (.aload_n 0, 1) := by decide +kernel
theorem d_Mo_comes_64 : decode prog_11_method_34_code 64 = .ok (.invokevirtual 225, 3) := by decide +kernel
theorem d_Mo_comes_67 : decode prog_11_method_34_code 67 = .ok (.goto 47, 3) := by decide +kernel
theorem d_Mo_comes_70 : decode prog_11_method_34_code 70 = .ok (.aload_n 0, 1) := by decide +kernel
theorem d_Mo_comes_71 : decode prog_11_method_34_code 71 = .ok (.getfield 192, 3) := by decide +kernel
theorem d_Mo_comes_74 : decode prog_11_method_34_code 74 = .ok (.iconst 1, 1) := by decide +kernel
theorem d_Mo_comes_75 : decode prog_11_method_34_code 75 = .ok (.if_icmp .le 39, 3) := by decide +kernel
theorem d_Mo_comes_78 : decode prog_11_method_34_code 78 = .ok (.aload_n 0, 1) := by decide +kernel
theorem d_Mo_comes_79 : decode prog_11_method_34_code 79 = .ok (.getfield 192, 3) := by decide +kernel
theorem d_Mo_comes_82 : decode prog_11_method_34_code 82 = .ok (.iconst 2, 1) := by decide +kernel
theorem d_Mo_comes_83 : decode prog_11_method_34_code 83 = .ok (.aload_n 0, 1) := by decide +kernel
theorem d_Mo_comes_84 : decode prog_11_method_34_code 84 = .ok (.getfield 74, 3) := by decide +kernel
theorem d_Mo_comes_87 : decode prog_11_method_34_code 87 = .ok (.iconst 1, 1) := by decide +kernel
theorem d_Mo_comes_88 : decode prog_11_method_34_code 88 = .ok (.iaload, 1) := by decide +kernel
theorem d_Mo_comes_89 : decode prog_11_method_34_code 89 = .ok (.iadd, 1) := by decide +kernel
theorem d_Mo_comes_90 : decode prog_11_method_34_code 90 = .ok (.if_icmp .ne 24, 3) := by decide +kernel
theorem d_Mo_comes_93 : decode prog_11_method_34_code 93 = .ok (.aload_n 0, 1) := by decide +kernel
theorem d_Mo_comes_94 : decode prog_11_method_34_code 94 = .ok (.iconst 0, 1) := by decide +kernel
theorem d_Mo_comes_95 : decode prog_11_method_34_code 95 = .ok (.putfield 192, 3) := by decide +kernel
theorem d_Mo_comes_98 : decode prog_11_method_34_code 98 = .ok (.aload_n 0, 1) := by decide +kernel
theorem d_Mo_comes_99 : decode prog_11_method_34_code 99 = .ok (.aload_n 0, 1) := by decide +kernel
theorem d_Mo_comes_100 : decode prog_11_method_34_code 100 = .ok (.getfield 74, 3) := by decide +kernel
theorem d_Mo_comes_103 : decode prog_11_method_34_code 103 = .ok (.iconst 0, 1) := by decide +kernel
theorem d_Mo_comes_104 : decode prog_11_method_34_code 104 = .ok (.iaload, 1) := by decide +kernel
theorem d_Mo_comes_105 : decode prog_11_method_34_code 105 = .ok (.aload_n 0, 1) := by decide +kernel
theorem d_Mo_comes_106 : decode prog_11_method_34_code 106 = .ok (.getfield 74, 3) := by decide +kernel
theorem d_Mo_comes_109 : decode prog_11_method_34_code 109 = .ok (.iconst 1, 1) := by decide +kernel
theorem d_Mo_comes_110 : decode prog_11_method_34_code 110 = .ok (.iaload, 1) := by decide +kernel
theorem d_Mo_comes_111 : decode prog_11_method_34_code 111 = .ok (.invokevirtual 228, 3) := by decide +kernel
theorem d_Mo_comes_114 : decode prog_11_method_34_code 114 = .ok (.return_, 1) := by decide +kernel
theorem d_Mo_feed_0 : decode prog_11_method_32_code 0 = .ok (.aload_n 0, 1) := by decide +kernel
theorem d_Mo_feed_1 : decode prog_11_method_32_code 1 = .ok (.iload_n 3, 1) := by decide +kernel
theorem d_Mo_feed_2 : decode prog_11_method_32_code 2 = .ok (.iconst 1, 1) := by decide +kernel
theorem d_Mo_feed_3 : decode prog_11_method_32_code 3 = .ok (.bipush 8, 2) := by decide +kernel
theorem d_Mo_feed_5 : decode prog_11_method_32_code 5 = .ok (.invokestatic 139, 3) := by decide +kernel
theorem d_Mo_feed_8 : decode prog_11_method_32_code 8 = .ok (.ifCond .eq 7, 3) := by decide +kernel
theorem d_Mo_feed_11 : decode prog_11_method_32_code 11 = .ok (.iconst 0, 1) := by decide +kernel
theorem d_Mo_feed_12 : decode prog_11_method_32_code 12 = .ok (.goto 4, 3) := by decide +kernel
theorem d_Mo_feed_15 : decode prog_11_method_32_code 15 = .ok (.iconst 1, 1) := by decide +kernel
theorem d_Mo_feed_16 : decode prog_11_method_32_code 16 = .ok (.putfield 105, 3) := by decide +kernel
theorem d_Mo_feed_19 : decode prog_11_method_32_code 19 = .ok (.aload_n 0, 1) := by decide +kernel
theorem d_Mo_feed_20 : decode prog_11_method_32_code 20 = .ok (.getfield 105, 3) := by decide +kernel
theorem d_Mo_feed_23 : decode prog_11_method_32_code 23 = .ok (.ifCond .gt 10, 3) := by decide +kernel
theorem d_Mo_feed_26 : decode prog_11_method_32_code 26 = .ok (.aload_n 0, 1) := by decide +kernel
theorem d_Mo_feed_27 : decode prog_11_method_32_code 27 = .ok (.getfield 186, 3) := by decide +kernel
theorem d_Mo_feed_30 : decode prog_11_method_32_code 30 = .ok (.ifCond .ne 5, 3) := by decide +kernel
theorem d_Mo_feed_33 : decode prog_11_method_32_code 33 = .ok (.iconst 0, 1) := by decide +kernel
theorem d_Mo_feed_34 : decode prog_11_method_32_code 34 = .ok (.ireturn, 1) := by decide +kernel
theorem d_Mo_feed_35 : decode prog_11_method_32_code 35 = .ok (.iload_n 3, 1) := by decide +kernel
theorem d_Mo_feed_36 : decode prog_11_method_32_code 36 = .ok (.iconst 1, 1) := by decide +kernel
theorem d_Mo_feed_37 : decode prog_11_method_32_code 37 = .ok (.isub, 1) := by decide +kernel
theorem d_Mo_feed_38 : decode prog_11_method_32_code 38 = .ok (.istore 4, 2) := by decide +kernel
theorem d_Mo_feed_40 : decode prog_11_method_32_code 40 = .ok (.iload 4, 2) := by decide +kernel
theorem d_Mo_feed_42 : decode prog_11_method_32_code 42 = .ok (.ifCond .lt 25, 3) := by decide +kernel
theorem d_Mo_feed_45 : decode prog_11_method_32_code 45 = .ok (.aload_n 0, 1) := by decide +kernel
theorem d_Mo_feed_46 : decode prog_11_method_32_code 46 = .ok (.lload_n 1, 1) := by decide +kernel
theorem d_Mo_feed_47 : decode prog_11_method_32_code 47 = .ok (.bipush 8, 2) := by decide +kernel
theorem d_Mo_feed_49 : decode prog_11_method_32_code 49 = .ok (.iload 4, 2) := by decide +kernel
theorem d_Mo_feed_51 : decode prog_11_method_32_code 51 = .ok (.imul, 1) := by decide +kernel
theorem d_Mo_feed_52 : decode prog_11_method_32_code 52 = .ok (.lshr, 1) := by decide +kernel
theorem d_Mo_feed_53 : decode prog_11_method_32_code 53 = .ok (.ldc2_w 172, 3) := by decide +kernel
theorem d_Mo_feed_56 : decode prog_11_method_32_code 56 = .ok (.land, 1) := by decide +kernel
theorem d_Mo_feed_57 : decode prog_11_method_32_code 57 = .ok (.l2i, 1) := by decide +kernel
theorem d_Mo_feed_58 : decode prog_11_method_32_code 58 = .ok (.invokevirtual 222, 3) := by decide +kernel
theorem d_Mo_feed_61 : decode prog_11_method_32_code 61 = .ok (.iinc 4 (-1), 3) := by decide +kernel
theorem d_Mo_feed_64 : decode prog_11_method_32_code 64 = .ok (.goto (-24), 3) := by decide +kernel
theorem d_Mo_feed_67 : decode prog_11_method_32_code 67 = .ok (.iconst 1, 1) := by decide +kernel
theorem d_Mo_feed_68 : decode prog_11_method_32_code 68 = .ok (.ireturn, 1) := by decide +kernel
theorem d_Mo_send_0 : decode prog_11_method_33_code 0 = .ok (.aload_n 0, 1) := by decide +kernel
theorem d_Mo_send_1 : decode prog_11_method_33_code 1 = .ok (.iconst 0, 1) := by decide +kernel
theorem d_Mo_send_2 : decode prog_11_method_33_code 2 = .ok (.putfield 105, 3) := by decide +kernel
theorem d_Mo_send_5 : decode prog_11_method_33_code 5 = .ok (.aload_n 0, 1) := by decide +kernel
theorem d_Mo_send_6 : decode prog_11_method_33_code 6 = .ok (.getfield 186, 3) := by decide +kernel
theorem d_Mo_send_9 : decode prog_11_method_33_code 9 = .ok (.ifCond .ne 5, 3) := by decide +kernel
theorem d_Mo_send_12 : decode prog_11_method_33_code 12 = .ok (.iconst 0, 1) := by decide +kernel
theorem d_Mo_send_13 : decode prog_11_method_33_code 13 = .ok (.ireturn, 1) := by decide +kernel
theorem d_Mo_send_14 : decode prog_11_method_33_code 14 = .ok (.iconst 0, 1) := by decide +kernel
theorem d_Mo_send_15 : decode prog_11_method_33_code 15 = .ok (.istore_n 1, 1) := by decide +kernel
theorem d_Mo_send_16 : decode prog_11_method_33_code 16 = .ok (.iload_n 1, 1) := by decide +kernel
theorem d_Mo_send_17 : decode prog_11_method_33_code 17 = .ok (.aload_n 0, 1) := by decide +kernel
theorem d_Mo_send_18 : decode prog_11_method_33_code 18 = .ok (.getfield 169, 3) := by decide +kernel
theorem d_Mo_send_21 : decode prog_11_method_33_code 21 = .ok (.if_icmp .ge 19, 3) := by decide +kernel
theorem d_Mo_send_24 : decode prog_11_method_33_code 24 = .ok (.aload_n 0, 1) := by decide +kernel
theorem d_Mo_send_25 : decode prog_11_method_33_code 25 = .ok (.aload_n 0, 1) := by decide +kernel
theorem d_Mo_send_26 : decode prog_11_method_33_code 26 = .ok (.getfield 7, 3) := by decide +kernel
theorem d_Mo_send_29 : decode prog_11_method_33_code 29 = .ok (.iload_n 1, 1) := by decide +kernel
theorem d_Mo_send_30 : decode prog_11_method_33_code 30 = .ok (.iaload, 1) := by decide +kernel
theorem d_Mo_send_31 : decode prog_11_method_33_code 31 = .ok (.invokevirtual 222, 3) := by decide +kernel
theorem d_Mo_send_34 : decode prog_11_method_33_code 34 = .ok (.iinc 1 1, 3) := by decide +kernel
theorem d_Mo_send_37 : decode prog_11_method_33_code 37 = .ok (.goto (-21), 3) := by decide +kernel
theorem d_Mo_send_40 : decode prog_11_method_33_code 40 = .ok (.iconst 1, 1) := by decide +kernel
theorem d_Mo_send_41 : decode prog_11_method_33_code 41 = .ok (.ireturn, 1) := by decide +kernel
def ws_Mo_fragment : List Cond := .code y_Mo_fragment prog_11_method_39_code 6 (some .boolean) :: TB
def B_Mo_fragment_44 (s0 : S_Mo) : Option (Int32 × S_Mo) :=
  some ((0 : Int32), s0)
def B_Mo_fragment_95 (s0 : S_Mo) : Option (Int32 × S_Mo) :=
  some ((0 : Int32), s0)
def B_Mo_fragment_273 (s0 : S_Mo) (y0 : Int32) : Option (Int32 × S_Mo) :=
  (if y0 = 0 ∨ y0 = 1 then some (y0, s0) else none)
def B_Mo_fragment_268 (s0 : S_Mo) : Option (Int32 × S_Mo) :=
  (B_Mo_fragment_273 s0 (1 : Int32))
def B_Mo_fragment_272 (s0 : S_Mo) : Option (Int32 × S_Mo) :=
  (B_Mo_fragment_273 s0 (0 : Int32))
def B_Mo_fragment_261 (s0 : S_Mo) : Option (Int32 × S_Mo) :=
  ((F_Mo_commanded s0).bind fun o1 => (if o1.1 = 0 then (B_Mo_fragment_272 o1.2) else (B_Mo_fragment_268 o1.2)))
def B_Mo_fragment_257 (s0 : S_Mo) (x3 : Int32) : Option (Int32 × S_Mo) :=
  (if x3 = 0 then (B_Mo_fragment_268 s0) else (B_Mo_fragment_261 s0))
def B_Mo_fragment_252 (s0 : S_Mo) (x3 : Int32) : Option (Int32 × S_Mo) :=
  ((F_Mo_answer s0 (1 : Int32)).bind fun o1 => (B_Mo_fragment_257 o1 x3))
def B_Mo_fragment_248 (s0 : S_Mo) (x3 : Int32) : Option (Int32 × S_Mo) :=
  (if x3 = 0 then (B_Mo_fragment_252 s0 x3) else (B_Mo_fragment_257 s0 x3))
def B_Mo_fragment_246 (s0 : S_Mo) : Option (Int32 × S_Mo) :=
  some ((1 : Int32), s0)
def B_Mo_fragment_232 (s0 : S_Mo) (x3 : Int32) (y0 : Int32) (y1 : Int32) : Option (Int32 × S_Mo) :=
  (if ((3 : Int32) < 0 ∨ 202 ≤ (3 : Int32).toNatClampNeg) then none else (if (2 : Int32) ≤ ((Mo_input (Mo_set_bodies s0 (y1 + y0))) (3 : Int32).toNatClampNeg) then (B_Mo_fragment_248 (Mo_set_bodies s0 (y1 + y0)) x3) else (B_Mo_fragment_246 (Mo_set_bodies s0 (y1 + y0)))))
def B_Mo_fragment_230 (s0 : S_Mo) (x3 : Int32) (x4 : Int32) (y0 : Int32) : Option (Int32 × S_Mo) :=
  (B_Mo_fragment_232 s0 x3 x4 y0)
def B_Mo_fragment_226 (s0 : S_Mo) (x3 : Int32) (y0 : Int32) : Option (Int32 × S_Mo) :=
  (B_Mo_fragment_232 s0 x3 (0 : Int32) y0)
def B_Mo_fragment_213 (s0 : S_Mo) (x3 : Int32) (x4 : Int32) (y0 : Int32) (y1 : Int32) : Option (Int32 × S_Mo) :=
  (if x3 = 0 then (B_Mo_fragment_230 (Mo_set_commands s0 (y1 + y0)) x3 x4 (Mo_bodies (Mo_set_commands s0 (y1 + y0)))) else (B_Mo_fragment_226 (Mo_set_commands s0 (y1 + y0)) x3 (Mo_bodies (Mo_set_commands s0 (y1 + y0)))))
def B_Mo_fragment_212 (s0 : S_Mo) (x3 : Int32) (x4 : Int32) (y0 : Int32) : Option (Int32 × S_Mo) :=
  (B_Mo_fragment_213 s0 x3 x4 (0 : Int32) y0)
def B_Mo_fragment_207 (s0 : S_Mo) (x3 : Int32) (x4 : Int32) (y0 : Int32) : Option (Int32 × S_Mo) :=
  (B_Mo_fragment_213 s0 x3 x4 x4 y0)
def B_Mo_fragment_198 (s0 : S_Mo) (x3 : Int32) (x4 : Int32) : Option (Int32 × S_Mo) :=
  (if x3 = 0 then (B_Mo_fragment_212 s0 x3 x4 (Mo_commands s0)) else (B_Mo_fragment_207 s0 x3 x4 (Mo_commands s0)))
def B_Mo_fragment_192 (k136 : S_Mo × Int32 × Int32 × Int32 → Option (Int32 × S_Mo)) (s0 : S_Mo) (x3 : Int32) (x4 : Int32) (x5 : Int32) : Option (Int32 × S_Mo) :=
  (k136 (s0, x3, x4, (x5 + 1)))
def B_Mo_fragment_171 (k136 : S_Mo × Int32 × Int32 × Int32 → Option (Int32 × S_Mo)) (s0 : S_Mo) (x3 : Int32) (x4 : Int32) (x5 : Int32) : Option (Int32 × S_Mo) :=
  (if (((4 : Int32) + x5) < 0 ∨ 202 ≤ ((4 : Int32) + x5).toNatClampNeg) then none else (if (((Mo_bodies s0) + x5) < 0 ∨ 200 ≤ ((Mo_bodies s0) + x5).toNatClampNeg) then none else (B_Mo_fragment_192 k136 (Mo_set_body s0 (upd (Mo_body s0) ((Mo_bodies s0) + x5).toNatClampNeg ((Mo_input s0) ((4 : Int32) + x5).toNatClampNeg))) x3 x4 x5)))
def B_Mo_fragment_147 (k136 : S_Mo × Int32 × Int32 × Int32 → Option (Int32 × S_Mo)) (s0 : S_Mo) (x3 : Int32) (x4 : Int32) (x5 : Int32) : Option (Int32 × S_Mo) :=
  (if (((4 : Int32) + x5) < 0 ∨ 202 ≤ ((4 : Int32) + x5).toNatClampNeg) then none else (if (((Mo_commands s0) + x5) < 0 ∨ 200 ≤ ((Mo_commands s0) + x5).toNatClampNeg) then none else (B_Mo_fragment_192 k136 (Mo_set_command s0 (upd (Mo_command s0) ((Mo_commands s0) + x5).toNatClampNeg ((Mo_input s0) ((4 : Int32) + x5).toNatClampNeg))) x3 x4 x5)))
def B_Mo_fragment_143 (k136 : S_Mo × Int32 × Int32 × Int32 → Option (Int32 × S_Mo)) (s0 : S_Mo) (x3 : Int32) (x4 : Int32) (x5 : Int32) : Option (Int32 × S_Mo) :=
  (if x3 = 0 then (B_Mo_fragment_171 k136 s0 x3 x4 x5) else (B_Mo_fragment_147 k136 s0 x3 x4 x5))
def B_Mo_fragment_136 (k136 : S_Mo × Int32 × Int32 × Int32 → Option (Int32 × S_Mo)) (s0 : S_Mo) (x3 : Int32) (x4 : Int32) (x5 : Int32) : Option (Int32 × S_Mo) :=
  (if x4 ≤ x5 then (B_Mo_fragment_198 s0 x3 x4) else (B_Mo_fragment_143 k136 s0 x3 x4 x5))
def L_Mo_fragment_136 (v : S_Mo × Int32 × Int32 × Int32) : Option (Int32 × S_Mo) := lp (fun k136 v => B_Mo_fragment_136  k136  v.1 v.2.1 v.2.2.1 v.2.2.2) FU v
def B_Mo_fragment_128 (s0 : S_Mo) (x2 : Int32) (x3 : Int32) (x4 : Int32) : Option (Int32 × S_Mo) :=
  (L_Mo_fragment_136 ((Mo_set_speaker s0 x2), x3, x4, (0 : Int32)))
def B_Mo_fragment_126 (s0 : S_Mo) : Option (Int32 × S_Mo) :=
  some ((0 : Int32), s0)
def B_Mo_fragment_117 (s0 : S_Mo) (x2 : Int32) (x3 : Int32) (x4 : Int32) (y0 : Int32) : Option (Int32 × S_Mo) :=
  (if (y0 + x4) ≤ (200 : Int32) then (B_Mo_fragment_128 s0 x2 x3 x4) else (B_Mo_fragment_126 s0))
def B_Mo_fragment_113 (s0 : S_Mo) (x2 : Int32) (x3 : Int32) (x4 : Int32) : Option (Int32 × S_Mo) :=
  (B_Mo_fragment_117 s0 x2 x3 x4 (Mo_bodies s0))
def B_Mo_fragment_106 (s0 : S_Mo) (x2 : Int32) (x3 : Int32) (x4 : Int32) : Option (Int32 × S_Mo) :=
  (B_Mo_fragment_117 s0 x2 x3 x4 (Mo_commands s0))
def B_Mo_fragment_97 (s0 : S_Mo) (x1 : Int32) (x2 : Int32) (x3 : Int32) : Option (Int32 × S_Mo) :=
  (if x3 = 0 then (B_Mo_fragment_113 s0 x2 x3 (x1 - (2 : Int32))) else (B_Mo_fragment_106 s0 x2 x3 (x1 - (2 : Int32))))
def B_Mo_fragment_87 (s0 : S_Mo) (x1 : Int32) (x2 : Int32) (x3 : Int32) : Option (Int32 × S_Mo) :=
  (if (Mo_speaker s0) = x2 then (B_Mo_fragment_97 s0 x1 x2 x3) else (B_Mo_fragment_95 s0))
def B_Mo_fragment_80 (s0 : S_Mo) (x1 : Int32) (x2 : Int32) (x3 : Int32) : Option (Int32 × S_Mo) :=
  (if (Mo_speaker s0) < 0 then (B_Mo_fragment_97 s0 x1 x2 x3) else (B_Mo_fragment_87 s0 x1 x2 x3))
def B_Mo_fragment_77 (s0 : S_Mo) (x1 : Int32) (x2 : Int32) (x3 : Int32) (y0 : Int32) (y1 : Int32) : Option (Int32 × S_Mo) :=
  (if y1 = y0 then (B_Mo_fragment_80 s0 x1 x2 x3) else (B_Mo_fragment_95 s0))
def B_Mo_fragment_76 (s0 : S_Mo) (x1 : Int32) (x2 : Int32) (x3 : Int32) (y0 : Int32) : Option (Int32 × S_Mo) :=
  (B_Mo_fragment_77 s0 x1 x2 x3 (0 : Int32) y0)
def B_Mo_fragment_72 (s0 : S_Mo) (x1 : Int32) (x2 : Int32) (x3 : Int32) (y0 : Int32) : Option (Int32 × S_Mo) :=
  (B_Mo_fragment_77 s0 x1 x2 x3 (1 : Int32) y0)
def B_Mo_fragment_63 (s0 : S_Mo) (x1 : Int32) (x2 : Int32) (y0 : Int32) : Option (Int32 × S_Mo) :=
  (if (Mo_wanted s0) = 0 then (B_Mo_fragment_72 s0 x1 x2 y0 y0) else (B_Mo_fragment_76 s0 x1 x2 y0 y0))
def B_Mo_fragment_62 (s0 : S_Mo) (x1 : Int32) (x2 : Int32) : Option (Int32 × S_Mo) :=
  (B_Mo_fragment_63 s0 x1 x2 (0 : Int32))
def B_Mo_fragment_58 (s0 : S_Mo) (x1 : Int32) (x2 : Int32) : Option (Int32 × S_Mo) :=
  (B_Mo_fragment_63 s0 x1 x2 (1 : Int32))
def B_Mo_fragment_46 (s0 : S_Mo) (x1 : Int32) (x2 : Int32) : Option (Int32 × S_Mo) :=
  (if ((3 : Int32) < 0 ∨ 202 ≤ (3 : Int32).toNatClampNeg) then none else (if (((Mo_input s0) (3 : Int32).toNatClampNeg) - ((Mo_input s0) (3 : Int32).toNatClampNeg) / (2 : Int32) * (2 : Int32)) = (1 : Int32) then (B_Mo_fragment_58 s0 x1 x2) else (B_Mo_fragment_62 s0 x1 x2)))
def B_Mo_fragment_34 (s0 : S_Mo) (x1 : Int32) (x2 : Int32) : Option (Int32 × S_Mo) :=
  (if ((3 : Int32) < 0 ∨ 202 ≤ (3 : Int32).toNatClampNeg) then none else (if ((Mo_input s0) (3 : Int32).toNatClampNeg) ≤ (3 : Int32) then (B_Mo_fragment_46 s0 x1 x2) else (B_Mo_fragment_44 s0)))
def B_Mo_fragment_24 (s0 : S_Mo) (x1 : Int32) (x2 : Int32) : Option (Int32 × S_Mo) :=
  (if (x2 < 0 ∨ 4 ≤ x2.toNatClampNeg) then none else (if (1 : Int32) < ((Mo_results s0) x2.toNatClampNeg) then (B_Mo_fragment_44 s0) else (B_Mo_fragment_34 s0 x1 x2)))
def B_Mo_fragment_19 (s0 : S_Mo) (x1 : Int32) (y0 : Int32) : Option (Int32 × S_Mo) :=
  (if y0 < 0 then (B_Mo_fragment_44 s0) else (B_Mo_fragment_24 s0 x1 y0))
def B_Mo_fragment_9 (s0 : S_Mo) (x1 : Int32) : Option (Int32 × S_Mo) :=
  (if ((2 : Int32) < 0 ∨ 202 ≤ (2 : Int32).toNatClampNeg) then none else ((F_Mo_contextOf s0 ((Mo_input s0) (2 : Int32).toNatClampNeg)).bind fun o2 => (B_Mo_fragment_19 s0 x1 o2)))
def B_Mo_fragment_5 (s0 : S_Mo) (x1 : Int32) : Option (Int32 × S_Mo) :=
  (B_Mo_fragment_19 s0 x1 ((-1) : Int32))
def B_Mo_fragment_0 (s0 : S_Mo) (x1 : Int32) : Option (Int32 × S_Mo) :=
  (if (2 : Int32) ≤ x1 then (B_Mo_fragment_9 s0 x1) else (B_Mo_fragment_5 s0 x1))
def F_Mo_fragment (s0 : S_Mo) (x1 : Int32) : Option (Int32 × S_Mo) := B_Mo_fragment_0 s0 x1
set_option maxRecDepth 100000 in
set_option maxHeartbeats 4000000 in
theorem t_Mo_fragment_44 {p : Program} {l : Launch} {e : Env} {s : State} {m : MethodId} {args : Array Value} {below : List Frame} {meth : Method} {c : Code} {D : va_G} {A : Nat → Prop} {g : Nat → ClassId} {rest : va_W} {a0 : Nat → Nat} {ls : Array Slot} {H : Heap} {locs : List Loc} {s0 : S_Mo} {out : Int32 × S_Mo} (X : Cx p s m args meth c prog_11_method_39_code 6 ws_Mo_fragment R_Mo (some .boolean) D g) (hl : lv_has ls 6 []) (hI : Iw D A (w_Mo g a0 s0 ++ (rest)) H) (hS : va_S A s.heap H locs) (h : B_Mo_fragment_44  s0 = some out) : W p l e (headSpec ws_Mo_fragment { frames := 10, cells := 0, slots := 0, locals := 248 }).room s m args below meth c H locs 0 0 (MQ below (QcI D A g out.1 (fun (_ : Unit) => w_Mo g a0 out.2 ++ (rest))) args s 0 0 A) (F0 m 44 ls []) := by
  have X1 := X
  obtain ⟨hx, hb, hml, hown, hts, hr, hlocks, hKK⟩ := X1
  have ht : ∀ w ∈ TB, w.before args s = true := fun w h => hts w (List.mem_cons_of_mem _ h)
  have hK := hKK.1
  unfold B_Mo_fragment_44 at h
  refine lv_iconst (v := 0) hx hb d_Mo_fragment_44 (by decide) ?_
  have h9 := Option.some.inj h
  subst h9
  exact W.zret (v := (0 : Int32)) hx hb hr rfl (fun t ht hW => ⟨⟨_, (), rfl, rfl, ⟨by rw [ht]; exact hI, hKK.moved hW⟩⟩, hS.F ht⟩) hS.2.2 d_Mo_fragment_45
set_option maxRecDepth 100000 in
set_option maxHeartbeats 4000000 in
theorem t_Mo_fragment_95 {p : Program} {l : Launch} {e : Env} {s : State} {m : MethodId} {args : Array Value} {below : List Frame} {meth : Method} {c : Code} {D : va_G} {A : Nat → Prop} {g : Nat → ClassId} {rest : va_W} {a0 : Nat → Nat} {ls : Array Slot} {H : Heap} {locs : List Loc} {s0 : S_Mo} {out : Int32 × S_Mo} (X : Cx p s m args meth c prog_11_method_39_code 6 ws_Mo_fragment R_Mo (some .boolean) D g) (hl : lv_has ls 6 []) (hI : Iw D A (w_Mo g a0 s0 ++ (rest)) H) (hS : va_S A s.heap H locs) (h : B_Mo_fragment_95  s0 = some out) : W p l e (headSpec ws_Mo_fragment { frames := 10, cells := 0, slots := 0, locals := 248 }).room s m args below meth c H locs 0 0 (MQ below (QcI D A g out.1 (fun (_ : Unit) => w_Mo g a0 out.2 ++ (rest))) args s 0 0 A) (F0 m 95 ls []) := by
  have X1 := X
  obtain ⟨hx, hb, hml, hown, hts, hr, hlocks, hKK⟩ := X1
  have ht : ∀ w ∈ TB, w.before args s = true := fun w h => hts w (List.mem_cons_of_mem _ h)
  have hK := hKK.1
  unfold B_Mo_fragment_95 at h
  refine lv_iconst (v := 0) hx hb d_Mo_fragment_95 (by decide) ?_
  have h9 := Option.some.inj h
  subst h9
  exact W.zret (v := (0 : Int32)) hx hb hr rfl (fun t ht hW => ⟨⟨_, (), rfl, rfl, ⟨by rw [ht]; exact hI, hKK.moved hW⟩⟩, hS.F ht⟩) hS.2.2 d_Mo_fragment_96
set_option maxRecDepth 100000 in
set_option maxHeartbeats 4000000 in
theorem t_Mo_fragment_273 {p : Program} {l : Launch} {e : Env} {s : State} {m : MethodId} {args : Array Value} {below : List Frame} {meth : Method} {c : Code} {D : va_G} {A : Nat → Prop} {g : Nat → ClassId} {rest : va_W} {a0 : Nat → Nat} {ls : Array Slot} {H : Heap} {locs : List Loc} {s0 : S_Mo} {y0 : Int32} {out : Int32 × S_Mo} (X : Cx p s m args meth c prog_11_method_39_code 6 ws_Mo_fragment R_Mo (some .boolean) D g) (hl : lv_has ls 6 []) (hI : Iw D A (w_Mo g a0 s0 ++ (rest)) H) (hS : va_S A s.heap H locs) (h : B_Mo_fragment_273  s0 y0 = some out) : W p l e (headSpec ws_Mo_fragment { frames := 10, cells := 0, slots := 0, locals := 248 }).room s m args below meth c H locs 0 0 (MQ below (QcI D A g out.1 (fun (_ : Unit) => w_Mo g a0 out.2 ++ (rest))) args s 0 0 A) (F0 m 273 ls [.int y0]) := by
  have X1 := X
  obtain ⟨hx, hb, hml, hown, hts, hr, hlocks, hKK⟩ := X1
  have ht : ∀ w ∈ TB, w.before args s = true := fun w h => hts w (List.mem_cons_of_mem _ h)
  have hK := hKK.1
  unfold B_Mo_fragment_273 at h
  have hc1 : y0 = 0 ∨ y0 = 1 := by
    by_cases z : y0 = 0 ∨ y0 = 1
    · exact z
    · exact no_s (it_f h z)
  have h := it_t h hc1
  have h9 := Option.some.inj h
  subst h9
  exact W.zret (v := y0) hx hb hr (by rcases hc1 with z | z <;> rw [z] <;> rfl) (fun t ht hW => ⟨⟨_, (), rfl, rfl, ⟨by rw [ht]; exact hI, hKK.moved hW⟩⟩, hS.F ht⟩) hS.2.2 d_Mo_fragment_273
set_option maxRecDepth 100000 in
set_option maxHeartbeats 4000000 in
theorem t_Mo_fragment_268 {p : Program} {l : Launch} {e : Env} {s : State} {m : MethodId} {args : Array Value} {below : List Frame} {meth : Method} {c : Code} {D : va_G} {A : Nat → Prop} {g : Nat → ClassId} {rest : va_W} {a0 : Nat → Nat} {ls : Array Slot} {H : Heap} {locs : List Loc} {s0 : S_Mo} {out : Int32 × S_Mo} (X : Cx p s m args meth c prog_11_method_39_code 6 ws_Mo_fragment R_Mo (some .boolean) D g) (hl : lv_has ls 6 []) (hI : Iw D A (w_Mo g a0 s0 ++ (rest)) H) (hS : va_S A s.heap H locs) (h : B_Mo_fragment_268  s0 = some out) : W p l e (headSpec ws_Mo_fragment { frames := 10, cells := 0, slots := 0, locals := 248 }).room s m args below meth c H locs 0 0 (MQ below (QcI D A g out.1 (fun (_ : Unit) => w_Mo g a0 out.2 ++ (rest))) args s 0 0 A) (F0 m 268 ls []) := by
  have X1 := X
  obtain ⟨hx, hb, hml, hown, hts, hr, hlocks, hKK⟩ := X1
  have ht : ∀ w ∈ TB, w.before args s = true := fun w h => hts w (List.mem_cons_of_mem _ h)
  have hK := hKK.1
  unfold B_Mo_fragment_268 at h
  refine lv_iconst (v := 1) hx hb d_Mo_fragment_268 (by decide) ?_
  refine lv_goto (tgt := 273) hx hb d_Mo_fragment_269 (by decide) ?_
  exact t_Mo_fragment_273 X (lv_sub hl [] rfl) hI hS h
set_option maxRecDepth 100000 in
set_option maxHeartbeats 4000000 in
theorem t_Mo_fragment_272 {p : Program} {l : Launch} {e : Env} {s : State} {m : MethodId} {args : Array Value} {below : List Frame} {meth : Method} {c : Code} {D : va_G} {A : Nat → Prop} {g : Nat → ClassId} {rest : va_W} {a0 : Nat → Nat} {ls : Array Slot} {H : Heap} {locs : List Loc} {s0 : S_Mo} {out : Int32 × S_Mo} (X : Cx p s m args meth c prog_11_method_39_code 6 ws_Mo_fragment R_Mo (some .boolean) D g) (hl : lv_has ls 6 []) (hI : Iw D A (w_Mo g a0 s0 ++ (rest)) H) (hS : va_S A s.heap H locs) (h : B_Mo_fragment_272  s0 = some out) : W p l e (headSpec ws_Mo_fragment { frames := 10, cells := 0, slots := 0, locals := 248 }).room s m args below meth c H locs 0 0 (MQ below (QcI D A g out.1 (fun (_ : Unit) => w_Mo g a0 out.2 ++ (rest))) args s 0 0 A) (F0 m 272 ls []) := by
  have X1 := X
  obtain ⟨hx, hb, hml, hown, hts, hr, hlocks, hKK⟩ := X1
  have ht : ∀ w ∈ TB, w.before args s = true := fun w h => hts w (List.mem_cons_of_mem _ h)
  have hK := hKK.1
  unfold B_Mo_fragment_272 at h
  refine lv_iconst (v := 0) hx hb d_Mo_fragment_272 (by decide) ?_
  exact t_Mo_fragment_273 X (lv_sub hl [] rfl) hI hS h
set_option maxRecDepth 100000 in
set_option maxHeartbeats 4000000 in
theorem t_Mo_fragment_261 {p : Program} {l : Launch} {e : Env} {s : State} {m : MethodId} {args : Array Value} {below : List Frame} {meth : Method} {c : Code} {D : va_G} {A : Nat → Prop} {g : Nat → ClassId} {rest : va_W} {a0 : Nat → Nat} {ls : Array Slot} {H : Heap} {locs : List Loc} {s0 : S_Mo} {out : Int32 × S_Mo} (X : Cx p s m args meth c prog_11_method_39_code 6 ws_Mo_fragment R_Mo (some .boolean) D g) (hl : lv_has ls 6 [(0, .ref (a0 0))]) (hI : Iw D A (w_Mo g a0 s0 ++ (rest)) H) (hS : va_S A s.heap H locs) (h : B_Mo_fragment_261  s0 = some out) : W p l e (headSpec ws_Mo_fragment { frames := 10, cells := 0, slots := 0, locals := 248 }).room s m args below meth c H locs 0 0 (MQ below (QcI D A g out.1 (fun (_ : Unit) => w_Mo g a0 out.2 ++ (rest))) args s 0 0 A) (F0 m 261 ls []) := by
  have X1 := X
  obtain ⟨hx, hb, hml, hown, hts, hr, hlocks, hKK⟩ := X1
  have ht : ∀ w ∈ TB, w.before args s = true := fun w h => hts w (List.mem_cons_of_mem _ h)
  have hK := hKK.1
  unfold B_Mo_fragment_261 at h
  refine lv_aload_n hx hb d_Mo_fragment_261 rfl (lv_at hl 0 rfl) ?_
  obtain ⟨o1, ho2, h⟩ := bd_s h
  refine cl_i (W1 := fun (_ : Unit) => w_Mo g a0 o1.2 ++ (rest)) (va_runV (As := []) (rest := []) ⟨hx, hb, hml, hown, ht⟩ (c_Mo_commanded (l := l) (D := D) (A := A) (g := g) (rest := rest) (a0 := a0) ho2) (cwV 0 ht (gd_V m_1168 m_1170 mp_76 m_11 m_1171) rfl rfl rfl (by decide +kernel) ⟨(Nat.le_of_ble_eq_true rfl), (Nat.le_of_ble_eq_true rfl)⟩) (prV (ci := 9) (q0 := 0) hKK hI (List.Perm.refl _) rfl rfl rfl) rfl rfl hl.1 rfl (lv_room (Nat.le_of_ble_eq_true rfl)) d_Mo_fragment_262 ⟨(Nat.le_of_ble_eq_true rfl), (Nat.le_of_ble_eq_true rfl)⟩) hS (fun _ => ((List.Perm.refl _)).symm) (fun _ H locs hI hS => ?_)
  have hI : Iw D A (w_Mo g a0 o1.2 ++ (rest)) H := hI
  refine lv_if_eq (tgt := 272) hx hb d_Mo_fragment_265 (by decide) (fun hc => ?_) (fun hc => ?_)
  · have h := it_t h hc
    exact t_Mo_fragment_272 X (lv_sub hl [] rfl) hI hS h
  · have h := it_f h hc
    exact t_Mo_fragment_268 X (lv_sub hl [] rfl) hI hS h
set_option maxRecDepth 100000 in
set_option maxHeartbeats 4000000 in
theorem t_Mo_fragment_257 {p : Program} {l : Launch} {e : Env} {s : State} {m : MethodId} {args : Array Value} {below : List Frame} {meth : Method} {c : Code} {D : va_G} {A : Nat → Prop} {g : Nat → ClassId} {rest : va_W} {a0 : Nat → Nat} {ls : Array Slot} {H : Heap} {locs : List Loc} {s0 : S_Mo} {x3 : Int32} {out : Int32 × S_Mo} (X : Cx p s m args meth c prog_11_method_39_code 6 ws_Mo_fragment R_Mo (some .boolean) D g) (hl : lv_has ls 6 [(0, .ref (a0 0)), (3, .int x3)]) (hI : Iw D A (w_Mo g a0 s0 ++ (rest)) H) (hS : va_S A s.heap H locs) (h : B_Mo_fragment_257  s0 x3 = some out) : W p l e (headSpec ws_Mo_fragment { frames := 10, cells := 0, slots := 0, locals := 248 }).room s m args below meth c H locs 0 0 (MQ below (QcI D A g out.1 (fun (_ : Unit) => w_Mo g a0 out.2 ++ (rest))) args s 0 0 A) (F0 m 257 ls []) := by
  have X1 := X
  obtain ⟨hx, hb, hml, hown, hts, hr, hlocks, hKK⟩ := X1
  have ht : ∀ w ∈ TB, w.before args s = true := fun w h => hts w (List.mem_cons_of_mem _ h)
  have hK := hKK.1
  unfold B_Mo_fragment_257 at h
  refine lv_iload_n hx hb d_Mo_fragment_257 rfl (lv_at hl 1 rfl) ?_
  refine lv_if_eq (tgt := 268) hx hb d_Mo_fragment_258 (by decide) (fun hc => ?_) (fun hc => ?_)
  · have h := it_t h hc
    exact t_Mo_fragment_268 X (lv_sub hl [] rfl) hI hS h
  · have h := it_f h hc
    exact t_Mo_fragment_261 X (lv_sub hl [0] rfl) hI hS h
set_option maxRecDepth 100000 in
set_option maxHeartbeats 4000000 in
theorem t_Mo_fragment_252 {p : Program} {l : Launch} {e : Env} {s : State} {m : MethodId} {args : Array Value} {below : List Frame} {meth : Method} {c : Code} {D : va_G} {A : Nat → Prop} {g : Nat → ClassId} {rest : va_W} {a0 : Nat → Nat} {ls : Array Slot} {H : Heap} {locs : List Loc} {s0 : S_Mo} {x3 : Int32} {out : Int32 × S_Mo} (X : Cx p s m args meth c prog_11_method_39_code 6 ws_Mo_fragment R_Mo (some .boolean) D g) (hl : lv_has ls 6 [(0, .ref (a0 0)), (3, .int x3)]) (hI : Iw D A (w_Mo g a0 s0 ++ (rest)) H) (hS : va_S A s.heap H locs) (h : B_Mo_fragment_252  s0 x3 = some out) : W p l e (headSpec ws_Mo_fragment { frames := 10, cells := 0, slots := 0, locals := 248 }).room s m args below meth c H locs 0 0 (MQ below (QcI D A g out.1 (fun (_ : Unit) => w_Mo g a0 out.2 ++ (rest))) args s 0 0 A) (F0 m 252 ls []) := by
  have X1 := X
  obtain ⟨hx, hb, hml, hown, hts, hr, hlocks, hKK⟩ := X1
  have ht : ∀ w ∈ TB, w.before args s = true := fun w h => hts w (List.mem_cons_of_mem _ h)
  have hK := hKK.1
  unfold B_Mo_fragment_252 at h
  refine lv_aload_n hx hb d_Mo_fragment_252 rfl (lv_at hl 0 rfl) ?_
  refine lv_iconst (v := 1) hx hb d_Mo_fragment_253 (by decide) ?_
  obtain ⟨o1, ho2, h⟩ := bd_s h
  refine cl_v (W1 := fun (_ : Unit) => w_Mo g a0 o1 ++ (rest)) (va_runV (As := [.int (1 : Int32)]) (rest := []) ⟨hx, hb, hml, hown, ht⟩ (c_Mo_answer (l := l) (D := D) (A := A) (g := g) (rest := rest) (a0 := a0) ho2) (cwV 1 ht (gd_V m_1116 m_1118 mp_63 m_11 m_1119) rfl rfl rfl (by decide +kernel) ⟨(Nat.le_of_ble_eq_true rfl), (Nat.le_of_ble_eq_true rfl)⟩) (prV (ci := 9) (q0 := 0) hKK hI (List.Perm.refl _) rfl rfl rfl) rfl rfl hl.1 rfl (lv_room (Nat.le_of_ble_eq_true rfl)) d_Mo_fragment_254 ⟨(Nat.le_of_ble_eq_true rfl), (Nat.le_of_ble_eq_true rfl)⟩) hS (fun _ => ((List.Perm.refl _)).symm) (fun _ H locs hI hS => ?_)
  have hI : Iw D A (w_Mo g a0 o1 ++ (rest)) H := hI
  exact t_Mo_fragment_257 X (lv_sub hl [0, 1] rfl) hI hS h
set_option maxRecDepth 100000 in
set_option maxHeartbeats 4000000 in
theorem t_Mo_fragment_248 {p : Program} {l : Launch} {e : Env} {s : State} {m : MethodId} {args : Array Value} {below : List Frame} {meth : Method} {c : Code} {D : va_G} {A : Nat → Prop} {g : Nat → ClassId} {rest : va_W} {a0 : Nat → Nat} {ls : Array Slot} {H : Heap} {locs : List Loc} {s0 : S_Mo} {x3 : Int32} {out : Int32 × S_Mo} (X : Cx p s m args meth c prog_11_method_39_code 6 ws_Mo_fragment R_Mo (some .boolean) D g) (hl : lv_has ls 6 [(0, .ref (a0 0)), (3, .int x3)]) (hI : Iw D A (w_Mo g a0 s0 ++ (rest)) H) (hS : va_S A s.heap H locs) (h : B_Mo_fragment_248  s0 x3 = some out) : W p l e (headSpec ws_Mo_fragment { frames := 10, cells := 0, slots := 0, locals := 248 }).room s m args below meth c H locs 0 0 (MQ below (QcI D A g out.1 (fun (_ : Unit) => w_Mo g a0 out.2 ++ (rest))) args s 0 0 A) (F0 m 248 ls []) := by
  have X1 := X
  obtain ⟨hx, hb, hml, hown, hts, hr, hlocks, hKK⟩ := X1
  have ht : ∀ w ∈ TB, w.before args s = true := fun w h => hts w (List.mem_cons_of_mem _ h)
  have hK := hKK.1
  unfold B_Mo_fragment_248 at h
  refine lv_iload_n hx hb d_Mo_fragment_248 rfl (lv_at hl 1 rfl) ?_
  refine lv_if_ne (tgt := 257) hx hb d_Mo_fragment_249 (by decide) (fun hc => ?_) (fun hc => ?_)
  · have h := it_f h hc
    exact t_Mo_fragment_257 X (lv_sub hl [0, 1] rfl) hI hS h
  · have h := it_t h hc
    exact t_Mo_fragment_252 X (lv_sub hl [0, 1] rfl) hI hS h
set_option maxRecDepth 100000 in
set_option maxHeartbeats 4000000 in
theorem t_Mo_fragment_246 {p : Program} {l : Launch} {e : Env} {s : State} {m : MethodId} {args : Array Value} {below : List Frame} {meth : Method} {c : Code} {D : va_G} {A : Nat → Prop} {g : Nat → ClassId} {rest : va_W} {a0 : Nat → Nat} {ls : Array Slot} {H : Heap} {locs : List Loc} {s0 : S_Mo} {out : Int32 × S_Mo} (X : Cx p s m args meth c prog_11_method_39_code 6 ws_Mo_fragment R_Mo (some .boolean) D g) (hl : lv_has ls 6 []) (hI : Iw D A (w_Mo g a0 s0 ++ (rest)) H) (hS : va_S A s.heap H locs) (h : B_Mo_fragment_246  s0 = some out) : W p l e (headSpec ws_Mo_fragment { frames := 10, cells := 0, slots := 0, locals := 248 }).room s m args below meth c H locs 0 0 (MQ below (QcI D A g out.1 (fun (_ : Unit) => w_Mo g a0 out.2 ++ (rest))) args s 0 0 A) (F0 m 246 ls []) := by
  have X1 := X
  obtain ⟨hx, hb, hml, hown, hts, hr, hlocks, hKK⟩ := X1
  have ht : ∀ w ∈ TB, w.before args s = true := fun w h => hts w (List.mem_cons_of_mem _ h)
  have hK := hKK.1
  unfold B_Mo_fragment_246 at h
  refine lv_iconst (v := 1) hx hb d_Mo_fragment_246 (by decide) ?_
  have h9 := Option.some.inj h
  subst h9
  exact W.zret (v := (1 : Int32)) hx hb hr rfl (fun t ht hW => ⟨⟨_, (), rfl, rfl, ⟨by rw [ht]; exact hI, hKK.moved hW⟩⟩, hS.F ht⟩) hS.2.2 d_Mo_fragment_247
set_option maxRecDepth 100000 in
set_option maxHeartbeats 4000000 in
theorem t_Mo_fragment_232 {p : Program} {l : Launch} {e : Env} {s : State} {m : MethodId} {args : Array Value} {below : List Frame} {meth : Method} {c : Code} {D : va_G} {A : Nat → Prop} {g : Nat → ClassId} {rest : va_W} {a0 : Nat → Nat} {ls : Array Slot} {H : Heap} {locs : List Loc} {s0 : S_Mo} {x3 : Int32} {y0 : Int32} {y1 : Int32} {out : Int32 × S_Mo} (X : Cx p s m args meth c prog_11_method_39_code 6 ws_Mo_fragment R_Mo (some .boolean) D g) (hl : lv_has ls 6 [(0, .ref (a0 0)), (3, .int x3)]) (hI : Iw D A (w_Mo g a0 s0 ++ (rest)) H) (hS : va_S A s.heap H locs) (h : B_Mo_fragment_232  s0 x3 y0 y1 = some out) : W p l e (headSpec ws_Mo_fragment { frames := 10, cells := 0, slots := 0, locals := 248 }).room s m args below meth c H locs 0 0 (MQ below (QcI D A g out.1 (fun (_ : Unit) => w_Mo g a0 out.2 ++ (rest))) args s 0 0 A) (F0 m 232 ls [.int y0, .int y1, .ref (a0 0)]) := by
  have X1 := X
  obtain ⟨hx, hb, hml, hown, hts, hr, hlocks, hKK⟩ := X1
  have ht : ∀ w ∈ TB, w.before args s = true := fun w h => hts w (List.mem_cons_of_mem _ h)
  have hK := hKK.1
  unfold B_Mo_fragment_232 at h
  refine lv_iadd hx hb d_Mo_fragment_232 ?_
  refine pt_Mo_bodies hx hb ht hown hK hI hS (ht _ m_858) d_Mo_fragment_233 (fun H locs hI hS => ?_)
  refine lv_aload_n hx hb d_Mo_fragment_236 rfl (lv_at hl 0 rfl) ?_
  refine gt_Mo_input hx hb ht hown hK hI (ht _ m_846) d_Mo_fragment_237 ?_
  refine lv_iconst (v := 3) hx hb d_Mo_fragment_240 (by decide) ?_
  by_cases hc1 : ((3 : Int32) < 0 ∨ 202 ≤ (3 : Int32).toNatClampNeg)
  · exact no_s (it_t h hc1)
  have h := it_f h hc1
  refine al_Mo_input hx hb hK hI hc1 d_Mo_fragment_241 ?_
  refine lv_iconst (v := 2) hx hb d_Mo_fragment_242 (by decide) ?_
  refine lv_icmp_ge (tgt := 248) hx hb d_Mo_fragment_243 (by decide) (fun hc => ?_) (fun hc => ?_)
  · have h := it_t h hc
    exact t_Mo_fragment_248 X (lv_sub hl [0, 1] rfl) hI hS h
  · have h := it_f h hc
    exact t_Mo_fragment_246 X (lv_sub hl [] rfl) hI hS h
set_option maxRecDepth 100000 in
set_option maxHeartbeats 4000000 in
theorem t_Mo_fragment_230 {p : Program} {l : Launch} {e : Env} {s : State} {m : MethodId} {args : Array Value} {below : List Frame} {meth : Method} {c : Code} {D : va_G} {A : Nat → Prop} {g : Nat → ClassId} {rest : va_W} {a0 : Nat → Nat} {ls : Array Slot} {H : Heap} {locs : List Loc} {s0 : S_Mo} {x3 : Int32} {x4 : Int32} {y0 : Int32} {out : Int32 × S_Mo} (X : Cx p s m args meth c prog_11_method_39_code 6 ws_Mo_fragment R_Mo (some .boolean) D g) (hl : lv_has ls 6 [(0, .ref (a0 0)), (3, .int x3), (4, .int x4)]) (hI : Iw D A (w_Mo g a0 s0 ++ (rest)) H) (hS : va_S A s.heap H locs) (h : B_Mo_fragment_230  s0 x3 x4 y0 = some out) : W p l e (headSpec ws_Mo_fragment { frames := 10, cells := 0, slots := 0, locals := 248 }).room s m args below meth c H locs 0 0 (MQ below (QcI D A g out.1 (fun (_ : Unit) => w_Mo g a0 out.2 ++ (rest))) args s 0 0 A) (F0 m 230 ls [.int y0, .ref (a0 0)]) := by
  have X1 := X
  obtain ⟨hx, hb, hml, hown, hts, hr, hlocks, hKK⟩ := X1
  have ht : ∀ w ∈ TB, w.before args s = true := fun w h => hts w (List.mem_cons_of_mem _ h)
  have hK := hKK.1
  unfold B_Mo_fragment_230 at h
  refine lv_iload hx hb d_Mo_fragment_230 (lv_at hl 2 rfl) ?_
  exact t_Mo_fragment_232 X (lv_sub hl [0, 1] rfl) hI hS h
set_option maxRecDepth 100000 in
set_option maxHeartbeats 4000000 in
theorem t_Mo_fragment_226 {p : Program} {l : Launch} {e : Env} {s : State} {m : MethodId} {args : Array Value} {below : List Frame} {meth : Method} {c : Code} {D : va_G} {A : Nat → Prop} {g : Nat → ClassId} {rest : va_W} {a0 : Nat → Nat} {ls : Array Slot} {H : Heap} {locs : List Loc} {s0 : S_Mo} {x3 : Int32} {y0 : Int32} {out : Int32 × S_Mo} (X : Cx p s m args meth c prog_11_method_39_code 6 ws_Mo_fragment R_Mo (some .boolean) D g) (hl : lv_has ls 6 [(0, .ref (a0 0)), (3, .int x3)]) (hI : Iw D A (w_Mo g a0 s0 ++ (rest)) H) (hS : va_S A s.heap H locs) (h : B_Mo_fragment_226  s0 x3 y0 = some out) : W p l e (headSpec ws_Mo_fragment { frames := 10, cells := 0, slots := 0, locals := 248 }).room s m args below meth c H locs 0 0 (MQ below (QcI D A g out.1 (fun (_ : Unit) => w_Mo g a0 out.2 ++ (rest))) args s 0 0 A) (F0 m 226 ls [.int y0, .ref (a0 0)]) := by
  have X1 := X
  obtain ⟨hx, hb, hml, hown, hts, hr, hlocks, hKK⟩ := X1
  have ht : ∀ w ∈ TB, w.before args s = true := fun w h => hts w (List.mem_cons_of_mem _ h)
  have hK := hKK.1
  unfold B_Mo_fragment_226 at h
  refine lv_iconst (v := 0) hx hb d_Mo_fragment_226 (by decide) ?_
  refine lv_goto (tgt := 232) hx hb d_Mo_fragment_227 (by decide) ?_
  exact t_Mo_fragment_232 X (lv_sub hl [0, 1] rfl) hI hS h
set_option maxRecDepth 100000 in
set_option maxHeartbeats 4000000 in
theorem t_Mo_fragment_213 {p : Program} {l : Launch} {e : Env} {s : State} {m : MethodId} {args : Array Value} {below : List Frame} {meth : Method} {c : Code} {D : va_G} {A : Nat → Prop} {g : Nat → ClassId} {rest : va_W} {a0 : Nat → Nat} {ls : Array Slot} {H : Heap} {locs : List Loc} {s0 : S_Mo} {x3 : Int32} {x4 : Int32} {y0 : Int32} {y1 : Int32} {out : Int32 × S_Mo} (X : Cx p s m args meth c prog_11_method_39_code 6 ws_Mo_fragment R_Mo (some .boolean) D g) (hl : lv_has ls 6 [(0, .ref (a0 0)), (3, .int x3), (4, .int x4)]) (hI : Iw D A (w_Mo g a0 s0 ++ (rest)) H) (hS : va_S A s.heap H locs) (h : B_Mo_fragment_213  s0 x3 x4 y0 y1 = some out) : W p l e (headSpec ws_Mo_fragment { frames := 10, cells := 0, slots := 0, locals := 248 }).room s m args below meth c H locs 0 0 (MQ below (QcI D A g out.1 (fun (_ : Unit) => w_Mo g a0 out.2 ++ (rest))) args s 0 0 A) (F0 m 213 ls [.int y0, .int y1, .ref (a0 0)]) := by
  have X1 := X
  obtain ⟨hx, hb, hml, hown, hts, hr, hlocks, hKK⟩ := X1
  have ht : ∀ w ∈ TB, w.before args s = true := fun w h => hts w (List.mem_cons_of_mem _ h)
  have hK := hKK.1
  unfold B_Mo_fragment_213 at h
  refine lv_iadd hx hb d_Mo_fragment_213 ?_
  refine pt_Mo_commands hx hb ht hown hK hI hS (ht _ m_856) d_Mo_fragment_214 (fun H locs hI hS => ?_)
  refine lv_aload_n hx hb d_Mo_fragment_217 rfl (lv_at hl 0 rfl) ?_
  refine lv_dup hx hb d_Mo_fragment_218 rfl ?_
  refine gt_Mo_bodies hx hb ht hown hK hI (ht _ m_858) d_Mo_fragment_219 ?_
  refine lv_iload_n hx hb d_Mo_fragment_222 rfl (lv_at hl 1 rfl) ?_
  refine lv_if_eq (tgt := 230) hx hb d_Mo_fragment_223 (by decide) (fun hc => ?_) (fun hc => ?_)
  · have h := it_t h hc
    exact t_Mo_fragment_230 X (lv_sub hl [0, 1, 2] rfl) hI hS h
  · have h := it_f h hc
    exact t_Mo_fragment_226 X (lv_sub hl [0, 1] rfl) hI hS h
set_option maxRecDepth 100000 in
set_option maxHeartbeats 4000000 in
theorem t_Mo_fragment_212 {p : Program} {l : Launch} {e : Env} {s : State} {m : MethodId} {args : Array Value} {below : List Frame} {meth : Method} {c : Code} {D : va_G} {A : Nat → Prop} {g : Nat → ClassId} {rest : va_W} {a0 : Nat → Nat} {ls : Array Slot} {H : Heap} {locs : List Loc} {s0 : S_Mo} {x3 : Int32} {x4 : Int32} {y0 : Int32} {out : Int32 × S_Mo} (X : Cx p s m args meth c prog_11_method_39_code 6 ws_Mo_fragment R_Mo (some .boolean) D g) (hl : lv_has ls 6 [(0, .ref (a0 0)), (3, .int x3), (4, .int x4)]) (hI : Iw D A (w_Mo g a0 s0 ++ (rest)) H) (hS : va_S A s.heap H locs) (h : B_Mo_fragment_212  s0 x3 x4 y0 = some out) : W p l e (headSpec ws_Mo_fragment { frames := 10, cells := 0, slots := 0, locals := 248 }).room s m args below meth c H locs 0 0 (MQ below (QcI D A g out.1 (fun (_ : Unit) => w_Mo g a0 out.2 ++ (rest))) args s 0 0 A) (F0 m 212 ls [.int y0, .ref (a0 0)]) := by
  have X1 := X
  obtain ⟨hx, hb, hml, hown, hts, hr, hlocks, hKK⟩ := X1
  have ht : ∀ w ∈ TB, w.before args s = true := fun w h => hts w (List.mem_cons_of_mem _ h)
  have hK := hKK.1
  unfold B_Mo_fragment_212 at h
  refine lv_iconst (v := 0) hx hb d_Mo_fragment_212 (by decide) ?_
  exact t_Mo_fragment_213 X (lv_sub hl [0, 1, 2] rfl) hI hS h
set_option maxRecDepth 100000 in
set_option maxHeartbeats 4000000 in
theorem t_Mo_fragment_207 {p : Program} {l : Launch} {e : Env} {s : State} {m : MethodId} {args : Array Value} {below : List Frame} {meth : Method} {c : Code} {D : va_G} {A : Nat → Prop} {g : Nat → ClassId} {rest : va_W} {a0 : Nat → Nat} {ls : Array Slot} {H : Heap} {locs : List Loc} {s0 : S_Mo} {x3 : Int32} {x4 : Int32} {y0 : Int32} {out : Int32 × S_Mo} (X : Cx p s m args meth c prog_11_method_39_code 6 ws_Mo_fragment R_Mo (some .boolean) D g) (hl : lv_has ls 6 [(0, .ref (a0 0)), (3, .int x3), (4, .int x4)]) (hI : Iw D A (w_Mo g a0 s0 ++ (rest)) H) (hS : va_S A s.heap H locs) (h : B_Mo_fragment_207  s0 x3 x4 y0 = some out) : W p l e (headSpec ws_Mo_fragment { frames := 10, cells := 0, slots := 0, locals := 248 }).room s m args below meth c H locs 0 0 (MQ below (QcI D A g out.1 (fun (_ : Unit) => w_Mo g a0 out.2 ++ (rest))) args s 0 0 A) (F0 m 207 ls [.int y0, .ref (a0 0)]) := by
  have X1 := X
  obtain ⟨hx, hb, hml, hown, hts, hr, hlocks, hKK⟩ := X1
  have ht : ∀ w ∈ TB, w.before args s = true := fun w h => hts w (List.mem_cons_of_mem _ h)
  have hK := hKK.1
  unfold B_Mo_fragment_207 at h
  refine lv_iload hx hb d_Mo_fragment_207 (lv_at hl 2 rfl) ?_
  refine lv_goto (tgt := 213) hx hb d_Mo_fragment_209 (by decide) ?_
  exact t_Mo_fragment_213 X (lv_sub hl [0, 1, 2] rfl) hI hS h
set_option maxRecDepth 100000 in
set_option maxHeartbeats 4000000 in
theorem t_Mo_fragment_198 {p : Program} {l : Launch} {e : Env} {s : State} {m : MethodId} {args : Array Value} {below : List Frame} {meth : Method} {c : Code} {D : va_G} {A : Nat → Prop} {g : Nat → ClassId} {rest : va_W} {a0 : Nat → Nat} {ls : Array Slot} {H : Heap} {locs : List Loc} {s0 : S_Mo} {x3 : Int32} {x4 : Int32} {out : Int32 × S_Mo} (X : Cx p s m args meth c prog_11_method_39_code 6 ws_Mo_fragment R_Mo (some .boolean) D g) (hl : lv_has ls 6 [(0, .ref (a0 0)), (3, .int x3), (4, .int x4)]) (hI : Iw D A (w_Mo g a0 s0 ++ (rest)) H) (hS : va_S A s.heap H locs) (h : B_Mo_fragment_198  s0 x3 x4 = some out) : W p l e (headSpec ws_Mo_fragment { frames := 10, cells := 0, slots := 0, locals := 248 }).room s m args below meth c H locs 0 0 (MQ below (QcI D A g out.1 (fun (_ : Unit) => w_Mo g a0 out.2 ++ (rest))) args s 0 0 A) (F0 m 198 ls []) := by
  have X1 := X
  obtain ⟨hx, hb, hml, hown, hts, hr, hlocks, hKK⟩ := X1
  have ht : ∀ w ∈ TB, w.before args s = true := fun w h => hts w (List.mem_cons_of_mem _ h)
  have hK := hKK.1
  unfold B_Mo_fragment_198 at h
  refine lv_aload_n hx hb d_Mo_fragment_198 rfl (lv_at hl 0 rfl) ?_
  refine lv_dup hx hb d_Mo_fragment_199 rfl ?_
  refine gt_Mo_commands hx hb ht hown hK hI (ht _ m_856) d_Mo_fragment_200 ?_
  refine lv_iload_n hx hb d_Mo_fragment_203 rfl (lv_at hl 1 rfl) ?_
  refine lv_if_eq (tgt := 212) hx hb d_Mo_fragment_204 (by decide) (fun hc => ?_) (fun hc => ?_)
  · have h := it_t h hc
    exact t_Mo_fragment_212 X (lv_sub hl [0, 1, 2] rfl) hI hS h
  · have h := it_f h hc
    exact t_Mo_fragment_207 X (lv_sub hl [0, 1, 2] rfl) hI hS h
set_option maxRecDepth 100000 in
set_option maxHeartbeats 4000000 in
theorem t_Mo_fragment_192 {p : Program} {l : Launch} {e : Env} {s : State} {m : MethodId} {args : Array Value} {below : List Frame} {meth : Method} {c : Code} {D : va_G} {A : Nat → Prop} {g : Nat → ClassId} {rest : va_W} {a0 : Nat → Nat} {ls : Array Slot} {H : Heap} {locs : List Loc} {k136 : S_Mo × Int32 × Int32 × Int32 → Option (Int32 × S_Mo)} {s0 : S_Mo} {x3 : Int32} {x4 : Int32} {x5 : Int32} {out : Int32 × S_Mo} (X : Cx p s m args meth c prog_11_method_39_code 6 ws_Mo_fragment R_Mo (some .boolean) D g) (hk136 : ∀ (v : S_Mo × Int32 × Int32 × Int32) (ls : Array Slot) (H : Heap) (locs : List Loc), lv_has ls 6 [(0, .ref (a0 0)), (3, .int v.2.1), (4, .int v.2.2.1), (5, .int v.2.2.2)] → Iw D A (w_Mo g a0 v.1 ++ (rest)) H → va_S A s.heap H locs → k136 v = some out → W p l e (headSpec ws_Mo_fragment { frames := 10, cells := 0, slots := 0, locals := 248 }).room s m args below meth c H locs 0 0 (MQ below (QcI D A g out.1 (fun (_ : Unit) => w_Mo g a0 out.2 ++ (rest))) args s 0 0 A) (F0 m 136 ls [])) (hl : lv_has ls 6 [(0, .ref (a0 0)), (3, .int x3), (4, .int x4), (5, .int x5)]) (hI : Iw D A (w_Mo g a0 s0 ++ (rest)) H) (hS : va_S A s.heap H locs) (h : B_Mo_fragment_192 k136 s0 x3 x4 x5 = some out) : W p l e (headSpec ws_Mo_fragment { frames := 10, cells := 0, slots := 0, locals := 248 }).room s m args below meth c H locs 0 0 (MQ below (QcI D A g out.1 (fun (_ : Unit) => w_Mo g a0 out.2 ++ (rest))) args s 0 0 A) (F0 m 192 ls []) := by
  have X1 := X
  obtain ⟨hx, hb, hml, hown, hts, hr, hlocks, hKK⟩ := X1
  have ht : ∀ w ∈ TB, w.before args s = true := fun w h => hts w (List.mem_cons_of_mem _ h)
  have hK := hKK.1
  unfold B_Mo_fragment_192 at h
  refine lv_iinc (k := 3) (v := (x5 + 1)) hx hb d_Mo_fragment_192 hl rfl (congrArg (fun z => x5 + z) (by decide)) (Nat.le_of_ble_eq_true rfl) rfl (fun ls hl => ?_)
  have hl : lv_has ls 6 [(5, .int (x5 + 1)), (0, .ref (a0 0)), (3, .int x3), (4, .int x4)] := hl
  refine lv_goto (tgt := 136) hx hb d_Mo_fragment_195 (by decide) ?_
  exact hk136 (s0, x3, x4, (x5 + 1)) _ _ _ (lv_sub hl [1, 2, 3, 0] rfl) hI hS h
set_option maxRecDepth 100000 in
set_option maxHeartbeats 4000000 in
theorem t_Mo_fragment_171 {p : Program} {l : Launch} {e : Env} {s : State} {m : MethodId} {args : Array Value} {below : List Frame} {meth : Method} {c : Code} {D : va_G} {A : Nat → Prop} {g : Nat → ClassId} {rest : va_W} {a0 : Nat → Nat} {ls : Array Slot} {H : Heap} {locs : List Loc} {k136 : S_Mo × Int32 × Int32 × Int32 → Option (Int32 × S_Mo)} {s0 : S_Mo} {x3 : Int32} {x4 : Int32} {x5 : Int32} {out : Int32 × S_Mo} (X : Cx p s m args meth c prog_11_method_39_code 6 ws_Mo_fragment R_Mo (some .boolean) D g) (hk136 : ∀ (v : S_Mo × Int32 × Int32 × Int32) (ls : Array Slot) (H : Heap) (locs : List Loc), lv_has ls 6 [(0, .ref (a0 0)), (3, .int v.2.1), (4, .int v.2.2.1), (5, .int v.2.2.2)] → Iw D A (w_Mo g a0 v.1 ++ (rest)) H → va_S A s.heap H locs → k136 v = some out → W p l e (headSpec ws_Mo_fragment { frames := 10, cells := 0, slots := 0, locals := 248 }).room s m args below meth c H locs 0 0 (MQ below (QcI D A g out.1 (fun (_ : Unit) => w_Mo g a0 out.2 ++ (rest))) args s 0 0 A) (F0 m 136 ls [])) (hl : lv_has ls 6 [(0, .ref (a0 0)), (3, .int x3), (4, .int x4), (5, .int x5)]) (hI : Iw D A (w_Mo g a0 s0 ++ (rest)) H) (hS : va_S A s.heap H locs) (h : B_Mo_fragment_171 k136 s0 x3 x4 x5 = some out) : W p l e (headSpec ws_Mo_fragment { frames := 10, cells := 0, slots := 0, locals := 248 }).room s m args below meth c H locs 0 0 (MQ below (QcI D A g out.1 (fun (_ : Unit) => w_Mo g a0 out.2 ++ (rest))) args s 0 0 A) (F0 m 171 ls []) := by
  have X1 := X
  obtain ⟨hx, hb, hml, hown, hts, hr, hlocks, hKK⟩ := X1
  have ht : ∀ w ∈ TB, w.before args s = true := fun w h => hts w (List.mem_cons_of_mem _ h)
  have hK := hKK.1
  unfold B_Mo_fragment_171 at h
  refine lv_aload_n hx hb d_Mo_fragment_171 rfl (lv_at hl 0 rfl) ?_
  refine gt_Mo_body hx hb ht hown hK hI (ht _ m_857) d_Mo_fragment_172 ?_
  refine lv_aload_n hx hb d_Mo_fragment_175 rfl (lv_at hl 0 rfl) ?_
  refine gt_Mo_bodies hx hb ht hown hK hI (ht _ m_858) d_Mo_fragment_176 ?_
  refine lv_iload hx hb d_Mo_fragment_179 (lv_at hl 3 rfl) ?_
  refine lv_iadd hx hb d_Mo_fragment_181 ?_
  refine lv_aload_n hx hb d_Mo_fragment_182 rfl (lv_at hl 0 rfl) ?_
  refine gt_Mo_input hx hb ht hown hK hI (ht _ m_846) d_Mo_fragment_183 ?_
  refine lv_iconst (v := 4) hx hb d_Mo_fragment_186 (by decide) ?_
  refine lv_iload hx hb d_Mo_fragment_187 (lv_at hl 3 rfl) ?_
  refine lv_iadd hx hb d_Mo_fragment_189 ?_
  by_cases hc1 : (((4 : Int32) + x5) < 0 ∨ 202 ≤ ((4 : Int32) + x5).toNatClampNeg)
  · exact no_s (it_t h hc1)
  have h := it_f h hc1
  refine al_Mo_input hx hb hK hI hc1 d_Mo_fragment_190 ?_
  by_cases hc2 : (((Mo_bodies s0) + x5) < 0 ∨ 200 ≤ ((Mo_bodies s0) + x5).toNatClampNeg)
  · exact no_s (it_t h hc2)
  have h := it_f h hc2
  refine as_Mo_body hx hb hK hI hS hc2 d_Mo_fragment_191 (fun H locs hI hS => ?_)
  exact t_Mo_fragment_192 X hk136 (lv_sub hl [0, 1, 2, 3] rfl) hI hS h
set_option maxRecDepth 100000 in
set_option maxHeartbeats 4000000 in
theorem t_Mo_fragment_147 {p : Program} {l : Launch} {e : Env} {s : State} {m : MethodId} {args : Array Value} {below : List Frame} {meth : Method} {c : Code} {D : va_G} {A : Nat → Prop} {g : Nat → ClassId} {rest : va_W} {a0 : Nat → Nat} {ls : Array Slot} {H : Heap} {locs : List Loc} {k136 : S_Mo × Int32 × Int32 × Int32 → Option (Int32 × S_Mo)} {s0 : S_Mo} {x3 : Int32} {x4 : Int32} {x5 : Int32} {out : Int32 × S_Mo} (X : Cx p s m args meth c prog_11_method_39_code 6 ws_Mo_fragment R_Mo (some .boolean) D g) (hk136 : ∀ (v : S_Mo × Int32 × Int32 × Int32) (ls : Array Slot) (H : Heap) (locs : List Loc), lv_has ls 6 [(0, .ref (a0 0)), (3, .int v.2.1), (4, .int v.2.2.1), (5, .int v.2.2.2)] → Iw D A (w_Mo g a0 v.1 ++ (rest)) H → va_S A s.heap H locs → k136 v = some out → W p l e (headSpec ws_Mo_fragment { frames := 10, cells := 0, slots := 0, locals := 248 }).room s m args below meth c H locs 0 0 (MQ below (QcI D A g out.1 (fun (_ : Unit) => w_Mo g a0 out.2 ++ (rest))) args s 0 0 A) (F0 m 136 ls [])) (hl : lv_has ls 6 [(0, .ref (a0 0)), (3, .int x3), (4, .int x4), (5, .int x5)]) (hI : Iw D A (w_Mo g a0 s0 ++ (rest)) H) (hS : va_S A s.heap H locs) (h : B_Mo_fragment_147 k136 s0 x3 x4 x5 = some out) : W p l e (headSpec ws_Mo_fragment { frames := 10, cells := 0, slots := 0, locals := 248 }).room s m args below meth c H locs 0 0 (MQ below (QcI D A g out.1 (fun (_ : Unit) => w_Mo g a0 out.2 ++ (rest))) args s 0 0 A) (F0 m 147 ls []) := by
  have X1 := X
  obtain ⟨hx, hb, hml, hown, hts, hr, hlocks, hKK⟩ := X1
  have ht : ∀ w ∈ TB, w.before args s = true := fun w h => hts w (List.mem_cons_of_mem _ h)
  have hK := hKK.1
  unfold B_Mo_fragment_147 at h
  refine lv_aload_n hx hb d_Mo_fragment_147 rfl (lv_at hl 0 rfl) ?_
  refine gt_Mo_command hx hb ht hown hK hI (ht _ m_855) d_Mo_fragment_148 ?_
  refine lv_aload_n hx hb d_Mo_fragment_151 rfl (lv_at hl 0 rfl) ?_
  refine gt_Mo_commands hx hb ht hown hK hI (ht _ m_856) d_Mo_fragment_152 ?_
  refine lv_iload hx hb d_Mo_fragment_155 (lv_at hl 3 rfl) ?_
  refine lv_iadd hx hb d_Mo_fragment_157 ?_
  refine lv_aload_n hx hb d_Mo_fragment_158 rfl (lv_at hl 0 rfl) ?_
  refine gt_Mo_input hx hb ht hown hK hI (ht _ m_846) d_Mo_fragment_159 ?_
  refine lv_iconst (v := 4) hx hb d_Mo_fragment_162 (by decide) ?_
  refine lv_iload hx hb d_Mo_fragment_163 (lv_at hl 3 rfl) ?_
  refine lv_iadd hx hb d_Mo_fragment_165 ?_
  by_cases hc1 : (((4 : Int32) + x5) < 0 ∨ 202 ≤ ((4 : Int32) + x5).toNatClampNeg)
  · exact no_s (it_t h hc1)
  have h := it_f h hc1
  refine al_Mo_input hx hb hK hI hc1 d_Mo_fragment_166 ?_
  by_cases hc2 : (((Mo_commands s0) + x5) < 0 ∨ 200 ≤ ((Mo_commands s0) + x5).toNatClampNeg)
  · exact no_s (it_t h hc2)
  have h := it_f h hc2
  refine as_Mo_command hx hb hK hI hS hc2 d_Mo_fragment_167 (fun H locs hI hS => ?_)
  refine lv_goto (tgt := 192) hx hb d_Mo_fragment_168 (by decide) ?_
  exact t_Mo_fragment_192 X hk136 (lv_sub hl [0, 1, 2, 3] rfl) hI hS h
set_option maxRecDepth 100000 in
set_option maxHeartbeats 4000000 in
theorem t_Mo_fragment_143 {p : Program} {l : Launch} {e : Env} {s : State} {m : MethodId} {args : Array Value} {below : List Frame} {meth : Method} {c : Code} {D : va_G} {A : Nat → Prop} {g : Nat → ClassId} {rest : va_W} {a0 : Nat → Nat} {ls : Array Slot} {H : Heap} {locs : List Loc} {k136 : S_Mo × Int32 × Int32 × Int32 → Option (Int32 × S_Mo)} {s0 : S_Mo} {x3 : Int32} {x4 : Int32} {x5 : Int32} {out : Int32 × S_Mo} (X : Cx p s m args meth c prog_11_method_39_code 6 ws_Mo_fragment R_Mo (some .boolean) D g) (hk136 : ∀ (v : S_Mo × Int32 × Int32 × Int32) (ls : Array Slot) (H : Heap) (locs : List Loc), lv_has ls 6 [(0, .ref (a0 0)), (3, .int v.2.1), (4, .int v.2.2.1), (5, .int v.2.2.2)] → Iw D A (w_Mo g a0 v.1 ++ (rest)) H → va_S A s.heap H locs → k136 v = some out → W p l e (headSpec ws_Mo_fragment { frames := 10, cells := 0, slots := 0, locals := 248 }).room s m args below meth c H locs 0 0 (MQ below (QcI D A g out.1 (fun (_ : Unit) => w_Mo g a0 out.2 ++ (rest))) args s 0 0 A) (F0 m 136 ls [])) (hl : lv_has ls 6 [(0, .ref (a0 0)), (3, .int x3), (4, .int x4), (5, .int x5)]) (hI : Iw D A (w_Mo g a0 s0 ++ (rest)) H) (hS : va_S A s.heap H locs) (h : B_Mo_fragment_143 k136 s0 x3 x4 x5 = some out) : W p l e (headSpec ws_Mo_fragment { frames := 10, cells := 0, slots := 0, locals := 248 }).room s m args below meth c H locs 0 0 (MQ below (QcI D A g out.1 (fun (_ : Unit) => w_Mo g a0 out.2 ++ (rest))) args s 0 0 A) (F0 m 143 ls []) := by
  have X1 := X
  obtain ⟨hx, hb, hml, hown, hts, hr, hlocks, hKK⟩ := X1
  have ht : ∀ w ∈ TB, w.before args s = true := fun w h => hts w (List.mem_cons_of_mem _ h)
  have hK := hKK.1
  unfold B_Mo_fragment_143 at h
  refine lv_iload_n hx hb d_Mo_fragment_143 rfl (lv_at hl 1 rfl) ?_
  refine lv_if_eq (tgt := 171) hx hb d_Mo_fragment_144 (by decide) (fun hc => ?_) (fun hc => ?_)
  · have h := it_t h hc
    exact t_Mo_fragment_171 X hk136 (lv_sub hl [0, 1, 2, 3] rfl) hI hS h
  · have h := it_f h hc
    exact t_Mo_fragment_147 X hk136 (lv_sub hl [0, 1, 2, 3] rfl) hI hS h
set_option maxRecDepth 100000 in
set_option maxHeartbeats 4000000 in
theorem t_Mo_fragment_136 {p : Program} {l : Launch} {e : Env} {s : State} {m : MethodId} {args : Array Value} {below : List Frame} {meth : Method} {c : Code} {D : va_G} {A : Nat → Prop} {g : Nat → ClassId} {rest : va_W} {a0 : Nat → Nat} {ls : Array Slot} {H : Heap} {locs : List Loc} {k136 : S_Mo × Int32 × Int32 × Int32 → Option (Int32 × S_Mo)} {s0 : S_Mo} {x3 : Int32} {x4 : Int32} {x5 : Int32} {out : Int32 × S_Mo} (X : Cx p s m args meth c prog_11_method_39_code 6 ws_Mo_fragment R_Mo (some .boolean) D g) (hk136 : ∀ (v : S_Mo × Int32 × Int32 × Int32) (ls : Array Slot) (H : Heap) (locs : List Loc), lv_has ls 6 [(0, .ref (a0 0)), (3, .int v.2.1), (4, .int v.2.2.1), (5, .int v.2.2.2)] → Iw D A (w_Mo g a0 v.1 ++ (rest)) H → va_S A s.heap H locs → k136 v = some out → W p l e (headSpec ws_Mo_fragment { frames := 10, cells := 0, slots := 0, locals := 248 }).room s m args below meth c H locs 0 0 (MQ below (QcI D A g out.1 (fun (_ : Unit) => w_Mo g a0 out.2 ++ (rest))) args s 0 0 A) (F0 m 136 ls [])) (hl : lv_has ls 6 [(0, .ref (a0 0)), (3, .int x3), (4, .int x4), (5, .int x5)]) (hI : Iw D A (w_Mo g a0 s0 ++ (rest)) H) (hS : va_S A s.heap H locs) (h : B_Mo_fragment_136 k136 s0 x3 x4 x5 = some out) : W p l e (headSpec ws_Mo_fragment { frames := 10, cells := 0, slots := 0, locals := 248 }).room s m args below meth c H locs 0 0 (MQ below (QcI D A g out.1 (fun (_ : Unit) => w_Mo g a0 out.2 ++ (rest))) args s 0 0 A) (F0 m 136 ls []) := by
  have X1 := X
  obtain ⟨hx, hb, hml, hown, hts, hr, hlocks, hKK⟩ := X1
  have ht : ∀ w ∈ TB, w.before args s = true := fun w h => hts w (List.mem_cons_of_mem _ h)
  have hK := hKK.1
  unfold B_Mo_fragment_136 at h
  refine lv_iload hx hb d_Mo_fragment_136 (lv_at hl 3 rfl) ?_
  refine lv_iload hx hb d_Mo_fragment_138 (lv_at hl 2 rfl) ?_
  refine lv_icmp_ge (tgt := 198) hx hb d_Mo_fragment_140 (by decide) (fun hc => ?_) (fun hc => ?_)
  · have h := it_t h hc
    exact t_Mo_fragment_198 X (lv_sub hl [0, 1, 2] rfl) hI hS h
  · have h := it_f h hc
    exact t_Mo_fragment_143 X hk136 (lv_sub hl [0, 1, 2, 3] rfl) hI hS h
set_option maxRecDepth 100000 in
set_option maxHeartbeats 4000000 in
theorem T_Mo_fragment_136 {p : Program} {l : Launch} {e : Env} {s : State} {m : MethodId} {args : Array Value} {below : List Frame} {meth : Method} {c : Code} {D : va_G} {A : Nat → Prop} {g : Nat → ClassId} {rest : va_W} {a0 : Nat → Nat} {ls : Array Slot} {H : Heap} {locs : List Loc} {s0 : S_Mo} {x3 : Int32} {x4 : Int32} {x5 : Int32} {out : Int32 × S_Mo} (X : Cx p s m args meth c prog_11_method_39_code 6 ws_Mo_fragment R_Mo (some .boolean) D g) (hl : lv_has ls 6 [(0, .ref (a0 0)), (3, .int x3), (4, .int x4), (5, .int x5)]) (hI : Iw D A (w_Mo g a0 s0 ++ (rest)) H) (hS : va_S A s.heap H locs) (h : L_Mo_fragment_136   (s0, x3, x4, x5) = some out) : W p l e (headSpec ws_Mo_fragment { frames := 10, cells := 0, slots := 0, locals := 248 }).room s m args below meth c H locs 0 0 (MQ below (QcI D A g out.1 (fun (_ : Unit) => w_Mo g a0 out.2 ++ (rest))) args s 0 0 A) (F0 m 136 ls []) := by
  unfold L_Mo_fragment_136 at h
  exact lp_ind (P := fun v => ∀ (ls : Array Slot) (H : Heap) (locs : List Loc), lv_has ls 6 [(0, .ref (a0 0)), (3, .int v.2.1), (4, .int v.2.2.1), (5, .int v.2.2.2)] → Iw D A (w_Mo g a0 v.1 ++ (rest)) H → va_S A s.heap H locs → W p l e (headSpec ws_Mo_fragment { frames := 10, cells := 0, slots := 0, locals := 248 }).room s m args below meth c H locs 0 0 (MQ below (QcI D A g out.1 (fun (_ : Unit) => w_Mo g a0 out.2 ++ (rest))) args s 0 0 A) (F0 m 136 ls [])) (fun k v ih hb ls H locs  hl hI hS => t_Mo_fragment_136 X  (fun v' ls H locs  hl hI hS h' => ih v' h' ls H locs  hl hI hS) hl hI hS hb) FU _ h ls H locs  hl hI hS
set_option maxRecDepth 100000 in
set_option maxHeartbeats 4000000 in
theorem t_Mo_fragment_128 {p : Program} {l : Launch} {e : Env} {s : State} {m : MethodId} {args : Array Value} {below : List Frame} {meth : Method} {c : Code} {D : va_G} {A : Nat → Prop} {g : Nat → ClassId} {rest : va_W} {a0 : Nat → Nat} {ls : Array Slot} {H : Heap} {locs : List Loc} {s0 : S_Mo} {x2 : Int32} {x3 : Int32} {x4 : Int32} {out : Int32 × S_Mo} (X : Cx p s m args meth c prog_11_method_39_code 6 ws_Mo_fragment R_Mo (some .boolean) D g) (hl : lv_has ls 6 [(0, .ref (a0 0)), (2, .int x2), (3, .int x3), (4, .int x4)]) (hI : Iw D A (w_Mo g a0 s0 ++ (rest)) H) (hS : va_S A s.heap H locs) (h : B_Mo_fragment_128  s0 x2 x3 x4 = some out) : W p l e (headSpec ws_Mo_fragment { frames := 10, cells := 0, slots := 0, locals := 248 }).room s m args below meth c H locs 0 0 (MQ below (QcI D A g out.1 (fun (_ : Unit) => w_Mo g a0 out.2 ++ (rest))) args s 0 0 A) (F0 m 128 ls []) := by
  have X1 := X
  obtain ⟨hx, hb, hml, hown, hts, hr, hlocks, hKK⟩ := X1
  have ht : ∀ w ∈ TB, w.before args s = true := fun w h => hts w (List.mem_cons_of_mem _ h)
  have hK := hKK.1
  unfold B_Mo_fragment_128 at h
  refine lv_aload_n hx hb d_Mo_fragment_128 rfl (lv_at hl 0 rfl) ?_
  refine lv_iload_n hx hb d_Mo_fragment_129 rfl (lv_at hl 1 rfl) ?_
  refine pt_Mo_speaker hx hb ht hown hK hI hS (ht _ m_859) d_Mo_fragment_130 (fun H locs hI hS => ?_)
  refine lv_iconst (v := 0) hx hb d_Mo_fragment_133 (by decide) ?_
  refine lv_istore hx hb d_Mo_fragment_134 hl (Nat.le_of_ble_eq_true rfl) rfl (fun ls hl => ?_)
  have hl : lv_has ls 6 [(5, .int (0 : Int32)), (0, .ref (a0 0)), (2, .int x2), (3, .int x3), (4, .int x4)] := hl
  exact T_Mo_fragment_136 X (lv_sub hl [1, 3, 4, 0] rfl) hI hS h
set_option maxRecDepth 100000 in
set_option maxHeartbeats 4000000 in
theorem t_Mo_fragment_126 {p : Program} {l : Launch} {e : Env} {s : State} {m : MethodId} {args : Array Value} {below : List Frame} {meth : Method} {c : Code} {D : va_G} {A : Nat → Prop} {g : Nat → ClassId} {rest : va_W} {a0 : Nat → Nat} {ls : Array Slot} {H : Heap} {locs : List Loc} {s0 : S_Mo} {out : Int32 × S_Mo} (X : Cx p s m args meth c prog_11_method_39_code 6 ws_Mo_fragment R_Mo (some .boolean) D g) (hl : lv_has ls 6 []) (hI : Iw D A (w_Mo g a0 s0 ++ (rest)) H) (hS : va_S A s.heap H locs) (h : B_Mo_fragment_126  s0 = some out) : W p l e (headSpec ws_Mo_fragment { frames := 10, cells := 0, slots := 0, locals := 248 }).room s m args below meth c H locs 0 0 (MQ below (QcI D A g out.1 (fun (_ : Unit) => w_Mo g a0 out.2 ++ (rest))) args s 0 0 A) (F0 m 126 ls []) := by
  have X1 := X
  obtain ⟨hx, hb, hml, hown, hts, hr, hlocks, hKK⟩ := X1
  have ht : ∀ w ∈ TB, w.before args s = true := fun w h => hts w (List.mem_cons_of_mem _ h)
  have hK := hKK.1
  unfold B_Mo_fragment_126 at h
  refine lv_iconst (v := 0) hx hb d_Mo_fragment_126 (by decide) ?_
  have h9 := Option.some.inj h
  subst h9
  exact W.zret (v := (0 : Int32)) hx hb hr rfl (fun t ht hW => ⟨⟨_, (), rfl, rfl, ⟨by rw [ht]; exact hI, hKK.moved hW⟩⟩, hS.F ht⟩) hS.2.2 d_Mo_fragment_127
set_option maxRecDepth 100000 in
set_option maxHeartbeats 4000000 in
theorem t_Mo_fragment_117 {p : Program} {l : Launch} {e : Env} {s : State} {m : MethodId} {args : Array Value} {below : List Frame} {meth : Method} {c : Code} {D : va_G} {A : Nat → Prop} {g : Nat → ClassId} {rest : va_W} {a0 : Nat → Nat} {ls : Array Slot} {H : Heap} {locs : List Loc} {s0 : S_Mo} {x2 : Int32} {x3 : Int32} {x4 : Int32} {y0 : Int32} {out : Int32 × S_Mo} (X : Cx p s m args meth c prog_11_method_39_code 6 ws_Mo_fragment R_Mo (some .boolean) D g) (hl : lv_has ls 6 [(0, .ref (a0 0)), (2, .int x2), (3, .int x3), (4, .int x4)]) (hI : Iw D A (w_Mo g a0 s0 ++ (rest)) H) (hS : va_S A s.heap H locs) (h : B_Mo_fragment_117  s0 x2 x3 x4 y0 = some out) : W p l e (headSpec ws_Mo_fragment { frames := 10, cells := 0, slots := 0, locals := 248 }).room s m args below meth c H locs 0 0 (MQ below (QcI D A g out.1 (fun (_ : Unit) => w_Mo g a0 out.2 ++ (rest))) args s 0 0 A) (F0 m 117 ls [.int y0]) := by
  have X1 := X
  obtain ⟨hx, hb, hml, hown, hts, hr, hlocks, hKK⟩ := X1
  have ht : ∀ w ∈ TB, w.before args s = true := fun w h => hts w (List.mem_cons_of_mem _ h)
  have hK := hKK.1
  unfold B_Mo_fragment_117 at h
  refine lv_iload hx hb d_Mo_fragment_117 (lv_at hl 3 rfl) ?_
  refine lv_iadd hx hb d_Mo_fragment_119 ?_
  refine lv_sipush (v := 200) hx hb d_Mo_fragment_120 (by decide) ?_
  refine lv_icmp_le (tgt := 128) hx hb d_Mo_fragment_123 (by decide) (fun hc => ?_) (fun hc => ?_)
  · have h := it_t h hc
    exact t_Mo_fragment_128 X (lv_sub hl [0, 1, 2, 3] rfl) hI hS h
  · have h := it_f h hc
    exact t_Mo_fragment_126 X (lv_sub hl [] rfl) hI hS h
set_option maxRecDepth 100000 in
set_option maxHeartbeats 4000000 in
theorem t_Mo_fragment_113 {p : Program} {l : Launch} {e : Env} {s : State} {m : MethodId} {args : Array Value} {below : List Frame} {meth : Method} {c : Code} {D : va_G} {A : Nat → Prop} {g : Nat → ClassId} {rest : va_W} {a0 : Nat → Nat} {ls : Array Slot} {H : Heap} {locs : List Loc} {s0 : S_Mo} {x2 : Int32} {x3 : Int32} {x4 : Int32} {out : Int32 × S_Mo} (X : Cx p s m args meth c prog_11_method_39_code 6 ws_Mo_fragment R_Mo (some .boolean) D g) (hl : lv_has ls 6 [(0, .ref (a0 0)), (2, .int x2), (3, .int x3), (4, .int x4)]) (hI : Iw D A (w_Mo g a0 s0 ++ (rest)) H) (hS : va_S A s.heap H locs) (h : B_Mo_fragment_113  s0 x2 x3 x4 = some out) : W p l e (headSpec ws_Mo_fragment { frames := 10, cells := 0, slots := 0, locals := 248 }).room s m args below meth c H locs 0 0 (MQ below (QcI D A g out.1 (fun (_ : Unit) => w_Mo g a0 out.2 ++ (rest))) args s 0 0 A) (F0 m 113 ls []) := by
  have X1 := X
  obtain ⟨hx, hb, hml, hown, hts, hr, hlocks, hKK⟩ := X1
  have ht : ∀ w ∈ TB, w.before args s = true := fun w h => hts w (List.mem_cons_of_mem _ h)
  have hK := hKK.1
  unfold B_Mo_fragment_113 at h
  refine lv_aload_n hx hb d_Mo_fragment_113 rfl (lv_at hl 0 rfl) ?_
  refine gt_Mo_bodies hx hb ht hown hK hI (ht _ m_858) d_Mo_fragment_114 ?_
  exact t_Mo_fragment_117 X (lv_sub hl [0, 1, 2, 3] rfl) hI hS h
set_option maxRecDepth 100000 in
set_option maxHeartbeats 4000000 in
theorem t_Mo_fragment_106 {p : Program} {l : Launch} {e : Env} {s : State} {m : MethodId} {args : Array Value} {below : List Frame} {meth : Method} {c : Code} {D : va_G} {A : Nat → Prop} {g : Nat → ClassId} {rest : va_W} {a0 : Nat → Nat} {ls : Array Slot} {H : Heap} {locs : List Loc} {s0 : S_Mo} {x2 : Int32} {x3 : Int32} {x4 : Int32} {out : Int32 × S_Mo} (X : Cx p s m args meth c prog_11_method_39_code 6 ws_Mo_fragment R_Mo (some .boolean) D g) (hl : lv_has ls 6 [(0, .ref (a0 0)), (2, .int x2), (3, .int x3), (4, .int x4)]) (hI : Iw D A (w_Mo g a0 s0 ++ (rest)) H) (hS : va_S A s.heap H locs) (h : B_Mo_fragment_106  s0 x2 x3 x4 = some out) : W p l e (headSpec ws_Mo_fragment { frames := 10, cells := 0, slots := 0, locals := 248 }).room s m args below meth c H locs 0 0 (MQ below (QcI D A g out.1 (fun (_ : Unit) => w_Mo g a0 out.2 ++ (rest))) args s 0 0 A) (F0 m 106 ls []) := by
  have X1 := X
  obtain ⟨hx, hb, hml, hown, hts, hr, hlocks, hKK⟩ := X1
  have ht : ∀ w ∈ TB, w.before args s = true := fun w h => hts w (List.mem_cons_of_mem _ h)
  have hK := hKK.1
  unfold B_Mo_fragment_106 at h
  refine lv_aload_n hx hb d_Mo_fragment_106 rfl (lv_at hl 0 rfl) ?_
  refine gt_Mo_commands hx hb ht hown hK hI (ht _ m_856) d_Mo_fragment_107 ?_
  refine lv_goto (tgt := 117) hx hb d_Mo_fragment_110 (by decide) ?_
  exact t_Mo_fragment_117 X (lv_sub hl [0, 1, 2, 3] rfl) hI hS h
set_option maxRecDepth 100000 in
set_option maxHeartbeats 4000000 in
theorem t_Mo_fragment_97 {p : Program} {l : Launch} {e : Env} {s : State} {m : MethodId} {args : Array Value} {below : List Frame} {meth : Method} {c : Code} {D : va_G} {A : Nat → Prop} {g : Nat → ClassId} {rest : va_W} {a0 : Nat → Nat} {ls : Array Slot} {H : Heap} {locs : List Loc} {s0 : S_Mo} {x1 : Int32} {x2 : Int32} {x3 : Int32} {out : Int32 × S_Mo} (X : Cx p s m args meth c prog_11_method_39_code 6 ws_Mo_fragment R_Mo (some .boolean) D g) (hl : lv_has ls 6 [(0, .ref (a0 0)), (1, .int x1), (2, .int x2), (3, .int x3)]) (hI : Iw D A (w_Mo g a0 s0 ++ (rest)) H) (hS : va_S A s.heap H locs) (h : B_Mo_fragment_97  s0 x1 x2 x3 = some out) : W p l e (headSpec ws_Mo_fragment { frames := 10, cells := 0, slots := 0, locals := 248 }).room s m args below meth c H locs 0 0 (MQ below (QcI D A g out.1 (fun (_ : Unit) => w_Mo g a0 out.2 ++ (rest))) args s 0 0 A) (F0 m 97 ls []) := by
  have X1 := X
  obtain ⟨hx, hb, hml, hown, hts, hr, hlocks, hKK⟩ := X1
  have ht : ∀ w ∈ TB, w.before args s = true := fun w h => hts w (List.mem_cons_of_mem _ h)
  have hK := hKK.1
  unfold B_Mo_fragment_97 at h
  refine lv_iload_n hx hb d_Mo_fragment_97 rfl (lv_at hl 1 rfl) ?_
  refine lv_iconst (v := 2) hx hb d_Mo_fragment_98 (by decide) ?_
  refine lv_isub hx hb d_Mo_fragment_99 ?_
  refine lv_istore hx hb d_Mo_fragment_100 hl (Nat.le_of_ble_eq_true rfl) rfl (fun ls hl => ?_)
  have hl : lv_has ls 6 [(4, .int (x1 - (2 : Int32))), (0, .ref (a0 0)), (1, .int x1), (2, .int x2), (3, .int x3)] := hl
  refine lv_iload_n hx hb d_Mo_fragment_102 rfl (lv_at hl 4 rfl) ?_
  refine lv_if_eq (tgt := 113) hx hb d_Mo_fragment_103 (by decide) (fun hc => ?_) (fun hc => ?_)
  · have h := it_t h hc
    exact t_Mo_fragment_113 X (lv_sub hl [1, 3, 4, 0] rfl) hI hS h
  · have h := it_f h hc
    exact t_Mo_fragment_106 X (lv_sub hl [1, 3, 4, 0] rfl) hI hS h
set_option maxRecDepth 100000 in
set_option maxHeartbeats 4000000 in
theorem t_Mo_fragment_87 {p : Program} {l : Launch} {e : Env} {s : State} {m : MethodId} {args : Array Value} {below : List Frame} {meth : Method} {c : Code} {D : va_G} {A : Nat → Prop} {g : Nat → ClassId} {rest : va_W} {a0 : Nat → Nat} {ls : Array Slot} {H : Heap} {locs : List Loc} {s0 : S_Mo} {x1 : Int32} {x2 : Int32} {x3 : Int32} {out : Int32 × S_Mo} (X : Cx p s m args meth c prog_11_method_39_code 6 ws_Mo_fragment R_Mo (some .boolean) D g) (hl : lv_has ls 6 [(0, .ref (a0 0)), (1, .int x1), (2, .int x2), (3, .int x3)]) (hI : Iw D A (w_Mo g a0 s0 ++ (rest)) H) (hS : va_S A s.heap H locs) (h : B_Mo_fragment_87  s0 x1 x2 x3 = some out) : W p l e (headSpec ws_Mo_fragment { frames := 10, cells := 0, slots := 0, locals := 248 }).room s m args below meth c H locs 0 0 (MQ below (QcI D A g out.1 (fun (_ : Unit) => w_Mo g a0 out.2 ++ (rest))) args s 0 0 A) (F0 m 87 ls []) := by
  have X1 := X
  obtain ⟨hx, hb, hml, hown, hts, hr, hlocks, hKK⟩ := X1
  have ht : ∀ w ∈ TB, w.before args s = true := fun w h => hts w (List.mem_cons_of_mem _ h)
  have hK := hKK.1
  unfold B_Mo_fragment_87 at h
  refine lv_aload_n hx hb d_Mo_fragment_87 rfl (lv_at hl 0 rfl) ?_
  refine gt_Mo_speaker hx hb ht hown hK hI (ht _ m_859) d_Mo_fragment_88 ?_
  refine lv_iload_n hx hb d_Mo_fragment_91 rfl (lv_at hl 2 rfl) ?_
  refine lv_icmp_eq (tgt := 97) hx hb d_Mo_fragment_92 (by decide) (fun hc => ?_) (fun hc => ?_)
  · have h := it_t h hc
    exact t_Mo_fragment_97 X (lv_sub hl [0, 1, 2, 3] rfl) hI hS h
  · have h := it_f h hc
    exact t_Mo_fragment_95 X (lv_sub hl [] rfl) hI hS h
set_option maxRecDepth 100000 in
set_option maxHeartbeats 4000000 in
theorem t_Mo_fragment_80 {p : Program} {l : Launch} {e : Env} {s : State} {m : MethodId} {args : Array Value} {below : List Frame} {meth : Method} {c : Code} {D : va_G} {A : Nat → Prop} {g : Nat → ClassId} {rest : va_W} {a0 : Nat → Nat} {ls : Array Slot} {H : Heap} {locs : List Loc} {s0 : S_Mo} {x1 : Int32} {x2 : Int32} {x3 : Int32} {out : Int32 × S_Mo} (X : Cx p s m args meth c prog_11_method_39_code 6 ws_Mo_fragment R_Mo (some .boolean) D g) (hl : lv_has ls 6 [(0, .ref (a0 0)), (1, .int x1), (2, .int x2), (3, .int x3)]) (hI : Iw D A (w_Mo g a0 s0 ++ (rest)) H) (hS : va_S A s.heap H locs) (h : B_Mo_fragment_80  s0 x1 x2 x3 = some out) : W p l e (headSpec ws_Mo_fragment { frames := 10, cells := 0, slots := 0, locals := 248 }).room s m args below meth c H locs 0 0 (MQ below (QcI D A g out.1 (fun (_ : Unit) => w_Mo g a0 out.2 ++ (rest))) args s 0 0 A) (F0 m 80 ls []) := by
  have X1 := X
  obtain ⟨hx, hb, hml, hown, hts, hr, hlocks, hKK⟩ := X1
  have ht : ∀ w ∈ TB, w.before args s = true := fun w h => hts w (List.mem_cons_of_mem _ h)
  have hK := hKK.1
  unfold B_Mo_fragment_80 at h
  refine lv_aload_n hx hb d_Mo_fragment_80 rfl (lv_at hl 0 rfl) ?_
  refine gt_Mo_speaker hx hb ht hown hK hI (ht _ m_859) d_Mo_fragment_81 ?_
  refine lv_if_lt (tgt := 97) hx hb d_Mo_fragment_84 (by decide) (fun hc => ?_) (fun hc => ?_)
  · have h := it_t h hc
    exact t_Mo_fragment_97 X (lv_sub hl [0, 1, 2, 3] rfl) hI hS h
  · have h := it_f h hc
    exact t_Mo_fragment_87 X (lv_sub hl [0, 1, 2, 3] rfl) hI hS h
set_option maxRecDepth 100000 in
set_option maxHeartbeats 4000000 in
theorem t_Mo_fragment_77 {p : Program} {l : Launch} {e : Env} {s : State} {m : MethodId} {args : Array Value} {below : List Frame} {meth : Method} {c : Code} {D : va_G} {A : Nat → Prop} {g : Nat → ClassId} {rest : va_W} {a0 : Nat → Nat} {ls : Array Slot} {H : Heap} {locs : List Loc} {s0 : S_Mo} {x1 : Int32} {x2 : Int32} {x3 : Int32} {y0 : Int32} {y1 : Int32} {out : Int32 × S_Mo} (X : Cx p s m args meth c prog_11_method_39_code 6 ws_Mo_fragment R_Mo (some .boolean) D g) (hl : lv_has ls 6 [(0, .ref (a0 0)), (1, .int x1), (2, .int x2), (3, .int x3)]) (hI : Iw D A (w_Mo g a0 s0 ++ (rest)) H) (hS : va_S A s.heap H locs) (h : B_Mo_fragment_77  s0 x1 x2 x3 y0 y1 = some out) : W p l e (headSpec ws_Mo_fragment { frames := 10, cells := 0, slots := 0, locals := 248 }).room s m args below meth c H locs 0 0 (MQ below (QcI D A g out.1 (fun (_ : Unit) => w_Mo g a0 out.2 ++ (rest))) args s 0 0 A) (F0 m 77 ls [.int y0, .int y1]) := by
  have X1 := X
  obtain ⟨hx, hb, hml, hown, hts, hr, hlocks, hKK⟩ := X1
  have ht : ∀ w ∈ TB, w.before args s = true := fun w h => hts w (List.mem_cons_of_mem _ h)
  have hK := hKK.1
  unfold B_Mo_fragment_77 at h
  refine lv_icmp_ne (tgt := 95) hx hb d_Mo_fragment_77 (by decide) (fun hc => ?_) (fun hc => ?_)
  · have h := it_f h hc
    exact t_Mo_fragment_95 X (lv_sub hl [] rfl) hI hS h
  · have h := it_t h hc
    exact t_Mo_fragment_80 X (lv_sub hl [0, 1, 2, 3] rfl) hI hS h
set_option maxRecDepth 100000 in
set_option maxHeartbeats 4000000 in
theorem t_Mo_fragment_76 {p : Program} {l : Launch} {e : Env} {s : State} {m : MethodId} {args : Array Value} {below : List Frame} {meth : Method} {c : Code} {D : va_G} {A : Nat → Prop} {g : Nat → ClassId} {rest : va_W} {a0 : Nat → Nat} {ls : Array Slot} {H : Heap} {locs : List Loc} {s0 : S_Mo} {x1 : Int32} {x2 : Int32} {x3 : Int32} {y0 : Int32} {out : Int32 × S_Mo} (X : Cx p s m args meth c prog_11_method_39_code 6 ws_Mo_fragment R_Mo (some .boolean) D g) (hl : lv_has ls 6 [(0, .ref (a0 0)), (1, .int x1), (2, .int x2), (3, .int x3)]) (hI : Iw D A (w_Mo g a0 s0 ++ (rest)) H) (hS : va_S A s.heap H locs) (h : B_Mo_fragment_76  s0 x1 x2 x3 y0 = some out) : W p l e (headSpec ws_Mo_fragment { frames := 10, cells := 0, slots := 0, locals := 248 }).room s m args below meth c H locs 0 0 (MQ below (QcI D A g out.1 (fun (_ : Unit) => w_Mo g a0 out.2 ++ (rest))) args s 0 0 A) (F0 m 76 ls [.int y0]) := by
  have X1 := X
  obtain ⟨hx, hb, hml, hown, hts, hr, hlocks, hKK⟩ := X1
  have ht : ∀ w ∈ TB, w.before args s = true := fun w h => hts w (List.mem_cons_of_mem _ h)
  have hK := hKK.1
  unfold B_Mo_fragment_76 at h
  refine lv_iconst (v := 0) hx hb d_Mo_fragment_76 (by decide) ?_
  exact t_Mo_fragment_77 X (lv_sub hl [0, 1, 2, 3] rfl) hI hS h
set_option maxRecDepth 100000 in
set_option maxHeartbeats 4000000 in
theorem t_Mo_fragment_72 {p : Program} {l : Launch} {e : Env} {s : State} {m : MethodId} {args : Array Value} {below : List Frame} {meth : Method} {c : Code} {D : va_G} {A : Nat → Prop} {g : Nat → ClassId} {rest : va_W} {a0 : Nat → Nat} {ls : Array Slot} {H : Heap} {locs : List Loc} {s0 : S_Mo} {x1 : Int32} {x2 : Int32} {x3 : Int32} {y0 : Int32} {out : Int32 × S_Mo} (X : Cx p s m args meth c prog_11_method_39_code 6 ws_Mo_fragment R_Mo (some .boolean) D g) (hl : lv_has ls 6 [(0, .ref (a0 0)), (1, .int x1), (2, .int x2), (3, .int x3)]) (hI : Iw D A (w_Mo g a0 s0 ++ (rest)) H) (hS : va_S A s.heap H locs) (h : B_Mo_fragment_72  s0 x1 x2 x3 y0 = some out) : W p l e (headSpec ws_Mo_fragment { frames := 10, cells := 0, slots := 0, locals := 248 }).room s m args below meth c H locs 0 0 (MQ below (QcI D A g out.1 (fun (_ : Unit) => w_Mo g a0 out.2 ++ (rest))) args s 0 0 A) (F0 m 72 ls [.int y0]) := by
  have X1 := X
  obtain ⟨hx, hb, hml, hown, hts, hr, hlocks, hKK⟩ := X1
  have ht : ∀ w ∈ TB, w.before args s = true := fun w h => hts w (List.mem_cons_of_mem _ h)
  have hK := hKK.1
  unfold B_Mo_fragment_72 at h
  refine lv_iconst (v := 1) hx hb d_Mo_fragment_72 (by decide) ?_
  refine lv_goto (tgt := 77) hx hb d_Mo_fragment_73 (by decide) ?_
  exact t_Mo_fragment_77 X (lv_sub hl [0, 1, 2, 3] rfl) hI hS h
set_option maxRecDepth 100000 in
set_option maxHeartbeats 4000000 in
theorem t_Mo_fragment_63 {p : Program} {l : Launch} {e : Env} {s : State} {m : MethodId} {args : Array Value} {below : List Frame} {meth : Method} {c : Code} {D : va_G} {A : Nat → Prop} {g : Nat → ClassId} {rest : va_W} {a0 : Nat → Nat} {ls : Array Slot} {H : Heap} {locs : List Loc} {s0 : S_Mo} {x1 : Int32} {x2 : Int32} {y0 : Int32} {out : Int32 × S_Mo} (X : Cx p s m args meth c prog_11_method_39_code 6 ws_Mo_fragment R_Mo (some .boolean) D g) (hl : lv_has ls 6 [(0, .ref (a0 0)), (1, .int x1), (2, .int x2)]) (hI : Iw D A (w_Mo g a0 s0 ++ (rest)) H) (hS : va_S A s.heap H locs) (h : B_Mo_fragment_63  s0 x1 x2 y0 = some out) : W p l e (headSpec ws_Mo_fragment { frames := 10, cells := 0, slots := 0, locals := 248 }).room s m args below meth c H locs 0 0 (MQ below (QcI D A g out.1 (fun (_ : Unit) => w_Mo g a0 out.2 ++ (rest))) args s 0 0 A) (F0 m 63 ls [.int y0]) := by
  have X1 := X
  obtain ⟨hx, hb, hml, hown, hts, hr, hlocks, hKK⟩ := X1
  have ht : ∀ w ∈ TB, w.before args s = true := fun w h => hts w (List.mem_cons_of_mem _ h)
  have hK := hKK.1
  unfold B_Mo_fragment_63 at h
  refine lv_istore_n hx hb d_Mo_fragment_63 rfl hl (Nat.le_of_ble_eq_true rfl) rfl (fun ls hl => ?_)
  have hl : lv_has ls 6 [(3, .int y0), (0, .ref (a0 0)), (1, .int x1), (2, .int x2)] := hl
  refine lv_iload_n hx hb d_Mo_fragment_64 rfl (lv_at hl 0 rfl) ?_
  refine lv_aload_n hx hb d_Mo_fragment_65 rfl (lv_at hl 1 rfl) ?_
  refine gt_Mo_wanted hx hb ht hown hK hI (ht _ m_854) d_Mo_fragment_66 ?_
  refine lv_if_ne (tgt := 76) hx hb d_Mo_fragment_69 (by decide) (fun hc => ?_) (fun hc => ?_)
  · have h := it_f h hc
    exact t_Mo_fragment_76 X (lv_sub hl [1, 2, 3, 0] rfl) hI hS h
  · have h := it_t h hc
    exact t_Mo_fragment_72 X (lv_sub hl [1, 2, 3, 0] rfl) hI hS h
set_option maxRecDepth 100000 in
set_option maxHeartbeats 4000000 in
theorem t_Mo_fragment_62 {p : Program} {l : Launch} {e : Env} {s : State} {m : MethodId} {args : Array Value} {below : List Frame} {meth : Method} {c : Code} {D : va_G} {A : Nat → Prop} {g : Nat → ClassId} {rest : va_W} {a0 : Nat → Nat} {ls : Array Slot} {H : Heap} {locs : List Loc} {s0 : S_Mo} {x1 : Int32} {x2 : Int32} {out : Int32 × S_Mo} (X : Cx p s m args meth c prog_11_method_39_code 6 ws_Mo_fragment R_Mo (some .boolean) D g) (hl : lv_has ls 6 [(0, .ref (a0 0)), (1, .int x1), (2, .int x2)]) (hI : Iw D A (w_Mo g a0 s0 ++ (rest)) H) (hS : va_S A s.heap H locs) (h : B_Mo_fragment_62  s0 x1 x2 = some out) : W p l e (headSpec ws_Mo_fragment { frames := 10, cells := 0, slots := 0, locals := 248 }).room s m args below meth c H locs 0 0 (MQ below (QcI D A g out.1 (fun (_ : Unit) => w_Mo g a0 out.2 ++ (rest))) args s 0 0 A) (F0 m 62 ls []) := by
  have X1 := X
  obtain ⟨hx, hb, hml, hown, hts, hr, hlocks, hKK⟩ := X1
  have ht : ∀ w ∈ TB, w.before args s = true := fun w h => hts w (List.mem_cons_of_mem _ h)
  have hK := hKK.1
  unfold B_Mo_fragment_62 at h
  refine lv_iconst (v := 0) hx hb d_Mo_fragment_62 (by decide) ?_
  exact t_Mo_fragment_63 X (lv_sub hl [0, 1, 2] rfl) hI hS h
set_option maxRecDepth 100000 in
set_option maxHeartbeats 4000000 in
theorem t_Mo_fragment_58 {p : Program} {l : Launch} {e : Env} {s : State} {m : MethodId} {args : Array Value} {below : List Frame} {meth : Method} {c : Code} {D : va_G} {A : Nat → Prop} {g : Nat → ClassId} {rest : va_W} {a0 : Nat → Nat} {ls : Array Slot} {H : Heap} {locs : List Loc} {s0 : S_Mo} {x1 : Int32} {x2 : Int32} {out : Int32 × S_Mo} (X : Cx p s m args meth c prog_11_method_39_code 6 ws_Mo_fragment R_Mo (some .boolean) D g) (hl : lv_has ls 6 [(0, .ref (a0 0)), (1, .int x1), (2, .int x2)]) (hI : Iw D A (w_Mo g a0 s0 ++ (rest)) H) (hS : va_S A s.heap H locs) (h : B_Mo_fragment_58  s0 x1 x2 = some out) : W p l e (headSpec ws_Mo_fragment { frames := 10, cells := 0, slots := 0, locals := 248 }).room s m args below meth c H locs 0 0 (MQ below (QcI D A g out.1 (fun (_ : Unit) => w_Mo g a0 out.2 ++ (rest))) args s 0 0 A) (F0 m 58 ls []) := by
  have X1 := X
  obtain ⟨hx, hb, hml, hown, hts, hr, hlocks, hKK⟩ := X1
  have ht : ∀ w ∈ TB, w.before args s = true := fun w h => hts w (List.mem_cons_of_mem _ h)
  have hK := hKK.1
  unfold B_Mo_fragment_58 at h
  refine lv_iconst (v := 1) hx hb d_Mo_fragment_58 (by decide) ?_
  refine lv_goto (tgt := 63) hx hb d_Mo_fragment_59 (by decide) ?_
  exact t_Mo_fragment_63 X (lv_sub hl [0, 1, 2] rfl) hI hS h
set_option maxRecDepth 100000 in
set_option maxHeartbeats 4000000 in
theorem t_Mo_fragment_46 {p : Program} {l : Launch} {e : Env} {s : State} {m : MethodId} {args : Array Value} {below : List Frame} {meth : Method} {c : Code} {D : va_G} {A : Nat → Prop} {g : Nat → ClassId} {rest : va_W} {a0 : Nat → Nat} {ls : Array Slot} {H : Heap} {locs : List Loc} {s0 : S_Mo} {x1 : Int32} {x2 : Int32} {out : Int32 × S_Mo} (X : Cx p s m args meth c prog_11_method_39_code 6 ws_Mo_fragment R_Mo (some .boolean) D g) (hl : lv_has ls 6 [(0, .ref (a0 0)), (1, .int x1), (2, .int x2)]) (hI : Iw D A (w_Mo g a0 s0 ++ (rest)) H) (hS : va_S A s.heap H locs) (h : B_Mo_fragment_46  s0 x1 x2 = some out) : W p l e (headSpec ws_Mo_fragment { frames := 10, cells := 0, slots := 0, locals := 248 }).room s m args below meth c H locs 0 0 (MQ below (QcI D A g out.1 (fun (_ : Unit) => w_Mo g a0 out.2 ++ (rest))) args s 0 0 A) (F0 m 46 ls []) := by
  have X1 := X
  obtain ⟨hx, hb, hml, hown, hts, hr, hlocks, hKK⟩ := X1
  have ht : ∀ w ∈ TB, w.before args s = true := fun w h => hts w (List.mem_cons_of_mem _ h)
  have hK := hKK.1
  unfold B_Mo_fragment_46 at h
  refine lv_aload_n hx hb d_Mo_fragment_46 rfl (lv_at hl 0 rfl) ?_
  refine gt_Mo_input hx hb ht hown hK hI (ht _ m_846) d_Mo_fragment_47 ?_
  refine lv_iconst (v := 3) hx hb d_Mo_fragment_50 (by decide) ?_
  by_cases hc1 : ((3 : Int32) < 0 ∨ 202 ≤ (3 : Int32).toNatClampNeg)
  · exact no_s (it_t h hc1)
  have h := it_f h hc1
  refine al_Mo_input hx hb hK hI hc1 d_Mo_fragment_51 ?_
  refine lv_iconst (v := 2) hx hb d_Mo_fragment_52 (by decide) ?_
  refine lv_irem hx hb d_Mo_fragment_53 (by decide) ?_
  refine lv_iconst (v := 1) hx hb d_Mo_fragment_54 (by decide) ?_
  refine lv_icmp_ne (tgt := 62) hx hb d_Mo_fragment_55 (by decide) (fun hc => ?_) (fun hc => ?_)
  · have h := it_f h hc
    exact t_Mo_fragment_62 X (lv_sub hl [0, 1, 2] rfl) hI hS h
  · have h := it_t h hc
    exact t_Mo_fragment_58 X (lv_sub hl [0, 1, 2] rfl) hI hS h
set_option maxRecDepth 100000 in
set_option maxHeartbeats 4000000 in
theorem t_Mo_fragment_34 {p : Program} {l : Launch} {e : Env} {s : State} {m : MethodId} {args : Array Value} {below : List Frame} {meth : Method} {c : Code} {D : va_G} {A : Nat → Prop} {g : Nat → ClassId} {rest : va_W} {a0 : Nat → Nat} {ls : Array Slot} {H : Heap} {locs : List Loc} {s0 : S_Mo} {x1 : Int32} {x2 : Int32} {out : Int32 × S_Mo} (X : Cx p s m args meth c prog_11_method_39_code 6 ws_Mo_fragment R_Mo (some .boolean) D g) (hl : lv_has ls 6 [(0, .ref (a0 0)), (1, .int x1), (2, .int x2)]) (hI : Iw D A (w_Mo g a0 s0 ++ (rest)) H) (hS : va_S A s.heap H locs) (h : B_Mo_fragment_34  s0 x1 x2 = some out) : W p l e (headSpec ws_Mo_fragment { frames := 10, cells := 0, slots := 0, locals := 248 }).room s m args below meth c H locs 0 0 (MQ below (QcI D A g out.1 (fun (_ : Unit) => w_Mo g a0 out.2 ++ (rest))) args s 0 0 A) (F0 m 34 ls []) := by
  have X1 := X
  obtain ⟨hx, hb, hml, hown, hts, hr, hlocks, hKK⟩ := X1
  have ht : ∀ w ∈ TB, w.before args s = true := fun w h => hts w (List.mem_cons_of_mem _ h)
  have hK := hKK.1
  unfold B_Mo_fragment_34 at h
  refine lv_aload_n hx hb d_Mo_fragment_34 rfl (lv_at hl 0 rfl) ?_
  refine gt_Mo_input hx hb ht hown hK hI (ht _ m_846) d_Mo_fragment_35 ?_
  refine lv_iconst (v := 3) hx hb d_Mo_fragment_38 (by decide) ?_
  by_cases hc1 : ((3 : Int32) < 0 ∨ 202 ≤ (3 : Int32).toNatClampNeg)
  · exact no_s (it_t h hc1)
  have h := it_f h hc1
  refine al_Mo_input hx hb hK hI hc1 d_Mo_fragment_39 ?_
  refine lv_iconst (v := 3) hx hb d_Mo_fragment_40 (by decide) ?_
  refine lv_icmp_le (tgt := 46) hx hb d_Mo_fragment_41 (by decide) (fun hc => ?_) (fun hc => ?_)
  · have h := it_t h hc
    exact t_Mo_fragment_46 X (lv_sub hl [0, 1, 2] rfl) hI hS h
  · have h := it_f h hc
    exact t_Mo_fragment_44 X (lv_sub hl [] rfl) hI hS h
set_option maxRecDepth 100000 in
set_option maxHeartbeats 4000000 in
theorem t_Mo_fragment_24 {p : Program} {l : Launch} {e : Env} {s : State} {m : MethodId} {args : Array Value} {below : List Frame} {meth : Method} {c : Code} {D : va_G} {A : Nat → Prop} {g : Nat → ClassId} {rest : va_W} {a0 : Nat → Nat} {ls : Array Slot} {H : Heap} {locs : List Loc} {s0 : S_Mo} {x1 : Int32} {x2 : Int32} {out : Int32 × S_Mo} (X : Cx p s m args meth c prog_11_method_39_code 6 ws_Mo_fragment R_Mo (some .boolean) D g) (hl : lv_has ls 6 [(0, .ref (a0 0)), (1, .int x1), (2, .int x2)]) (hI : Iw D A (w_Mo g a0 s0 ++ (rest)) H) (hS : va_S A s.heap H locs) (h : B_Mo_fragment_24  s0 x1 x2 = some out) : W p l e (headSpec ws_Mo_fragment { frames := 10, cells := 0, slots := 0, locals := 248 }).room s m args below meth c H locs 0 0 (MQ below (QcI D A g out.1 (fun (_ : Unit) => w_Mo g a0 out.2 ++ (rest))) args s 0 0 A) (F0 m 24 ls []) := by
  have X1 := X
  obtain ⟨hx, hb, hml, hown, hts, hr, hlocks, hKK⟩ := X1
  have ht : ∀ w ∈ TB, w.before args s = true := fun w h => hts w (List.mem_cons_of_mem _ h)
  have hK := hKK.1
  unfold B_Mo_fragment_24 at h
  refine lv_aload_n hx hb d_Mo_fragment_24 rfl (lv_at hl 0 rfl) ?_
  refine gt_Mo_results hx hb ht hown hK hI (ht _ m_853) d_Mo_fragment_25 ?_
  refine lv_iload_n hx hb d_Mo_fragment_28 rfl (lv_at hl 2 rfl) ?_
  by_cases hc1 : (x2 < 0 ∨ 4 ≤ x2.toNatClampNeg)
  · exact no_s (it_t h hc1)
  have h := it_f h hc1
  refine al_Mo_results hx hb hK hI hc1 d_Mo_fragment_29 ?_
  refine lv_iconst (v := 1) hx hb d_Mo_fragment_30 (by decide) ?_
  refine lv_icmp_gt (tgt := 44) hx hb d_Mo_fragment_31 (by decide) (fun hc => ?_) (fun hc => ?_)
  · have h := it_t h hc
    exact t_Mo_fragment_44 X (lv_sub hl [] rfl) hI hS h
  · have h := it_f h hc
    exact t_Mo_fragment_34 X (lv_sub hl [0, 1, 2] rfl) hI hS h
set_option maxRecDepth 100000 in
set_option maxHeartbeats 4000000 in
theorem t_Mo_fragment_19 {p : Program} {l : Launch} {e : Env} {s : State} {m : MethodId} {args : Array Value} {below : List Frame} {meth : Method} {c : Code} {D : va_G} {A : Nat → Prop} {g : Nat → ClassId} {rest : va_W} {a0 : Nat → Nat} {ls : Array Slot} {H : Heap} {locs : List Loc} {s0 : S_Mo} {x1 : Int32} {y0 : Int32} {out : Int32 × S_Mo} (X : Cx p s m args meth c prog_11_method_39_code 6 ws_Mo_fragment R_Mo (some .boolean) D g) (hl : lv_has ls 6 [(0, .ref (a0 0)), (1, .int x1)]) (hI : Iw D A (w_Mo g a0 s0 ++ (rest)) H) (hS : va_S A s.heap H locs) (h : B_Mo_fragment_19  s0 x1 y0 = some out) : W p l e (headSpec ws_Mo_fragment { frames := 10, cells := 0, slots := 0, locals := 248 }).room s m args below meth c H locs 0 0 (MQ below (QcI D A g out.1 (fun (_ : Unit) => w_Mo g a0 out.2 ++ (rest))) args s 0 0 A) (F0 m 19 ls [.int y0]) := by
  have X1 := X
  obtain ⟨hx, hb, hml, hown, hts, hr, hlocks, hKK⟩ := X1
  have ht : ∀ w ∈ TB, w.before args s = true := fun w h => hts w (List.mem_cons_of_mem _ h)
  have hK := hKK.1
  unfold B_Mo_fragment_19 at h
  refine lv_istore_n hx hb d_Mo_fragment_19 rfl hl (Nat.le_of_ble_eq_true rfl) rfl (fun ls hl => ?_)
  have hl : lv_has ls 6 [(2, .int y0), (0, .ref (a0 0)), (1, .int x1)] := hl
  refine lv_iload_n hx hb d_Mo_fragment_20 rfl (lv_at hl 0 rfl) ?_
  refine lv_if_lt (tgt := 44) hx hb d_Mo_fragment_21 (by decide) (fun hc => ?_) (fun hc => ?_)
  · have h := it_t h hc
    exact t_Mo_fragment_44 X (lv_sub hl [] rfl) hI hS h
  · have h := it_f h hc
    exact t_Mo_fragment_24 X (lv_sub hl [1, 2, 0] rfl) hI hS h
set_option maxRecDepth 100000 in
set_option maxHeartbeats 4000000 in
theorem t_Mo_fragment_9 {p : Program} {l : Launch} {e : Env} {s : State} {m : MethodId} {args : Array Value} {below : List Frame} {meth : Method} {c : Code} {D : va_G} {A : Nat → Prop} {g : Nat → ClassId} {rest : va_W} {a0 : Nat → Nat} {ls : Array Slot} {H : Heap} {locs : List Loc} {s0 : S_Mo} {x1 : Int32} {out : Int32 × S_Mo} (X : Cx p s m args meth c prog_11_method_39_code 6 ws_Mo_fragment R_Mo (some .boolean) D g) (hl : lv_has ls 6 [(0, .ref (a0 0)), (1, .int x1)]) (hI : Iw D A (w_Mo g a0 s0 ++ (rest)) H) (hS : va_S A s.heap H locs) (h : B_Mo_fragment_9  s0 x1 = some out) : W p l e (headSpec ws_Mo_fragment { frames := 10, cells := 0, slots := 0, locals := 248 }).room s m args below meth c H locs 0 0 (MQ below (QcI D A g out.1 (fun (_ : Unit) => w_Mo g a0 out.2 ++ (rest))) args s 0 0 A) (F0 m 9 ls []) := by
  have X1 := X
  obtain ⟨hx, hb, hml, hown, hts, hr, hlocks, hKK⟩ := X1
  have ht : ∀ w ∈ TB, w.before args s = true := fun w h => hts w (List.mem_cons_of_mem _ h)
  have hK := hKK.1
  unfold B_Mo_fragment_9 at h
  refine lv_aload_n hx hb d_Mo_fragment_9 rfl (lv_at hl 0 rfl) ?_
  refine lv_aload_n hx hb d_Mo_fragment_10 rfl (lv_at hl 0 rfl) ?_
  refine gt_Mo_input hx hb ht hown hK hI (ht _ m_846) d_Mo_fragment_11 ?_
  refine lv_iconst (v := 2) hx hb d_Mo_fragment_14 (by decide) ?_
  by_cases hc1 : ((2 : Int32) < 0 ∨ 202 ≤ (2 : Int32).toNatClampNeg)
  · exact no_s (it_t h hc1)
  have h := it_f h hc1
  refine al_Mo_input hx hb hK hI hc1 d_Mo_fragment_15 ?_
  obtain ⟨o2, ho3, h⟩ := bd_s h
  refine cl_i (W1 := fun (_ : Unit) => w_Mo g a0 s0 ++ (rest)) (va_runV (As := [.int ((Mo_input s0) (2 : Int32).toNatClampNeg)]) (rest := []) ⟨hx, hb, hml, hown, ht⟩ (c_Mo_contextOf (l := l) (D := D) (A := A) (g := g) (rest := rest) (a0 := a0) ho3) (cwV 1 ht (gd_V m_1112 m_1114 mp_62 m_11 m_1115) rfl rfl rfl (by decide +kernel) ⟨(Nat.le_of_ble_eq_true rfl), (Nat.le_of_ble_eq_true rfl)⟩) (prV (ci := 9) (q0 := 0) hKK hI (List.Perm.refl _) rfl rfl rfl) rfl rfl hl.1 rfl (lv_room (Nat.le_of_ble_eq_true rfl)) d_Mo_fragment_16 ⟨(Nat.le_of_ble_eq_true rfl), (Nat.le_of_ble_eq_true rfl)⟩) hS (fun _ => ((List.Perm.refl _)).symm) (fun _ H locs hI hS => ?_)
  have hI : Iw D A (w_Mo g a0 s0 ++ (rest)) H := hI
  exact t_Mo_fragment_19 X (lv_sub hl [0, 1] rfl) hI hS h
set_option maxRecDepth 100000 in
set_option maxHeartbeats 4000000 in
theorem t_Mo_fragment_5 {p : Program} {l : Launch} {e : Env} {s : State} {m : MethodId} {args : Array Value} {below : List Frame} {meth : Method} {c : Code} {D : va_G} {A : Nat → Prop} {g : Nat → ClassId} {rest : va_W} {a0 : Nat → Nat} {ls : Array Slot} {H : Heap} {locs : List Loc} {s0 : S_Mo} {x1 : Int32} {out : Int32 × S_Mo} (X : Cx p s m args meth c prog_11_method_39_code 6 ws_Mo_fragment R_Mo (some .boolean) D g) (hl : lv_has ls 6 [(0, .ref (a0 0)), (1, .int x1)]) (hI : Iw D A (w_Mo g a0 s0 ++ (rest)) H) (hS : va_S A s.heap H locs) (h : B_Mo_fragment_5  s0 x1 = some out) : W p l e (headSpec ws_Mo_fragment { frames := 10, cells := 0, slots := 0, locals := 248 }).room s m args below meth c H locs 0 0 (MQ below (QcI D A g out.1 (fun (_ : Unit) => w_Mo g a0 out.2 ++ (rest))) args s 0 0 A) (F0 m 5 ls []) := by
  have X1 := X
  obtain ⟨hx, hb, hml, hown, hts, hr, hlocks, hKK⟩ := X1
  have ht : ∀ w ∈ TB, w.before args s = true := fun w h => hts w (List.mem_cons_of_mem _ h)
  have hK := hKK.1
  unfold B_Mo_fragment_5 at h
  refine lv_iconst (v := (-1)) hx hb d_Mo_fragment_5 (by decide) ?_
  refine lv_goto (tgt := 19) hx hb d_Mo_fragment_6 (by decide) ?_
  exact t_Mo_fragment_19 X (lv_sub hl [0, 1] rfl) hI hS h
set_option maxRecDepth 100000 in
set_option maxHeartbeats 4000000 in
theorem t_Mo_fragment_0 {p : Program} {l : Launch} {e : Env} {s : State} {m : MethodId} {args : Array Value} {below : List Frame} {meth : Method} {c : Code} {D : va_G} {A : Nat → Prop} {g : Nat → ClassId} {rest : va_W} {a0 : Nat → Nat} {ls : Array Slot} {H : Heap} {locs : List Loc} {s0 : S_Mo} {x1 : Int32} {out : Int32 × S_Mo} (X : Cx p s m args meth c prog_11_method_39_code 6 ws_Mo_fragment R_Mo (some .boolean) D g) (hl : lv_has ls 6 [(0, .ref (a0 0)), (1, .int x1)]) (hI : Iw D A (w_Mo g a0 s0 ++ (rest)) H) (hS : va_S A s.heap H locs) (h : B_Mo_fragment_0  s0 x1 = some out) : W p l e (headSpec ws_Mo_fragment { frames := 10, cells := 0, slots := 0, locals := 248 }).room s m args below meth c H locs 0 0 (MQ below (QcI D A g out.1 (fun (_ : Unit) => w_Mo g a0 out.2 ++ (rest))) args s 0 0 A) (F0 m 0 ls []) := by
  have X1 := X
  obtain ⟨hx, hb, hml, hown, hts, hr, hlocks, hKK⟩ := X1
  have ht : ∀ w ∈ TB, w.before args s = true := fun w h => hts w (List.mem_cons_of_mem _ h)
  have hK := hKK.1
  unfold B_Mo_fragment_0 at h
  refine lv_iload_n hx hb d_Mo_fragment_0 rfl (lv_at hl 1 rfl) ?_
  refine lv_iconst (v := 2) hx hb d_Mo_fragment_1 (by decide) ?_
  refine lv_icmp_ge (tgt := 9) hx hb d_Mo_fragment_2 (by decide) (fun hc => ?_) (fun hc => ?_)
  · have h := it_t h hc
    exact t_Mo_fragment_9 X (lv_sub hl [0, 1] rfl) hI hS h
  · have h := it_f h hc
    exact t_Mo_fragment_5 X (lv_sub hl [0, 1] rfl) hI hS h
set_option maxRecDepth 100000 in
set_option maxHeartbeats 4000000 in
theorem c_Mo_fragment {l : Launch} {D : va_G} {A : Nat → Prop} {g : Nat → ClassId} {rest : va_W} {a0 : Nat → Nat} {s0 : S_Mo} {x1 : Int32} {out : Int32 × S_Mo} (h : F_Mo_fragment s0 x1 = some out) : Met l y_Mo_fragment ws_Mo_fragment { frames := 10, cells := 0, slots := 0, locals := 248 } (PcW D A g [.ref (a0 0), .int x1] (w_Mo g a0 s0 ++ (rest))) (QcI D A g out.1 (fun (_ : Unit) => w_Mo g a0 out.2 ++ (rest))) 0 0 A := by
  refine Met.ofW (cc := prog_11_method_39_code) (maxL := 6) (ret := (some .boolean)) (by decide) rfl ?_
  intro p e s m args below meth c s₁ B hml hv
  obtain ⟨rfl, hI, hK⟩ := hv
  have hl := lv_entry [.ref (a0 0), .int x1] (n := 6) (Nat.le_of_ble_eq_true rfl)
  rw [lg_entry_eq]
  generalize (lg_sl [.ref (a0 0), .int x1] ++ List.replicate (6 - (lg_sl [.ref (a0 0), .int x1]).length) Slot.unset).toArray = ls at hl ⊢
  have hl : lv_has ls 6 [(0, .ref (a0 0)), (1, .int x1)] := hl
  exact t_Mo_fragment_0 ⟨B.exec, B.bytes, hml, findClass_of_methodNamed B.named, atoms_spec (ws := ws_Mo_fragment) B.pre, B.returns, B.notSynchronized, hK⟩ (lv_sub hl [0, 1] rfl) hI va_S.rf h
def ws_Mo_isRequest : List Cond := .code y_Mo_isRequest prog_11_method_36_code 5 (some .boolean) :: TB
def B_Mo_isRequest_103 (s0 : S_Mo) (x2 : Int32) : Option Int32 :=
  (if x2 = 0 ∨ x2 = 1 then some x2 else none)
def B_Mo_isRequest_97 (k27 : Int32 × Int32 × Int32 → Option Int32) (s0 : S_Mo) (x1 : Int32) (x2 : Int32) (x3 : Int32) : Option Int32 :=
  (k27 (x1, x2, (x3 + 3)))
def B_Mo_isRequest_90 (k27 : Int32 × Int32 × Int32 → Option Int32) (k59 : Int32 × Int32 × Int32 × Int32 → Option Int32) (s0 : S_Mo) (x1 : Int32) (x3 : Int32) (x4 : Int32) (y0 : Int32) : Option Int32 :=
  (k59 (x1, y0, x3, (x4 + 3)))
def B_Mo_isRequest_89 (k27 : Int32 × Int32 × Int32 → Option Int32) (k59 : Int32 × Int32 × Int32 × Int32 → Option Int32) (s0 : S_Mo) (x1 : Int32) (x3 : Int32) (x4 : Int32) : Option Int32 :=
  (B_Mo_isRequest_90 k27 k59 s0 x1 x3 x4 (0 : Int32))
def B_Mo_isRequest_85 (k27 : Int32 × Int32 × Int32 → Option Int32) (k59 : Int32 × Int32 × Int32 × Int32 → Option Int32) (s0 : S_Mo) (x1 : Int32) (x3 : Int32) (x4 : Int32) : Option Int32 :=
  (B_Mo_isRequest_90 k27 k59 s0 x1 x3 x4 (1 : Int32))
def B_Mo_isRequest_69 (k27 : Int32 × Int32 × Int32 → Option Int32) (k59 : Int32 × Int32 × Int32 × Int32 → Option Int32) (s0 : S_Mo) (x1 : Int32) (x3 : Int32) (x4 : Int32) : Option Int32 :=
  (if (x4 < 0 ∨ 202 ≤ x4.toNatClampNeg) then none else (if (x3 < 0 ∨ 202 ≤ x3.toNatClampNeg) then none else (if ((Mo_input s0) x4.toNatClampNeg) = ((Mo_input s0) x3.toNatClampNeg) then (B_Mo_isRequest_89 k27 k59 s0 x1 x3 x4) else (B_Mo_isRequest_85 k27 k59 s0 x1 x3 x4))))
def B_Mo_isRequest_65 (k27 : Int32 × Int32 × Int32 → Option Int32) (k59 : Int32 × Int32 × Int32 × Int32 → Option Int32) (s0 : S_Mo) (x1 : Int32) (x2 : Int32) (x3 : Int32) (x4 : Int32) : Option Int32 :=
  (if x2 = 0 then (B_Mo_isRequest_89 k27 k59 s0 x1 x3 x4) else (B_Mo_isRequest_69 k27 k59 s0 x1 x3 x4))
def B_Mo_isRequest_59 (k27 : Int32 × Int32 × Int32 → Option Int32) (k59 : Int32 × Int32 × Int32 × Int32 → Option Int32) (s0 : S_Mo) (x1 : Int32) (x2 : Int32) (x3 : Int32) (x4 : Int32) : Option Int32 :=
  (if x3 ≤ x4 then (B_Mo_isRequest_97 k27 s0 x1 x2 x3) else (B_Mo_isRequest_65 k27 k59 s0 x1 x2 x3 x4))
def L_Mo_isRequest_59 (k27 : Int32 × Int32 × Int32 → Option Int32) (s0 : S_Mo) (v : Int32 × Int32 × Int32 × Int32) : Option Int32 := lp (fun k59 v => B_Mo_isRequest_59 k27 k59 s0 v.1 v.2.1 v.2.2.1 v.2.2.2) FU v
def B_Mo_isRequest_55 (k27 : Int32 × Int32 × Int32 → Option Int32) (s0 : S_Mo) (x1 : Int32) (x3 : Int32) (y0 : Int32) : Option Int32 :=
  (L_Mo_isRequest_59 k27 s0 (x1, y0, x3, (4 : Int32)))
def B_Mo_isRequest_54 (k27 : Int32 × Int32 × Int32 → Option Int32) (s0 : S_Mo) (x1 : Int32) (x3 : Int32) : Option Int32 :=
  (B_Mo_isRequest_55 k27 s0 x1 x3 (0 : Int32))
def B_Mo_isRequest_50 (k27 : Int32 × Int32 × Int32 → Option Int32) (s0 : S_Mo) (x1 : Int32) (x3 : Int32) : Option Int32 :=
  (B_Mo_isRequest_55 k27 s0 x1 x3 (1 : Int32))
def B_Mo_isRequest_38 (k27 : Int32 × Int32 × Int32 → Option Int32) (s0 : S_Mo) (x1 : Int32) (x3 : Int32) : Option Int32 :=
  (if (x3 < 0 ∨ 202 ≤ x3.toNatClampNeg) then none else (if (((Mo_input s0) x3.toNatClampNeg) - ((Mo_input s0) x3.toNatClampNeg) / (2 : Int32) * (2 : Int32)) = (1 : Int32) then (B_Mo_isRequest_50 k27 s0 x1 x3) else (B_Mo_isRequest_54 k27 s0 x1 x3)))
def B_Mo_isRequest_34 (k27 : Int32 × Int32 × Int32 → Option Int32) (s0 : S_Mo) (x1 : Int32) (x2 : Int32) (x3 : Int32) : Option Int32 :=
  (if x2 = 0 then (B_Mo_isRequest_103 s0 x2) else (B_Mo_isRequest_38 k27 s0 x1 x3))
def B_Mo_isRequest_27 (k27 : Int32 × Int32 × Int32 → Option Int32) (s0 : S_Mo) (x1 : Int32) (x2 : Int32) (x3 : Int32) : Option Int32 :=
  (if ((2 : Int32) + x1) ≤ x3 then (B_Mo_isRequest_103 s0 x2) else (B_Mo_isRequest_34 k27 s0 x1 x2 x3))
def L_Mo_isRequest_27 (s0 : S_Mo) (v : Int32 × Int32 × Int32) : Option Int32 := lp (fun k27 v => B_Mo_isRequest_27  k27 s0 v.1 v.2.1 v.2.2) FU v
def B_Mo_isRequest_24 (s0 : S_Mo) (x1 : Int32) (y0 : Int32) : Option Int32 :=
  (L_Mo_isRequest_27 s0 (x1, y0, (4 : Int32)))
def B_Mo_isRequest_23 (s0 : S_Mo) (x1 : Int32) : Option Int32 :=
  (B_Mo_isRequest_24 s0 x1 (0 : Int32))
def B_Mo_isRequest_19 (s0 : S_Mo) (x1 : Int32) : Option Int32 :=
  (B_Mo_isRequest_24 s0 x1 (1 : Int32))
def B_Mo_isRequest_11 (s0 : S_Mo) (x1 : Int32) : Option Int32 :=
  (if ((x1 - (2 : Int32)) - (x1 - (2 : Int32)) / (3 : Int32) * (3 : Int32)) = 0 then (B_Mo_isRequest_19 s0 x1) else (B_Mo_isRequest_23 s0 x1))
def B_Mo_isRequest_5 (s0 : S_Mo) (x1 : Int32) : Option Int32 :=
  (if (14 : Int32) < x1 then (B_Mo_isRequest_23 s0 x1) else (B_Mo_isRequest_11 s0 x1))
def B_Mo_isRequest_0 (s0 : S_Mo) (x1 : Int32) : Option Int32 :=
  (if x1 < (5 : Int32) then (B_Mo_isRequest_23 s0 x1) else (B_Mo_isRequest_5 s0 x1))
def F_Mo_isRequest (s0 : S_Mo) (x1 : Int32) : Option Int32 := B_Mo_isRequest_0 s0 x1
set_option maxRecDepth 100000 in
set_option maxHeartbeats 4000000 in
theorem t_Mo_isRequest_103 {p : Program} {l : Launch} {e : Env} {s : State} {m : MethodId} {args : Array Value} {below : List Frame} {meth : Method} {c : Code} {D : va_G} {A : Nat → Prop} {g : Nat → ClassId} {rest : va_W} {a0 : Nat → Nat} {ls : Array Slot} {H : Heap} {locs : List Loc} {s0 : S_Mo} {x2 : Int32} {out : Int32} (X : Cx p s m args meth c prog_11_method_36_code 5 ws_Mo_isRequest R_Mo (some .boolean) D g) (hl : lv_has ls 5 [(2, .int x2)]) (hI : Iw D A (w_Mo g a0 s0 ++ (rest)) H) (hS : va_S A s.heap H locs) (h : B_Mo_isRequest_103  s0 x2 = some out) : W p l e (headSpec ws_Mo_isRequest { frames := 0, cells := 0, slots := 0, locals := 0 }).room s m args below meth c H locs 0 0 (MQ below (QcI D A g out (fun (_ : Unit) => w_Mo g a0 s0 ++ (rest))) args s 0 0 A) (F0 m 103 ls []) := by
  have X1 := X
  obtain ⟨hx, hb, hml, hown, hts, hr, hlocks, hKK⟩ := X1
  have ht : ∀ w ∈ TB, w.before args s = true := fun w h => hts w (List.mem_cons_of_mem _ h)
  have hK := hKK.1
  unfold B_Mo_isRequest_103 at h
  refine lv_iload_n hx hb d_Mo_isRequest_103 rfl (lv_at hl 0 rfl) ?_
  have hc1 : x2 = 0 ∨ x2 = 1 := by
    by_cases z : x2 = 0 ∨ x2 = 1
    · exact z
    · exact no_s (it_f h z)
  have h := it_t h hc1
  have h9 := Option.some.inj h
  subst h9
  exact W.zret (v := x2) hx hb hr (by rcases hc1 with z | z <;> rw [z] <;> rfl) (fun t ht hW => ⟨⟨_, (), rfl, rfl, ⟨by rw [ht]; exact hI, hKK.moved hW⟩⟩, hS.F ht⟩) hS.2.2 d_Mo_isRequest_104
set_option maxRecDepth 100000 in
set_option maxHeartbeats 4000000 in
theorem t_Mo_isRequest_97 {p : Program} {l : Launch} {e : Env} {s : State} {m : MethodId} {args : Array Value} {below : List Frame} {meth : Method} {c : Code} {D : va_G} {A : Nat → Prop} {g : Nat → ClassId} {rest : va_W} {a0 : Nat → Nat} {ls : Array Slot} {H : Heap} {locs : List Loc} {k27 : Int32 × Int32 × Int32 → Option Int32} {s0 : S_Mo} {x1 : Int32} {x2 : Int32} {x3 : Int32} {out : Int32} (X : Cx p s m args meth c prog_11_method_36_code 5 ws_Mo_isRequest R_Mo (some .boolean) D g) (hk27 : ∀ (v : Int32 × Int32 × Int32) (ls : Array Slot) (H : Heap) (locs : List Loc), lv_has ls 5 [(0, .ref (a0 0)), (1, .int v.1), (2, .int v.2.1), (3, .int v.2.2)] → Iw D A (w_Mo g a0 s0 ++ (rest)) H → va_S A s.heap H locs → k27 v = some out → W p l e (headSpec ws_Mo_isRequest { frames := 0, cells := 0, slots := 0, locals := 0 }).room s m args below meth c H locs 0 0 (MQ below (QcI D A g out (fun (_ : Unit) => w_Mo g a0 s0 ++ (rest))) args s 0 0 A) (F0 m 27 ls [])) (hl : lv_has ls 5 [(0, .ref (a0 0)), (1, .int x1), (2, .int x2), (3, .int x3)]) (hI : Iw D A (w_Mo g a0 s0 ++ (rest)) H) (hS : va_S A s.heap H locs) (h : B_Mo_isRequest_97 k27 s0 x1 x2 x3 = some out) : W p l e (headSpec ws_Mo_isRequest { frames := 0, cells := 0, slots := 0, locals := 0 }).room s m args below meth c H locs 0 0 (MQ below (QcI D A g out (fun (_ : Unit) => w_Mo g a0 s0 ++ (rest))) args s 0 0 A) (F0 m 97 ls []) := by
  have X1 := X
  obtain ⟨hx, hb, hml, hown, hts, hr, hlocks, hKK⟩ := X1
  have ht : ∀ w ∈ TB, w.before args s = true := fun w h => hts w (List.mem_cons_of_mem _ h)
  have hK := hKK.1
  unfold B_Mo_isRequest_97 at h
  refine lv_iinc (k := 3) (v := (x3 + 3)) hx hb d_Mo_isRequest_97 hl rfl (congrArg (fun z => x3 + z) (by decide)) (Nat.le_of_ble_eq_true rfl) rfl (fun ls hl => ?_)
  have hl : lv_has ls 5 [(3, .int (x3 + 3)), (0, .ref (a0 0)), (1, .int x1), (2, .int x2)] := hl
  refine lv_goto (tgt := 27) hx hb d_Mo_isRequest_100 (by decide) ?_
  exact hk27 (x1, x2, (x3 + 3)) _ _ _ (lv_sub hl [1, 2, 3, 0] rfl) hI hS h
set_option maxRecDepth 100000 in
set_option maxHeartbeats 4000000 in
theorem t_Mo_isRequest_90 {p : Program} {l : Launch} {e : Env} {s : State} {m : MethodId} {args : Array Value} {below : List Frame} {meth : Method} {c : Code} {D : va_G} {A : Nat → Prop} {g : Nat → ClassId} {rest : va_W} {a0 : Nat → Nat} {ls : Array Slot} {H : Heap} {locs : List Loc} {k27 : Int32 × Int32 × Int32 → Option Int32} {k59 : Int32 × Int32 × Int32 × Int32 → Option Int32} {s0 : S_Mo} {x1 : Int32} {x3 : Int32} {x4 : Int32} {y0 : Int32} {out : Int32} (X : Cx p s m args meth c prog_11_method_36_code 5 ws_Mo_isRequest R_Mo (some .boolean) D g) (hk27 : ∀ (v : Int32 × Int32 × Int32) (ls : Array Slot) (H : Heap) (locs : List Loc), lv_has ls 5 [(0, .ref (a0 0)), (1, .int v.1), (2, .int v.2.1), (3, .int v.2.2)] → Iw D A (w_Mo g a0 s0 ++ (rest)) H → va_S A s.heap H locs → k27 v = some out → W p l e (headSpec ws_Mo_isRequest { frames := 0, cells := 0, slots := 0, locals := 0 }).room s m args below meth c H locs 0 0 (MQ below (QcI D A g out (fun (_ : Unit) => w_Mo g a0 s0 ++ (rest))) args s 0 0 A) (F0 m 27 ls [])) (hk59 : ∀ (v : Int32 × Int32 × Int32 × Int32) (ls : Array Slot) (H : Heap) (locs : List Loc), lv_has ls 5 [(0, .ref (a0 0)), (1, .int v.1), (2, .int v.2.1), (3, .int v.2.2.1), (4, .int v.2.2.2)] → Iw D A (w_Mo g a0 s0 ++ (rest)) H → va_S A s.heap H locs → k59 v = some out → W p l e (headSpec ws_Mo_isRequest { frames := 0, cells := 0, slots := 0, locals := 0 }).room s m args below meth c H locs 0 0 (MQ below (QcI D A g out (fun (_ : Unit) => w_Mo g a0 s0 ++ (rest))) args s 0 0 A) (F0 m 59 ls [])) (hl : lv_has ls 5 [(0, .ref (a0 0)), (1, .int x1), (3, .int x3), (4, .int x4)]) (hI : Iw D A (w_Mo g a0 s0 ++ (rest)) H) (hS : va_S A s.heap H locs) (h : B_Mo_isRequest_90 k27 k59 s0 x1 x3 x4 y0 = some out) : W p l e (headSpec ws_Mo_isRequest { frames := 0, cells := 0, slots := 0, locals := 0 }).room s m args below meth c H locs 0 0 (MQ below (QcI D A g out (fun (_ : Unit) => w_Mo g a0 s0 ++ (rest))) args s 0 0 A) (F0 m 90 ls [.int y0]) := by
  have X1 := X
  obtain ⟨hx, hb, hml, hown, hts, hr, hlocks, hKK⟩ := X1
  have ht : ∀ w ∈ TB, w.before args s = true := fun w h => hts w (List.mem_cons_of_mem _ h)
  have hK := hKK.1
  unfold B_Mo_isRequest_90 at h
  refine lv_istore_n hx hb d_Mo_isRequest_90 rfl hl (Nat.le_of_ble_eq_true rfl) rfl (fun ls hl => ?_)
  have hl : lv_has ls 5 [(2, .int y0), (0, .ref (a0 0)), (1, .int x1), (3, .int x3), (4, .int x4)] := hl
  refine lv_iinc (k := 4) (v := (x4 + 3)) hx hb d_Mo_isRequest_91 hl rfl (congrArg (fun z => x4 + z) (by decide)) (Nat.le_of_ble_eq_true rfl) rfl (fun ls hl => ?_)
  have hl : lv_has ls 5 [(4, .int (x4 + 3)), (2, .int y0), (0, .ref (a0 0)), (1, .int x1), (3, .int x3)] := hl
  refine lv_goto (tgt := 59) hx hb d_Mo_isRequest_94 (by decide) ?_
  exact hk59 (x1, y0, x3, (x4 + 3)) _ _ _ (lv_sub hl [2, 3, 1, 4, 0] rfl) hI hS h
set_option maxRecDepth 100000 in
set_option maxHeartbeats 4000000 in
theorem t_Mo_isRequest_89 {p : Program} {l : Launch} {e : Env} {s : State} {m : MethodId} {args : Array Value} {below : List Frame} {meth : Method} {c : Code} {D : va_G} {A : Nat → Prop} {g : Nat → ClassId} {rest : va_W} {a0 : Nat → Nat} {ls : Array Slot} {H : Heap} {locs : List Loc} {k27 : Int32 × Int32 × Int32 → Option Int32} {k59 : Int32 × Int32 × Int32 × Int32 → Option Int32} {s0 : S_Mo} {x1 : Int32} {x3 : Int32} {x4 : Int32} {out : Int32} (X : Cx p s m args meth c prog_11_method_36_code 5 ws_Mo_isRequest R_Mo (some .boolean) D g) (hk27 : ∀ (v : Int32 × Int32 × Int32) (ls : Array Slot) (H : Heap) (locs : List Loc), lv_has ls 5 [(0, .ref (a0 0)), (1, .int v.1), (2, .int v.2.1), (3, .int v.2.2)] → Iw D A (w_Mo g a0 s0 ++ (rest)) H → va_S A s.heap H locs → k27 v = some out → W p l e (headSpec ws_Mo_isRequest { frames := 0, cells := 0, slots := 0, locals := 0 }).room s m args below meth c H locs 0 0 (MQ below (QcI D A g out (fun (_ : Unit) => w_Mo g a0 s0 ++ (rest))) args s 0 0 A) (F0 m 27 ls [])) (hk59 : ∀ (v : Int32 × Int32 × Int32 × Int32) (ls : Array Slot) (H : Heap) (locs : List Loc), lv_has ls 5 [(0, .ref (a0 0)), (1, .int v.1), (2, .int v.2.1), (3, .int v.2.2.1), (4, .int v.2.2.2)] → Iw D A (w_Mo g a0 s0 ++ (rest)) H → va_S A s.heap H locs → k59 v = some out → W p l e (headSpec ws_Mo_isRequest { frames := 0, cells := 0, slots := 0, locals := 0 }).room s m args below meth c H locs 0 0 (MQ below (QcI D A g out (fun (_ : Unit) => w_Mo g a0 s0 ++ (rest))) args s 0 0 A) (F0 m 59 ls [])) (hl : lv_has ls 5 [(0, .ref (a0 0)), (1, .int x1), (3, .int x3), (4, .int x4)]) (hI : Iw D A (w_Mo g a0 s0 ++ (rest)) H) (hS : va_S A s.heap H locs) (h : B_Mo_isRequest_89 k27 k59 s0 x1 x3 x4 = some out) : W p l e (headSpec ws_Mo_isRequest { frames := 0, cells := 0, slots := 0, locals := 0 }).room s m args below meth c H locs 0 0 (MQ below (QcI D A g out (fun (_ : Unit) => w_Mo g a0 s0 ++ (rest))) args s 0 0 A) (F0 m 89 ls []) := by
  have X1 := X
  obtain ⟨hx, hb, hml, hown, hts, hr, hlocks, hKK⟩ := X1
  have ht : ∀ w ∈ TB, w.before args s = true := fun w h => hts w (List.mem_cons_of_mem _ h)
  have hK := hKK.1
  unfold B_Mo_isRequest_89 at h
  refine lv_iconst (v := 0) hx hb d_Mo_isRequest_89 (by decide) ?_
  exact t_Mo_isRequest_90 X hk27 hk59 (lv_sub hl [0, 1, 2, 3] rfl) hI hS h
set_option maxRecDepth 100000 in
set_option maxHeartbeats 4000000 in
theorem t_Mo_isRequest_85 {p : Program} {l : Launch} {e : Env} {s : State} {m : MethodId} {args : Array Value} {below : List Frame} {meth : Method} {c : Code} {D : va_G} {A : Nat → Prop} {g : Nat → ClassId} {rest : va_W} {a0 : Nat → Nat} {ls : Array Slot} {H : Heap} {locs : List Loc} {k27 : Int32 × Int32 × Int32 → Option Int32} {k59 : Int32 × Int32 × Int32 × Int32 → Option Int32} {s0 : S_Mo} {x1 : Int32} {x3 : Int32} {x4 : Int32} {out : Int32} (X : Cx p s m args meth c prog_11_method_36_code 5 ws_Mo_isRequest R_Mo (some .boolean) D g) (hk27 : ∀ (v : Int32 × Int32 × Int32) (ls : Array Slot) (H : Heap) (locs : List Loc), lv_has ls 5 [(0, .ref (a0 0)), (1, .int v.1), (2, .int v.2.1), (3, .int v.2.2)] → Iw D A (w_Mo g a0 s0 ++ (rest)) H → va_S A s.heap H locs → k27 v = some out → W p l e (headSpec ws_Mo_isRequest { frames := 0, cells := 0, slots := 0, locals := 0 }).room s m args below meth c H locs 0 0 (MQ below (QcI D A g out (fun (_ : Unit) => w_Mo g a0 s0 ++ (rest))) args s 0 0 A) (F0 m 27 ls [])) (hk59 : ∀ (v : Int32 × Int32 × Int32 × Int32) (ls : Array Slot) (H : Heap) (locs : List Loc), lv_has ls 5 [(0, .ref (a0 0)), (1, .int v.1), (2, .int v.2.1), (3, .int v.2.2.1), (4, .int v.2.2.2)] → Iw D A (w_Mo g a0 s0 ++ (rest)) H → va_S A s.heap H locs → k59 v = some out → W p l e (headSpec ws_Mo_isRequest { frames := 0, cells := 0, slots := 0, locals := 0 }).room s m args below meth c H locs 0 0 (MQ below (QcI D A g out (fun (_ : Unit) => w_Mo g a0 s0 ++ (rest))) args s 0 0 A) (F0 m 59 ls [])) (hl : lv_has ls 5 [(0, .ref (a0 0)), (1, .int x1), (3, .int x3), (4, .int x4)]) (hI : Iw D A (w_Mo g a0 s0 ++ (rest)) H) (hS : va_S A s.heap H locs) (h : B_Mo_isRequest_85 k27 k59 s0 x1 x3 x4 = some out) : W p l e (headSpec ws_Mo_isRequest { frames := 0, cells := 0, slots := 0, locals := 0 }).room s m args below meth c H locs 0 0 (MQ below (QcI D A g out (fun (_ : Unit) => w_Mo g a0 s0 ++ (rest))) args s 0 0 A) (F0 m 85 ls []) := by
  have X1 := X
  obtain ⟨hx, hb, hml, hown, hts, hr, hlocks, hKK⟩ := X1
  have ht : ∀ w ∈ TB, w.before args s = true := fun w h => hts w (List.mem_cons_of_mem _ h)
  have hK := hKK.1
  unfold B_Mo_isRequest_85 at h
  refine lv_iconst (v := 1) hx hb d_Mo_isRequest_85 (by decide) ?_
  refine lv_goto (tgt := 90) hx hb d_Mo_isRequest_86 (by decide) ?_
  exact t_Mo_isRequest_90 X hk27 hk59 (lv_sub hl [0, 1, 2, 3] rfl) hI hS h
set_option maxRecDepth 100000 in
set_option maxHeartbeats 4000000 in
theorem t_Mo_isRequest_69 {p : Program} {l : Launch} {e : Env} {s : State} {m : MethodId} {args : Array Value} {below : List Frame} {meth : Method} {c : Code} {D : va_G} {A : Nat → Prop} {g : Nat → ClassId} {rest : va_W} {a0 : Nat → Nat} {ls : Array Slot} {H : Heap} {locs : List Loc} {k27 : Int32 × Int32 × Int32 → Option Int32} {k59 : Int32 × Int32 × Int32 × Int32 → Option Int32} {s0 : S_Mo} {x1 : Int32} {x3 : Int32} {x4 : Int32} {out : Int32} (X : Cx p s m args meth c prog_11_method_36_code 5 ws_Mo_isRequest R_Mo (some .boolean) D g) (hk27 : ∀ (v : Int32 × Int32 × Int32) (ls : Array Slot) (H : Heap) (locs : List Loc), lv_has ls 5 [(0, .ref (a0 0)), (1, .int v.1), (2, .int v.2.1), (3, .int v.2.2)] → Iw D A (w_Mo g a0 s0 ++ (rest)) H → va_S A s.heap H locs → k27 v = some out → W p l e (headSpec ws_Mo_isRequest { frames := 0, cells := 0, slots := 0, locals := 0 }).room s m args below meth c H locs 0 0 (MQ below (QcI D A g out (fun (_ : Unit) => w_Mo g a0 s0 ++ (rest))) args s 0 0 A) (F0 m 27 ls [])) (hk59 : ∀ (v : Int32 × Int32 × Int32 × Int32) (ls : Array Slot) (H : Heap) (locs : List Loc), lv_has ls 5 [(0, .ref (a0 0)), (1, .int v.1), (2, .int v.2.1), (3, .int v.2.2.1), (4, .int v.2.2.2)] → Iw D A (w_Mo g a0 s0 ++ (rest)) H → va_S A s.heap H locs → k59 v = some out → W p l e (headSpec ws_Mo_isRequest { frames := 0, cells := 0, slots := 0, locals := 0 }).room s m args below meth c H locs 0 0 (MQ below (QcI D A g out (fun (_ : Unit) => w_Mo g a0 s0 ++ (rest))) args s 0 0 A) (F0 m 59 ls [])) (hl : lv_has ls 5 [(0, .ref (a0 0)), (1, .int x1), (3, .int x3), (4, .int x4)]) (hI : Iw D A (w_Mo g a0 s0 ++ (rest)) H) (hS : va_S A s.heap H locs) (h : B_Mo_isRequest_69 k27 k59 s0 x1 x3 x4 = some out) : W p l e (headSpec ws_Mo_isRequest { frames := 0, cells := 0, slots := 0, locals := 0 }).room s m args below meth c H locs 0 0 (MQ below (QcI D A g out (fun (_ : Unit) => w_Mo g a0 s0 ++ (rest))) args s 0 0 A) (F0 m 69 ls []) := by
  have X1 := X
  obtain ⟨hx, hb, hml, hown, hts, hr, hlocks, hKK⟩ := X1
  have ht : ∀ w ∈ TB, w.before args s = true := fun w h => hts w (List.mem_cons_of_mem _ h)
  have hK := hKK.1
  unfold B_Mo_isRequest_69 at h
  refine lv_aload_n hx hb d_Mo_isRequest_69 rfl (lv_at hl 0 rfl) ?_
  refine gt_Mo_input hx hb ht hown hK hI (ht _ m_846) d_Mo_isRequest_70 ?_
  refine lv_iload hx hb d_Mo_isRequest_73 (lv_at hl 3 rfl) ?_
  by_cases hc1 : (x4 < 0 ∨ 202 ≤ x4.toNatClampNeg)
  · exact no_s (it_t h hc1)
  have h := it_f h hc1
  refine al_Mo_input hx hb hK hI hc1 d_Mo_isRequest_75 ?_
  refine lv_aload_n hx hb d_Mo_isRequest_76 rfl (lv_at hl 0 rfl) ?_
  refine gt_Mo_input hx hb ht hown hK hI (ht _ m_846) d_Mo_isRequest_77 ?_
  refine lv_iload_n hx hb d_Mo_isRequest_80 rfl (lv_at hl 2 rfl) ?_
  by_cases hc2 : (x3 < 0 ∨ 202 ≤ x3.toNatClampNeg)
  · exact no_s (it_t h hc2)
  have h := it_f h hc2
  refine al_Mo_input hx hb hK hI hc2 d_Mo_isRequest_81 ?_
  refine lv_icmp_eq (tgt := 89) hx hb d_Mo_isRequest_82 (by decide) (fun hc => ?_) (fun hc => ?_)
  · have h := it_t h hc
    exact t_Mo_isRequest_89 X hk27 hk59 (lv_sub hl [0, 1, 2, 3] rfl) hI hS h
  · have h := it_f h hc
    exact t_Mo_isRequest_85 X hk27 hk59 (lv_sub hl [0, 1, 2, 3] rfl) hI hS h
set_option maxRecDepth 100000 in
set_option maxHeartbeats 4000000 in
theorem t_Mo_isRequest_65 {p : Program} {l : Launch} {e : Env} {s : State} {m : MethodId} {args : Array Value} {below : List Frame} {meth : Method} {c : Code} {D : va_G} {A : Nat → Prop} {g : Nat → ClassId} {rest : va_W} {a0 : Nat → Nat} {ls : Array Slot} {H : Heap} {locs : List Loc} {k27 : Int32 × Int32 × Int32 → Option Int32} {k59 : Int32 × Int32 × Int32 × Int32 → Option Int32} {s0 : S_Mo} {x1 : Int32} {x2 : Int32} {x3 : Int32} {x4 : Int32} {out : Int32} (X : Cx p s m args meth c prog_11_method_36_code 5 ws_Mo_isRequest R_Mo (some .boolean) D g) (hk27 : ∀ (v : Int32 × Int32 × Int32) (ls : Array Slot) (H : Heap) (locs : List Loc), lv_has ls 5 [(0, .ref (a0 0)), (1, .int v.1), (2, .int v.2.1), (3, .int v.2.2)] → Iw D A (w_Mo g a0 s0 ++ (rest)) H → va_S A s.heap H locs → k27 v = some out → W p l e (headSpec ws_Mo_isRequest { frames := 0, cells := 0, slots := 0, locals := 0 }).room s m args below meth c H locs 0 0 (MQ below (QcI D A g out (fun (_ : Unit) => w_Mo g a0 s0 ++ (rest))) args s 0 0 A) (F0 m 27 ls [])) (hk59 : ∀ (v : Int32 × Int32 × Int32 × Int32) (ls : Array Slot) (H : Heap) (locs : List Loc), lv_has ls 5 [(0, .ref (a0 0)), (1, .int v.1), (2, .int v.2.1), (3, .int v.2.2.1), (4, .int v.2.2.2)] → Iw D A (w_Mo g a0 s0 ++ (rest)) H → va_S A s.heap H locs → k59 v = some out → W p l e (headSpec ws_Mo_isRequest { frames := 0, cells := 0, slots := 0, locals := 0 }).room s m args below meth c H locs 0 0 (MQ below (QcI D A g out (fun (_ : Unit) => w_Mo g a0 s0 ++ (rest))) args s 0 0 A) (F0 m 59 ls [])) (hl : lv_has ls 5 [(0, .ref (a0 0)), (1, .int x1), (2, .int x2), (3, .int x3), (4, .int x4)]) (hI : Iw D A (w_Mo g a0 s0 ++ (rest)) H) (hS : va_S A s.heap H locs) (h : B_Mo_isRequest_65 k27 k59 s0 x1 x2 x3 x4 = some out) : W p l e (headSpec ws_Mo_isRequest { frames := 0, cells := 0, slots := 0, locals := 0 }).room s m args below meth c H locs 0 0 (MQ below (QcI D A g out (fun (_ : Unit) => w_Mo g a0 s0 ++ (rest))) args s 0 0 A) (F0 m 65 ls []) := by
  have X1 := X
  obtain ⟨hx, hb, hml, hown, hts, hr, hlocks, hKK⟩ := X1
  have ht : ∀ w ∈ TB, w.before args s = true := fun w h => hts w (List.mem_cons_of_mem _ h)
  have hK := hKK.1
  unfold B_Mo_isRequest_65 at h
  refine lv_iload_n hx hb d_Mo_isRequest_65 rfl (lv_at hl 2 rfl) ?_
  refine lv_if_eq (tgt := 89) hx hb d_Mo_isRequest_66 (by decide) (fun hc => ?_) (fun hc => ?_)
  · have h := it_t h hc
    exact t_Mo_isRequest_89 X hk27 hk59 (lv_sub hl [0, 1, 3, 4] rfl) hI hS h
  · have h := it_f h hc
    exact t_Mo_isRequest_69 X hk27 hk59 (lv_sub hl [0, 1, 3, 4] rfl) hI hS h
set_option maxRecDepth 100000 in
set_option maxHeartbeats 4000000 in
theorem t_Mo_isRequest_59 {p : Program} {l : Launch} {e : Env} {s : State} {m : MethodId} {args : Array Value} {below : List Frame} {meth : Method} {c : Code} {D : va_G} {A : Nat → Prop} {g : Nat → ClassId} {rest : va_W} {a0 : Nat → Nat} {ls : Array Slot} {H : Heap} {locs : List Loc} {k27 : Int32 × Int32 × Int32 → Option Int32} {k59 : Int32 × Int32 × Int32 × Int32 → Option Int32} {s0 : S_Mo} {x1 : Int32} {x2 : Int32} {x3 : Int32} {x4 : Int32} {out : Int32} (X : Cx p s m args meth c prog_11_method_36_code 5 ws_Mo_isRequest R_Mo (some .boolean) D g) (hk27 : ∀ (v : Int32 × Int32 × Int32) (ls : Array Slot) (H : Heap) (locs : List Loc), lv_has ls 5 [(0, .ref (a0 0)), (1, .int v.1), (2, .int v.2.1), (3, .int v.2.2)] → Iw D A (w_Mo g a0 s0 ++ (rest)) H → va_S A s.heap H locs → k27 v = some out → W p l e (headSpec ws_Mo_isRequest { frames := 0, cells := 0, slots := 0, locals := 0 }).room s m args below meth c H locs 0 0 (MQ below (QcI D A g out (fun (_ : Unit) => w_Mo g a0 s0 ++ (rest))) args s 0 0 A) (F0 m 27 ls [])) (hk59 : ∀ (v : Int32 × Int32 × Int32 × Int32) (ls : Array Slot) (H : Heap) (locs : List Loc), lv_has ls 5 [(0, .ref (a0 0)), (1, .int v.1), (2, .int v.2.1), (3, .int v.2.2.1), (4, .int v.2.2.2)] → Iw D A (w_Mo g a0 s0 ++ (rest)) H → va_S A s.heap H locs → k59 v = some out → W p l e (headSpec ws_Mo_isRequest { frames := 0, cells := 0, slots := 0, locals := 0 }).room s m args below meth c H locs 0 0 (MQ below (QcI D A g out (fun (_ : Unit) => w_Mo g a0 s0 ++ (rest))) args s 0 0 A) (F0 m 59 ls [])) (hl : lv_has ls 5 [(0, .ref (a0 0)), (1, .int x1), (2, .int x2), (3, .int x3), (4, .int x4)]) (hI : Iw D A (w_Mo g a0 s0 ++ (rest)) H) (hS : va_S A s.heap H locs) (h : B_Mo_isRequest_59 k27 k59 s0 x1 x2 x3 x4 = some out) : W p l e (headSpec ws_Mo_isRequest { frames := 0, cells := 0, slots := 0, locals := 0 }).room s m args below meth c H locs 0 0 (MQ below (QcI D A g out (fun (_ : Unit) => w_Mo g a0 s0 ++ (rest))) args s 0 0 A) (F0 m 59 ls []) := by
  have X1 := X
  obtain ⟨hx, hb, hml, hown, hts, hr, hlocks, hKK⟩ := X1
  have ht : ∀ w ∈ TB, w.before args s = true := fun w h => hts w (List.mem_cons_of_mem _ h)
  have hK := hKK.1
  unfold B_Mo_isRequest_59 at h
  refine lv_iload hx hb d_Mo_isRequest_59 (lv_at hl 4 rfl) ?_
  refine lv_iload_n hx hb d_Mo_isRequest_61 rfl (lv_at hl 3 rfl) ?_
  refine lv_icmp_ge (tgt := 97) hx hb d_Mo_isRequest_62 (by decide) (fun hc => ?_) (fun hc => ?_)
  · have h := it_t h hc
    exact t_Mo_isRequest_97 X hk27 (lv_sub hl [0, 1, 2, 3] rfl) hI hS h
  · have h := it_f h hc
    exact t_Mo_isRequest_65 X hk27 hk59 (lv_sub hl [0, 1, 2, 3, 4] rfl) hI hS h
set_option maxRecDepth 100000 in
set_option maxHeartbeats 4000000 in
theorem T_Mo_isRequest_59 {p : Program} {l : Launch} {e : Env} {s : State} {m : MethodId} {args : Array Value} {below : List Frame} {meth : Method} {c : Code} {D : va_G} {A : Nat → Prop} {g : Nat → ClassId} {rest : va_W} {a0 : Nat → Nat} {ls : Array Slot} {H : Heap} {locs : List Loc} {k27 : Int32 × Int32 × Int32 → Option Int32} {s0 : S_Mo} {x1 : Int32} {x2 : Int32} {x3 : Int32} {x4 : Int32} {out : Int32} (X : Cx p s m args meth c prog_11_method_36_code 5 ws_Mo_isRequest R_Mo (some .boolean) D g) (hk27 : ∀ (v : Int32 × Int32 × Int32) (ls : Array Slot) (H : Heap) (locs : List Loc), lv_has ls 5 [(0, .ref (a0 0)), (1, .int v.1), (2, .int v.2.1), (3, .int v.2.2)] → Iw D A (w_Mo g a0 s0 ++ (rest)) H → va_S A s.heap H locs → k27 v = some out → W p l e (headSpec ws_Mo_isRequest { frames := 0, cells := 0, slots := 0, locals := 0 }).room s m args below meth c H locs 0 0 (MQ below (QcI D A g out (fun (_ : Unit) => w_Mo g a0 s0 ++ (rest))) args s 0 0 A) (F0 m 27 ls [])) (hl : lv_has ls 5 [(0, .ref (a0 0)), (1, .int x1), (2, .int x2), (3, .int x3), (4, .int x4)]) (hI : Iw D A (w_Mo g a0 s0 ++ (rest)) H) (hS : va_S A s.heap H locs) (h : L_Mo_isRequest_59 k27 s0 (x1, x2, x3, x4) = some out) : W p l e (headSpec ws_Mo_isRequest { frames := 0, cells := 0, slots := 0, locals := 0 }).room s m args below meth c H locs 0 0 (MQ below (QcI D A g out (fun (_ : Unit) => w_Mo g a0 s0 ++ (rest))) args s 0 0 A) (F0 m 59 ls []) := by
  unfold L_Mo_isRequest_59 at h
  exact lp_ind (P := fun v => ∀ (ls : Array Slot) (H : Heap) (locs : List Loc), lv_has ls 5 [(0, .ref (a0 0)), (1, .int v.1), (2, .int v.2.1), (3, .int v.2.2.1), (4, .int v.2.2.2)] → Iw D A (w_Mo g a0 s0 ++ (rest)) H → va_S A s.heap H locs → W p l e (headSpec ws_Mo_isRequest { frames := 0, cells := 0, slots := 0, locals := 0 }).room s m args below meth c H locs 0 0 (MQ below (QcI D A g out (fun (_ : Unit) => w_Mo g a0 s0 ++ (rest))) args s 0 0 A) (F0 m 59 ls [])) (fun k v ih hb ls H locs  hl hI hS => t_Mo_isRequest_59 X hk27 (fun v' ls H locs  hl hI hS h' => ih v' h' ls H locs  hl hI hS) hl hI hS hb) FU _ h ls H locs  hl hI hS
set_option maxRecDepth 100000 in
set_option maxHeartbeats 4000000 in
theorem t_Mo_isRequest_55 {p : Program} {l : Launch} {e : Env} {s : State} {m : MethodId} {args : Array Value} {below : List Frame} {meth : Method} {c : Code} {D : va_G} {A : Nat → Prop} {g : Nat → ClassId} {rest : va_W} {a0 : Nat → Nat} {ls : Array Slot} {H : Heap} {locs : List Loc} {k27 : Int32 × Int32 × Int32 → Option Int32} {s0 : S_Mo} {x1 : Int32} {x3 : Int32} {y0 : Int32} {out : Int32} (X : Cx p s m args meth c prog_11_method_36_code 5 ws_Mo_isRequest R_Mo (some .boolean) D g) (hk27 : ∀ (v : Int32 × Int32 × Int32) (ls : Array Slot) (H : Heap) (locs : List Loc), lv_has ls 5 [(0, .ref (a0 0)), (1, .int v.1), (2, .int v.2.1), (3, .int v.2.2)] → Iw D A (w_Mo g a0 s0 ++ (rest)) H → va_S A s.heap H locs → k27 v = some out → W p l e (headSpec ws_Mo_isRequest { frames := 0, cells := 0, slots := 0, locals := 0 }).room s m args below meth c H locs 0 0 (MQ below (QcI D A g out (fun (_ : Unit) => w_Mo g a0 s0 ++ (rest))) args s 0 0 A) (F0 m 27 ls [])) (hl : lv_has ls 5 [(0, .ref (a0 0)), (1, .int x1), (3, .int x3)]) (hI : Iw D A (w_Mo g a0 s0 ++ (rest)) H) (hS : va_S A s.heap H locs) (h : B_Mo_isRequest_55 k27 s0 x1 x3 y0 = some out) : W p l e (headSpec ws_Mo_isRequest { frames := 0, cells := 0, slots := 0, locals := 0 }).room s m args below meth c H locs 0 0 (MQ below (QcI D A g out (fun (_ : Unit) => w_Mo g a0 s0 ++ (rest))) args s 0 0 A) (F0 m 55 ls [.int y0]) := by
  have X1 := X
  obtain ⟨hx, hb, hml, hown, hts, hr, hlocks, hKK⟩ := X1
  have ht : ∀ w ∈ TB, w.before args s = true := fun w h => hts w (List.mem_cons_of_mem _ h)
  have hK := hKK.1
  unfold B_Mo_isRequest_55 at h
  refine lv_istore_n hx hb d_Mo_isRequest_55 rfl hl (Nat.le_of_ble_eq_true rfl) rfl (fun ls hl => ?_)
  have hl : lv_has ls 5 [(2, .int y0), (0, .ref (a0 0)), (1, .int x1), (3, .int x3)] := hl
  refine lv_iconst (v := 4) hx hb d_Mo_isRequest_56 (by decide) ?_
  refine lv_istore hx hb d_Mo_isRequest_57 hl (Nat.le_of_ble_eq_true rfl) rfl (fun ls hl => ?_)
  have hl : lv_has ls 5 [(4, .int (4 : Int32)), (2, .int y0), (0, .ref (a0 0)), (1, .int x1), (3, .int x3)] := hl
  exact T_Mo_isRequest_59 X hk27 (lv_sub hl [2, 3, 1, 4, 0] rfl) hI hS h
set_option maxRecDepth 100000 in
set_option maxHeartbeats 4000000 in
theorem t_Mo_isRequest_54 {p : Program} {l : Launch} {e : Env} {s : State} {m : MethodId} {args : Array Value} {below : List Frame} {meth : Method} {c : Code} {D : va_G} {A : Nat → Prop} {g : Nat → ClassId} {rest : va_W} {a0 : Nat → Nat} {ls : Array Slot} {H : Heap} {locs : List Loc} {k27 : Int32 × Int32 × Int32 → Option Int32} {s0 : S_Mo} {x1 : Int32} {x3 : Int32} {out : Int32} (X : Cx p s m args meth c prog_11_method_36_code 5 ws_Mo_isRequest R_Mo (some .boolean) D g) (hk27 : ∀ (v : Int32 × Int32 × Int32) (ls : Array Slot) (H : Heap) (locs : List Loc), lv_has ls 5 [(0, .ref (a0 0)), (1, .int v.1), (2, .int v.2.1), (3, .int v.2.2)] → Iw D A (w_Mo g a0 s0 ++ (rest)) H → va_S A s.heap H locs → k27 v = some out → W p l e (headSpec ws_Mo_isRequest { frames := 0, cells := 0, slots := 0, locals := 0 }).room s m args below meth c H locs 0 0 (MQ below (QcI D A g out (fun (_ : Unit) => w_Mo g a0 s0 ++ (rest))) args s 0 0 A) (F0 m 27 ls [])) (hl : lv_has ls 5 [(0, .ref (a0 0)), (1, .int x1), (3, .int x3)]) (hI : Iw D A (w_Mo g a0 s0 ++ (rest)) H) (hS : va_S A s.heap H locs) (h : B_Mo_isRequest_54 k27 s0 x1 x3 = some out) : W p l e (headSpec ws_Mo_isRequest { frames := 0, cells := 0, slots := 0, locals := 0 }).room s m args below meth c H locs 0 0 (MQ below (QcI D A g out (fun (_ : Unit) => w_Mo g a0 s0 ++ (rest))) args s 0 0 A) (F0 m 54 ls []) := by
  have X1 := X
  obtain ⟨hx, hb, hml, hown, hts, hr, hlocks, hKK⟩ := X1
  have ht : ∀ w ∈ TB, w.before args s = true := fun w h => hts w (List.mem_cons_of_mem _ h)
  have hK := hKK.1
  unfold B_Mo_isRequest_54 at h
  refine lv_iconst (v := 0) hx hb d_Mo_isRequest_54 (by decide) ?_
  exact t_Mo_isRequest_55 X hk27 (lv_sub hl [0, 1, 2] rfl) hI hS h
set_option maxRecDepth 100000 in
set_option maxHeartbeats 4000000 in
theorem t_Mo_isRequest_50 {p : Program} {l : Launch} {e : Env} {s : State} {m : MethodId} {args : Array Value} {below : List Frame} {meth : Method} {c : Code} {D : va_G} {A : Nat → Prop} {g : Nat → ClassId} {rest : va_W} {a0 : Nat → Nat} {ls : Array Slot} {H : Heap} {locs : List Loc} {k27 : Int32 × Int32 × Int32 → Option Int32} {s0 : S_Mo} {x1 : Int32} {x3 : Int32} {out : Int32} (X : Cx p s m args meth c prog_11_method_36_code 5 ws_Mo_isRequest R_Mo (some .boolean) D g) (hk27 : ∀ (v : Int32 × Int32 × Int32) (ls : Array Slot) (H : Heap) (locs : List Loc), lv_has ls 5 [(0, .ref (a0 0)), (1, .int v.1), (2, .int v.2.1), (3, .int v.2.2)] → Iw D A (w_Mo g a0 s0 ++ (rest)) H → va_S A s.heap H locs → k27 v = some out → W p l e (headSpec ws_Mo_isRequest { frames := 0, cells := 0, slots := 0, locals := 0 }).room s m args below meth c H locs 0 0 (MQ below (QcI D A g out (fun (_ : Unit) => w_Mo g a0 s0 ++ (rest))) args s 0 0 A) (F0 m 27 ls [])) (hl : lv_has ls 5 [(0, .ref (a0 0)), (1, .int x1), (3, .int x3)]) (hI : Iw D A (w_Mo g a0 s0 ++ (rest)) H) (hS : va_S A s.heap H locs) (h : B_Mo_isRequest_50 k27 s0 x1 x3 = some out) : W p l e (headSpec ws_Mo_isRequest { frames := 0, cells := 0, slots := 0, locals := 0 }).room s m args below meth c H locs 0 0 (MQ below (QcI D A g out (fun (_ : Unit) => w_Mo g a0 s0 ++ (rest))) args s 0 0 A) (F0 m 50 ls []) := by
  have X1 := X
  obtain ⟨hx, hb, hml, hown, hts, hr, hlocks, hKK⟩ := X1
  have ht : ∀ w ∈ TB, w.before args s = true := fun w h => hts w (List.mem_cons_of_mem _ h)
  have hK := hKK.1
  unfold B_Mo_isRequest_50 at h
  refine lv_iconst (v := 1) hx hb d_Mo_isRequest_50 (by decide) ?_
  refine lv_goto (tgt := 55) hx hb d_Mo_isRequest_51 (by decide) ?_
  exact t_Mo_isRequest_55 X hk27 (lv_sub hl [0, 1, 2] rfl) hI hS h
set_option maxRecDepth 100000 in
set_option maxHeartbeats 4000000 in
theorem t_Mo_isRequest_38 {p : Program} {l : Launch} {e : Env} {s : State} {m : MethodId} {args : Array Value} {below : List Frame} {meth : Method} {c : Code} {D : va_G} {A : Nat → Prop} {g : Nat → ClassId} {rest : va_W} {a0 : Nat → Nat} {ls : Array Slot} {H : Heap} {locs : List Loc} {k27 : Int32 × Int32 × Int32 → Option Int32} {s0 : S_Mo} {x1 : Int32} {x3 : Int32} {out : Int32} (X : Cx p s m args meth c prog_11_method_36_code 5 ws_Mo_isRequest R_Mo (some .boolean) D g) (hk27 : ∀ (v : Int32 × Int32 × Int32) (ls : Array Slot) (H : Heap) (locs : List Loc), lv_has ls 5 [(0, .ref (a0 0)), (1, .int v.1), (2, .int v.2.1), (3, .int v.2.2)] → Iw D A (w_Mo g a0 s0 ++ (rest)) H → va_S A s.heap H locs → k27 v = some out → W p l e (headSpec ws_Mo_isRequest { frames := 0, cells := 0, slots := 0, locals := 0 }).room s m args below meth c H locs 0 0 (MQ below (QcI D A g out (fun (_ : Unit) => w_Mo g a0 s0 ++ (rest))) args s 0 0 A) (F0 m 27 ls [])) (hl : lv_has ls 5 [(0, .ref (a0 0)), (1, .int x1), (3, .int x3)]) (hI : Iw D A (w_Mo g a0 s0 ++ (rest)) H) (hS : va_S A s.heap H locs) (h : B_Mo_isRequest_38 k27 s0 x1 x3 = some out) : W p l e (headSpec ws_Mo_isRequest { frames := 0, cells := 0, slots := 0, locals := 0 }).room s m args below meth c H locs 0 0 (MQ below (QcI D A g out (fun (_ : Unit) => w_Mo g a0 s0 ++ (rest))) args s 0 0 A) (F0 m 38 ls []) := by
  have X1 := X
  obtain ⟨hx, hb, hml, hown, hts, hr, hlocks, hKK⟩ := X1
  have ht : ∀ w ∈ TB, w.before args s = true := fun w h => hts w (List.mem_cons_of_mem _ h)
  have hK := hKK.1
  unfold B_Mo_isRequest_38 at h
  refine lv_aload_n hx hb d_Mo_isRequest_38 rfl (lv_at hl 0 rfl) ?_
  refine gt_Mo_input hx hb ht hown hK hI (ht _ m_846) d_Mo_isRequest_39 ?_
  refine lv_iload_n hx hb d_Mo_isRequest_42 rfl (lv_at hl 2 rfl) ?_
  by_cases hc1 : (x3 < 0 ∨ 202 ≤ x3.toNatClampNeg)
  · exact no_s (it_t h hc1)
  have h := it_f h hc1
  refine al_Mo_input hx hb hK hI hc1 d_Mo_isRequest_43 ?_
  refine lv_iconst (v := 2) hx hb d_Mo_isRequest_44 (by decide) ?_
  refine lv_irem hx hb d_Mo_isRequest_45 (by decide) ?_
  refine lv_iconst (v := 1) hx hb d_Mo_isRequest_46 (by decide) ?_
  refine lv_icmp_ne (tgt := 54) hx hb d_Mo_isRequest_47 (by decide) (fun hc => ?_) (fun hc => ?_)
  · have h := it_f h hc
    exact t_Mo_isRequest_54 X hk27 (lv_sub hl [0, 1, 2] rfl) hI hS h
  · have h := it_t h hc
    exact t_Mo_isRequest_50 X hk27 (lv_sub hl [0, 1, 2] rfl) hI hS h
set_option maxRecDepth 100000 in
set_option maxHeartbeats 4000000 in
theorem t_Mo_isRequest_34 {p : Program} {l : Launch} {e : Env} {s : State} {m : MethodId} {args : Array Value} {below : List Frame} {meth : Method} {c : Code} {D : va_G} {A : Nat → Prop} {g : Nat → ClassId} {rest : va_W} {a0 : Nat → Nat} {ls : Array Slot} {H : Heap} {locs : List Loc} {k27 : Int32 × Int32 × Int32 → Option Int32} {s0 : S_Mo} {x1 : Int32} {x2 : Int32} {x3 : Int32} {out : Int32} (X : Cx p s m args meth c prog_11_method_36_code 5 ws_Mo_isRequest R_Mo (some .boolean) D g) (hk27 : ∀ (v : Int32 × Int32 × Int32) (ls : Array Slot) (H : Heap) (locs : List Loc), lv_has ls 5 [(0, .ref (a0 0)), (1, .int v.1), (2, .int v.2.1), (3, .int v.2.2)] → Iw D A (w_Mo g a0 s0 ++ (rest)) H → va_S A s.heap H locs → k27 v = some out → W p l e (headSpec ws_Mo_isRequest { frames := 0, cells := 0, slots := 0, locals := 0 }).room s m args below meth c H locs 0 0 (MQ below (QcI D A g out (fun (_ : Unit) => w_Mo g a0 s0 ++ (rest))) args s 0 0 A) (F0 m 27 ls [])) (hl : lv_has ls 5 [(0, .ref (a0 0)), (1, .int x1), (2, .int x2), (3, .int x3)]) (hI : Iw D A (w_Mo g a0 s0 ++ (rest)) H) (hS : va_S A s.heap H locs) (h : B_Mo_isRequest_34 k27 s0 x1 x2 x3 = some out) : W p l e (headSpec ws_Mo_isRequest { frames := 0, cells := 0, slots := 0, locals := 0 }).room s m args below meth c H locs 0 0 (MQ below (QcI D A g out (fun (_ : Unit) => w_Mo g a0 s0 ++ (rest))) args s 0 0 A) (F0 m 34 ls []) := by
  have X1 := X
  obtain ⟨hx, hb, hml, hown, hts, hr, hlocks, hKK⟩ := X1
  have ht : ∀ w ∈ TB, w.before args s = true := fun w h => hts w (List.mem_cons_of_mem _ h)
  have hK := hKK.1
  unfold B_Mo_isRequest_34 at h
  refine lv_iload_n hx hb d_Mo_isRequest_34 rfl (lv_at hl 2 rfl) ?_
  refine lv_if_eq (tgt := 103) hx hb d_Mo_isRequest_35 (by decide) (fun hc => ?_) (fun hc => ?_)
  · have h := it_t h hc
    exact t_Mo_isRequest_103 X (lv_sub hl [2] rfl) hI hS h
  · have h := it_f h hc
    exact t_Mo_isRequest_38 X hk27 (lv_sub hl [0, 1, 3] rfl) hI hS h
set_option maxRecDepth 100000 in
set_option maxHeartbeats 4000000 in
theorem t_Mo_isRequest_27 {p : Program} {l : Launch} {e : Env} {s : State} {m : MethodId} {args : Array Value} {below : List Frame} {meth : Method} {c : Code} {D : va_G} {A : Nat → Prop} {g : Nat → ClassId} {rest : va_W} {a0 : Nat → Nat} {ls : Array Slot} {H : Heap} {locs : List Loc} {k27 : Int32 × Int32 × Int32 → Option Int32} {s0 : S_Mo} {x1 : Int32} {x2 : Int32} {x3 : Int32} {out : Int32} (X : Cx p s m args meth c prog_11_method_36_code 5 ws_Mo_isRequest R_Mo (some .boolean) D g) (hk27 : ∀ (v : Int32 × Int32 × Int32) (ls : Array Slot) (H : Heap) (locs : List Loc), lv_has ls 5 [(0, .ref (a0 0)), (1, .int v.1), (2, .int v.2.1), (3, .int v.2.2)] → Iw D A (w_Mo g a0 s0 ++ (rest)) H → va_S A s.heap H locs → k27 v = some out → W p l e (headSpec ws_Mo_isRequest { frames := 0, cells := 0, slots := 0, locals := 0 }).room s m args below meth c H locs 0 0 (MQ below (QcI D A g out (fun (_ : Unit) => w_Mo g a0 s0 ++ (rest))) args s 0 0 A) (F0 m 27 ls [])) (hl : lv_has ls 5 [(0, .ref (a0 0)), (1, .int x1), (2, .int x2), (3, .int x3)]) (hI : Iw D A (w_Mo g a0 s0 ++ (rest)) H) (hS : va_S A s.heap H locs) (h : B_Mo_isRequest_27 k27 s0 x1 x2 x3 = some out) : W p l e (headSpec ws_Mo_isRequest { frames := 0, cells := 0, slots := 0, locals := 0 }).room s m args below meth c H locs 0 0 (MQ below (QcI D A g out (fun (_ : Unit) => w_Mo g a0 s0 ++ (rest))) args s 0 0 A) (F0 m 27 ls []) := by
  have X1 := X
  obtain ⟨hx, hb, hml, hown, hts, hr, hlocks, hKK⟩ := X1
  have ht : ∀ w ∈ TB, w.before args s = true := fun w h => hts w (List.mem_cons_of_mem _ h)
  have hK := hKK.1
  unfold B_Mo_isRequest_27 at h
  refine lv_iload_n hx hb d_Mo_isRequest_27 rfl (lv_at hl 3 rfl) ?_
  refine lv_iconst (v := 2) hx hb d_Mo_isRequest_28 (by decide) ?_
  refine lv_iload_n hx hb d_Mo_isRequest_29 rfl (lv_at hl 1 rfl) ?_
  refine lv_iadd hx hb d_Mo_isRequest_30 ?_
  refine lv_icmp_ge (tgt := 103) hx hb d_Mo_isRequest_31 (by decide) (fun hc => ?_) (fun hc => ?_)
  · have h := it_t h hc
    exact t_Mo_isRequest_103 X (lv_sub hl [2] rfl) hI hS h
  · have h := it_f h hc
    exact t_Mo_isRequest_34 X hk27 (lv_sub hl [0, 1, 2, 3] rfl) hI hS h
set_option maxRecDepth 100000 in
set_option maxHeartbeats 4000000 in
theorem T_Mo_isRequest_27 {p : Program} {l : Launch} {e : Env} {s : State} {m : MethodId} {args : Array Value} {below : List Frame} {meth : Method} {c : Code} {D : va_G} {A : Nat → Prop} {g : Nat → ClassId} {rest : va_W} {a0 : Nat → Nat} {ls : Array Slot} {H : Heap} {locs : List Loc} {s0 : S_Mo} {x1 : Int32} {x2 : Int32} {x3 : Int32} {out : Int32} (X : Cx p s m args meth c prog_11_method_36_code 5 ws_Mo_isRequest R_Mo (some .boolean) D g) (hl : lv_has ls 5 [(0, .ref (a0 0)), (1, .int x1), (2, .int x2), (3, .int x3)]) (hI : Iw D A (w_Mo g a0 s0 ++ (rest)) H) (hS : va_S A s.heap H locs) (h : L_Mo_isRequest_27  s0 (x1, x2, x3) = some out) : W p l e (headSpec ws_Mo_isRequest { frames := 0, cells := 0, slots := 0, locals := 0 }).room s m args below meth c H locs 0 0 (MQ below (QcI D A g out (fun (_ : Unit) => w_Mo g a0 s0 ++ (rest))) args s 0 0 A) (F0 m 27 ls []) := by
  unfold L_Mo_isRequest_27 at h
  exact lp_ind (P := fun v => ∀ (ls : Array Slot) (H : Heap) (locs : List Loc), lv_has ls 5 [(0, .ref (a0 0)), (1, .int v.1), (2, .int v.2.1), (3, .int v.2.2)] → Iw D A (w_Mo g a0 s0 ++ (rest)) H → va_S A s.heap H locs → W p l e (headSpec ws_Mo_isRequest { frames := 0, cells := 0, slots := 0, locals := 0 }).room s m args below meth c H locs 0 0 (MQ below (QcI D A g out (fun (_ : Unit) => w_Mo g a0 s0 ++ (rest))) args s 0 0 A) (F0 m 27 ls [])) (fun k v ih hb ls H locs  hl hI hS => t_Mo_isRequest_27 X  (fun v' ls H locs  hl hI hS h' => ih v' h' ls H locs  hl hI hS) hl hI hS hb) FU _ h ls H locs  hl hI hS
set_option maxRecDepth 100000 in
set_option maxHeartbeats 4000000 in
theorem t_Mo_isRequest_24 {p : Program} {l : Launch} {e : Env} {s : State} {m : MethodId} {args : Array Value} {below : List Frame} {meth : Method} {c : Code} {D : va_G} {A : Nat → Prop} {g : Nat → ClassId} {rest : va_W} {a0 : Nat → Nat} {ls : Array Slot} {H : Heap} {locs : List Loc} {s0 : S_Mo} {x1 : Int32} {y0 : Int32} {out : Int32} (X : Cx p s m args meth c prog_11_method_36_code 5 ws_Mo_isRequest R_Mo (some .boolean) D g) (hl : lv_has ls 5 [(0, .ref (a0 0)), (1, .int x1)]) (hI : Iw D A (w_Mo g a0 s0 ++ (rest)) H) (hS : va_S A s.heap H locs) (h : B_Mo_isRequest_24  s0 x1 y0 = some out) : W p l e (headSpec ws_Mo_isRequest { frames := 0, cells := 0, slots := 0, locals := 0 }).room s m args below meth c H locs 0 0 (MQ below (QcI D A g out (fun (_ : Unit) => w_Mo g a0 s0 ++ (rest))) args s 0 0 A) (F0 m 24 ls [.int y0]) := by
  have X1 := X
  obtain ⟨hx, hb, hml, hown, hts, hr, hlocks, hKK⟩ := X1
  have ht : ∀ w ∈ TB, w.before args s = true := fun w h => hts w (List.mem_cons_of_mem _ h)
  have hK := hKK.1
  unfold B_Mo_isRequest_24 at h
  refine lv_istore_n hx hb d_Mo_isRequest_24 rfl hl (Nat.le_of_ble_eq_true rfl) rfl (fun ls hl => ?_)
  have hl : lv_has ls 5 [(2, .int y0), (0, .ref (a0 0)), (1, .int x1)] := hl
  refine lv_iconst (v := 4) hx hb d_Mo_isRequest_25 (by decide) ?_
  refine lv_istore_n hx hb d_Mo_isRequest_26 rfl hl (Nat.le_of_ble_eq_true rfl) rfl (fun ls hl => ?_)
  have hl : lv_has ls 5 [(3, .int (4 : Int32)), (2, .int y0), (0, .ref (a0 0)), (1, .int x1)] := hl
  exact T_Mo_isRequest_27 X (lv_sub hl [2, 3, 1, 0] rfl) hI hS h
set_option maxRecDepth 100000 in
set_option maxHeartbeats 4000000 in
theorem t_Mo_isRequest_23 {p : Program} {l : Launch} {e : Env} {s : State} {m : MethodId} {args : Array Value} {below : List Frame} {meth : Method} {c : Code} {D : va_G} {A : Nat → Prop} {g : Nat → ClassId} {rest : va_W} {a0 : Nat → Nat} {ls : Array Slot} {H : Heap} {locs : List Loc} {s0 : S_Mo} {x1 : Int32} {out : Int32} (X : Cx p s m args meth c prog_11_method_36_code 5 ws_Mo_isRequest R_Mo (some .boolean) D g) (hl : lv_has ls 5 [(0, .ref (a0 0)), (1, .int x1)]) (hI : Iw D A (w_Mo g a0 s0 ++ (rest)) H) (hS : va_S A s.heap H locs) (h : B_Mo_isRequest_23  s0 x1 = some out) : W p l e (headSpec ws_Mo_isRequest { frames := 0, cells := 0, slots := 0, locals := 0 }).room s m args below meth c H locs 0 0 (MQ below (QcI D A g out (fun (_ : Unit) => w_Mo g a0 s0 ++ (rest))) args s 0 0 A) (F0 m 23 ls []) := by
  have X1 := X
  obtain ⟨hx, hb, hml, hown, hts, hr, hlocks, hKK⟩ := X1
  have ht : ∀ w ∈ TB, w.before args s = true := fun w h => hts w (List.mem_cons_of_mem _ h)
  have hK := hKK.1
  unfold B_Mo_isRequest_23 at h
  refine lv_iconst (v := 0) hx hb d_Mo_isRequest_23 (by decide) ?_
  exact t_Mo_isRequest_24 X (lv_sub hl [0, 1] rfl) hI hS h
set_option maxRecDepth 100000 in
set_option maxHeartbeats 4000000 in
theorem t_Mo_isRequest_19 {p : Program} {l : Launch} {e : Env} {s : State} {m : MethodId} {args : Array Value} {below : List Frame} {meth : Method} {c : Code} {D : va_G} {A : Nat → Prop} {g : Nat → ClassId} {rest : va_W} {a0 : Nat → Nat} {ls : Array Slot} {H : Heap} {locs : List Loc} {s0 : S_Mo} {x1 : Int32} {out : Int32} (X : Cx p s m args meth c prog_11_method_36_code 5 ws_Mo_isRequest R_Mo (some .boolean) D g) (hl : lv_has ls 5 [(0, .ref (a0 0)), (1, .int x1)]) (hI : Iw D A (w_Mo g a0 s0 ++ (rest)) H) (hS : va_S A s.heap H locs) (h : B_Mo_isRequest_19  s0 x1 = some out) : W p l e (headSpec ws_Mo_isRequest { frames := 0, cells := 0, slots := 0, locals := 0 }).room s m args below meth c H locs 0 0 (MQ below (QcI D A g out (fun (_ : Unit) => w_Mo g a0 s0 ++ (rest))) args s 0 0 A) (F0 m 19 ls []) := by
  have X1 := X
  obtain ⟨hx, hb, hml, hown, hts, hr, hlocks, hKK⟩ := X1
  have ht : ∀ w ∈ TB, w.before args s = true := fun w h => hts w (List.mem_cons_of_mem _ h)
  have hK := hKK.1
  unfold B_Mo_isRequest_19 at h
  refine lv_iconst (v := 1) hx hb d_Mo_isRequest_19 (by decide) ?_
  refine lv_goto (tgt := 24) hx hb d_Mo_isRequest_20 (by decide) ?_
  exact t_Mo_isRequest_24 X (lv_sub hl [0, 1] rfl) hI hS h
set_option maxRecDepth 100000 in
set_option maxHeartbeats 4000000 in
theorem t_Mo_isRequest_11 {p : Program} {l : Launch} {e : Env} {s : State} {m : MethodId} {args : Array Value} {below : List Frame} {meth : Method} {c : Code} {D : va_G} {A : Nat → Prop} {g : Nat → ClassId} {rest : va_W} {a0 : Nat → Nat} {ls : Array Slot} {H : Heap} {locs : List Loc} {s0 : S_Mo} {x1 : Int32} {out : Int32} (X : Cx p s m args meth c prog_11_method_36_code 5 ws_Mo_isRequest R_Mo (some .boolean) D g) (hl : lv_has ls 5 [(0, .ref (a0 0)), (1, .int x1)]) (hI : Iw D A (w_Mo g a0 s0 ++ (rest)) H) (hS : va_S A s.heap H locs) (h : B_Mo_isRequest_11  s0 x1 = some out) : W p l e (headSpec ws_Mo_isRequest { frames := 0, cells := 0, slots := 0, locals := 0 }).room s m args below meth c H locs 0 0 (MQ below (QcI D A g out (fun (_ : Unit) => w_Mo g a0 s0 ++ (rest))) args s 0 0 A) (F0 m 11 ls []) := by
  have X1 := X
  obtain ⟨hx, hb, hml, hown, hts, hr, hlocks, hKK⟩ := X1
  have ht : ∀ w ∈ TB, w.before args s = true := fun w h => hts w (List.mem_cons_of_mem _ h)
  have hK := hKK.1
  unfold B_Mo_isRequest_11 at h
  refine lv_iload_n hx hb d_Mo_isRequest_11 rfl (lv_at hl 1 rfl) ?_
  refine lv_iconst (v := 2) hx hb d_Mo_isRequest_12 (by decide) ?_
  refine lv_isub hx hb d_Mo_isRequest_13 ?_
  refine lv_iconst (v := 3) hx hb d_Mo_isRequest_14 (by decide) ?_
  refine lv_irem hx hb d_Mo_isRequest_15 (by decide) ?_
  refine lv_if_ne (tgt := 23) hx hb d_Mo_isRequest_16 (by decide) (fun hc => ?_) (fun hc => ?_)
  · have h := it_f h hc
    exact t_Mo_isRequest_23 X (lv_sub hl [0, 1] rfl) hI hS h
  · have h := it_t h hc
    exact t_Mo_isRequest_19 X (lv_sub hl [0, 1] rfl) hI hS h
set_option maxRecDepth 100000 in
set_option maxHeartbeats 4000000 in
theorem t_Mo_isRequest_5 {p : Program} {l : Launch} {e : Env} {s : State} {m : MethodId} {args : Array Value} {below : List Frame} {meth : Method} {c : Code} {D : va_G} {A : Nat → Prop} {g : Nat → ClassId} {rest : va_W} {a0 : Nat → Nat} {ls : Array Slot} {H : Heap} {locs : List Loc} {s0 : S_Mo} {x1 : Int32} {out : Int32} (X : Cx p s m args meth c prog_11_method_36_code 5 ws_Mo_isRequest R_Mo (some .boolean) D g) (hl : lv_has ls 5 [(0, .ref (a0 0)), (1, .int x1)]) (hI : Iw D A (w_Mo g a0 s0 ++ (rest)) H) (hS : va_S A s.heap H locs) (h : B_Mo_isRequest_5  s0 x1 = some out) : W p l e (headSpec ws_Mo_isRequest { frames := 0, cells := 0, slots := 0, locals := 0 }).room s m args below meth c H locs 0 0 (MQ below (QcI D A g out (fun (_ : Unit) => w_Mo g a0 s0 ++ (rest))) args s 0 0 A) (F0 m 5 ls []) := by
  have X1 := X
  obtain ⟨hx, hb, hml, hown, hts, hr, hlocks, hKK⟩ := X1
  have ht : ∀ w ∈ TB, w.before args s = true := fun w h => hts w (List.mem_cons_of_mem _ h)
  have hK := hKK.1
  unfold B_Mo_isRequest_5 at h
  refine lv_iload_n hx hb d_Mo_isRequest_5 rfl (lv_at hl 1 rfl) ?_
  refine lv_bipush (v := 14) hx hb d_Mo_isRequest_6 (by decide) ?_
  refine lv_icmp_gt (tgt := 23) hx hb d_Mo_isRequest_8 (by decide) (fun hc => ?_) (fun hc => ?_)
  · have h := it_t h hc
    exact t_Mo_isRequest_23 X (lv_sub hl [0, 1] rfl) hI hS h
  · have h := it_f h hc
    exact t_Mo_isRequest_11 X (lv_sub hl [0, 1] rfl) hI hS h
set_option maxRecDepth 100000 in
set_option maxHeartbeats 4000000 in
theorem t_Mo_isRequest_0 {p : Program} {l : Launch} {e : Env} {s : State} {m : MethodId} {args : Array Value} {below : List Frame} {meth : Method} {c : Code} {D : va_G} {A : Nat → Prop} {g : Nat → ClassId} {rest : va_W} {a0 : Nat → Nat} {ls : Array Slot} {H : Heap} {locs : List Loc} {s0 : S_Mo} {x1 : Int32} {out : Int32} (X : Cx p s m args meth c prog_11_method_36_code 5 ws_Mo_isRequest R_Mo (some .boolean) D g) (hl : lv_has ls 5 [(0, .ref (a0 0)), (1, .int x1)]) (hI : Iw D A (w_Mo g a0 s0 ++ (rest)) H) (hS : va_S A s.heap H locs) (h : B_Mo_isRequest_0  s0 x1 = some out) : W p l e (headSpec ws_Mo_isRequest { frames := 0, cells := 0, slots := 0, locals := 0 }).room s m args below meth c H locs 0 0 (MQ below (QcI D A g out (fun (_ : Unit) => w_Mo g a0 s0 ++ (rest))) args s 0 0 A) (F0 m 0 ls []) := by
  have X1 := X
  obtain ⟨hx, hb, hml, hown, hts, hr, hlocks, hKK⟩ := X1
  have ht : ∀ w ∈ TB, w.before args s = true := fun w h => hts w (List.mem_cons_of_mem _ h)
  have hK := hKK.1
  unfold B_Mo_isRequest_0 at h
  refine lv_iload_n hx hb d_Mo_isRequest_0 rfl (lv_at hl 1 rfl) ?_
  refine lv_iconst (v := 5) hx hb d_Mo_isRequest_1 (by decide) ?_
  refine lv_icmp_lt (tgt := 23) hx hb d_Mo_isRequest_2 (by decide) (fun hc => ?_) (fun hc => ?_)
  · have h := it_t h hc
    exact t_Mo_isRequest_23 X (lv_sub hl [0, 1] rfl) hI hS h
  · have h := it_f h hc
    exact t_Mo_isRequest_5 X (lv_sub hl [0, 1] rfl) hI hS h
set_option maxRecDepth 100000 in
set_option maxHeartbeats 4000000 in
theorem c_Mo_isRequest {l : Launch} {D : va_G} {A : Nat → Prop} {g : Nat → ClassId} {rest : va_W} {a0 : Nat → Nat} {s0 : S_Mo} {x1 : Int32} {out : Int32} (h : F_Mo_isRequest s0 x1 = some out) : Met l y_Mo_isRequest ws_Mo_isRequest { frames := 0, cells := 0, slots := 0, locals := 0 } (PcW D A g [.ref (a0 0), .int x1] (w_Mo g a0 s0 ++ (rest))) (QcI D A g out (fun (_ : Unit) => w_Mo g a0 s0 ++ (rest))) 0 0 A := by
  refine Met.ofW (cc := prog_11_method_36_code) (maxL := 5) (ret := (some .boolean)) (by decide) rfl ?_
  intro p e s m args below meth c s₁ B hml hv
  obtain ⟨rfl, hI, hK⟩ := hv
  have hl := lv_entry [.ref (a0 0), .int x1] (n := 5) (Nat.le_of_ble_eq_true rfl)
  rw [lg_entry_eq]
  generalize (lg_sl [.ref (a0 0), .int x1] ++ List.replicate (5 - (lg_sl [.ref (a0 0), .int x1]).length) Slot.unset).toArray = ls at hl ⊢
  have hl : lv_has ls 5 [(0, .ref (a0 0)), (1, .int x1)] := hl
  exact t_Mo_isRequest_0 ⟨B.exec, B.bytes, hml, findClass_of_methodNamed B.named, atoms_spec (ws := ws_Mo_isRequest) B.pre, B.returns, B.notSynchronized, hK⟩ (lv_sub hl [0, 1] rfl) hI va_S.rf h
def ws_Mo_request : List Cond := .code y_Mo_request prog_11_method_37_code 4 none :: TB
def B_Mo_request_59 (s0 : S_Mo) : Option S_Mo :=
  some s0
def B_Mo_request_54 (s0 : S_Mo) : Option S_Mo :=
  ((F_Mo_comesTo s0 (3 : Int32)).bind fun o1 => (B_Mo_request_59 o1))
def B_Mo_request_43 (s0 : S_Mo) (y0 : Int32) : Option S_Mo :=
  ((F_Mo_make s0 y0).bind fun o1 => ((F_Mo_sends o1 (3 : Int32)).bind fun o3 => (if o3.1 = 0 then (B_Mo_request_59 o3.2) else (B_Mo_request_54 o3.2))))
def B_Mo_request_42 (s0 : S_Mo) : Option S_Mo :=
  (B_Mo_request_43 s0 (2 : Int32))
def B_Mo_request_38 (s0 : S_Mo) : Option S_Mo :=
  (B_Mo_request_43 s0 (1 : Int32))
def B_Mo_request_26 (s0 : S_Mo) : Option S_Mo :=
  (if ((2 : Int32) < 0 ∨ 202 ≤ (2 : Int32).toNatClampNeg) then none else (if (((Mo_input s0) (2 : Int32).toNatClampNeg) - ((Mo_input s0) (2 : Int32).toNatClampNeg) / (2 : Int32) * (2 : Int32)) = 0 then (B_Mo_request_38 s0) else (B_Mo_request_42 s0)))
def B_Mo_request_211 (s0 : S_Mo) : Option S_Mo :=
  some s0
def B_Mo_request_206 (s0 : S_Mo) : Option S_Mo :=
  ((F_Mo_comesTo s0 (2 : Int32)).bind fun o1 => (B_Mo_request_211 o1))
def B_Mo_request_198 (s0 : S_Mo) : Option S_Mo :=
  ((F_Mo_sends s0 (2 : Int32)).bind fun o1 => (if o1.1 = 0 then (B_Mo_request_211 o1.2) else (B_Mo_request_206 o1.2)))
def B_Mo_request_171 (k71 : S_Mo × Int32 → Option S_Mo) (s0 : S_Mo) (x2 : Int32) (y0 : Int32) (y1 : Int32) : Option S_Mo :=
  (if (y1 < 0 ∨ 4 ≤ y1.toNatClampNeg) then none else (if (x2 < 0 ∨ 4 ≤ x2.toNatClampNeg) then none else ((F_Mo_make (Mo_set_results s0 (upd (Mo_results s0) y1.toNatClampNeg y0)) ((Mo_ids (Mo_set_results s0 (upd (Mo_results s0) y1.toNatClampNeg y0))) x2.toNatClampNeg)).bind fun o3 => (if (x2 < 0 ∨ 4 ≤ x2.toNatClampNeg) then none else ((F_Mo_make o3 ((Mo_results o3) x2.toNatClampNeg)).bind fun o6 => (k71 (o6, (x2 + 1))))))))
def B_Mo_request_170 (k71 : S_Mo × Int32 → Option S_Mo) (s0 : S_Mo) (x2 : Int32) (y0 : Int32) : Option S_Mo :=
  (B_Mo_request_171 k71 s0 x2 (3 : Int32) y0)
def B_Mo_request_166 (k71 : S_Mo × Int32 → Option S_Mo) (s0 : S_Mo) (x2 : Int32) (y0 : Int32) : Option S_Mo :=
  (B_Mo_request_171 k71 s0 x2 (1 : Int32) y0)
def B_Mo_request_157 (k71 : S_Mo × Int32 → Option S_Mo) (s0 : S_Mo) (x2 : Int32) (x3 : Int32) (y0 : Int32) : Option S_Mo :=
  (if ((x3 / (2 : Int32)) - (x3 / (2 : Int32)) / (2 : Int32) * (2 : Int32)) = (1 : Int32) then (B_Mo_request_166 k71 s0 x2 y0) else (B_Mo_request_170 k71 s0 x2 y0))
def B_Mo_request_153 (k71 : S_Mo × Int32 → Option S_Mo) (s0 : S_Mo) (x2 : Int32) (y0 : Int32) : Option S_Mo :=
  (B_Mo_request_171 k71 s0 x2 (0 : Int32) y0)
def B_Mo_request_146 (k71 : S_Mo × Int32 → Option S_Mo) (s0 : S_Mo) (x2 : Int32) (x3 : Int32) (y0 : Int32) : Option S_Mo :=
  (if (x3 - x3 / (2 : Int32) * (2 : Int32)) = (1 : Int32) then (B_Mo_request_153 k71 s0 x2 y0) else (B_Mo_request_157 k71 s0 x2 x3 y0))
def B_Mo_request_142 (k71 : S_Mo × Int32 → Option S_Mo) (s0 : S_Mo) (x2 : Int32) (y0 : Int32) : Option S_Mo :=
  (B_Mo_request_171 k71 s0 x2 (2 : Int32) y0)
def B_Mo_request_79 (k71 : S_Mo × Int32 → Option S_Mo) (s0 : S_Mo) (x2 : Int32) : Option S_Mo :=
  (if (((4 : Int32) + ((3 : Int32) * x2)) < 0 ∨ 202 ≤ ((4 : Int32) + ((3 : Int32) * x2)).toNatClampNeg) then none else (if (x2 < 0 ∨ 4 ≤ x2.toNatClampNeg) then none else (if (((5 : Int32) + ((3 : Int32) * x2)) < 0 ∨ 202 ≤ ((5 : Int32) + ((3 : Int32) * x2)).toNatClampNeg) then none else (if (x2 < 0 ∨ 4 ≤ x2.toNatClampNeg) then none else (if (((6 : Int32) + ((3 : Int32) * x2)) < 0 ∨ 202 ≤ ((6 : Int32) + ((3 : Int32) * x2)).toNatClampNeg) then none else (if (x2 < 0 ∨ 4 ≤ x2.toNatClampNeg) then none else ((F_Mo_in ((Mo_services (Mo_set_services (Mo_set_ids s0 (upd (Mo_ids s0) x2.toNatClampNeg ((Mo_input s0) ((4 : Int32) + ((3 : Int32) * x2)).toNatClampNeg))) (upd (Mo_services (Mo_set_ids s0 (upd (Mo_ids s0) x2.toNatClampNeg ((Mo_input s0) ((4 : Int32) + ((3 : Int32) * x2)).toNatClampNeg)))) x2.toNatClampNeg ((Mo_input (Mo_set_ids s0 (upd (Mo_ids s0) x2.toNatClampNeg ((Mo_input s0) ((4 : Int32) + ((3 : Int32) * x2)).toNatClampNeg)))) ((5 : Int32) + ((3 : Int32) * x2)).toNatClampNeg)))) x2.toNatClampNeg) (1 : Int32) (3 : Int32)).bind fun o7 => (if o7 = 0 then (B_Mo_request_142 k71 (Mo_set_services (Mo_set_ids s0 (upd (Mo_ids s0) x2.toNatClampNeg ((Mo_input s0) ((4 : Int32) + ((3 : Int32) * x2)).toNatClampNeg))) (upd (Mo_services (Mo_set_ids s0 (upd (Mo_ids s0) x2.toNatClampNeg ((Mo_input s0) ((4 : Int32) + ((3 : Int32) * x2)).toNatClampNeg)))) x2.toNatClampNeg ((Mo_input (Mo_set_ids s0 (upd (Mo_ids s0) x2.toNatClampNeg ((Mo_input s0) ((4 : Int32) + ((3 : Int32) * x2)).toNatClampNeg)))) ((5 : Int32) + ((3 : Int32) * x2)).toNatClampNeg))) x2 x2) else (B_Mo_request_146 k71 (Mo_set_services (Mo_set_ids s0 (upd (Mo_ids s0) x2.toNatClampNeg ((Mo_input s0) ((4 : Int32) + ((3 : Int32) * x2)).toNatClampNeg))) (upd (Mo_services (Mo_set_ids s0 (upd (Mo_ids s0) x2.toNatClampNeg ((Mo_input s0) ((4 : Int32) + ((3 : Int32) * x2)).toNatClampNeg)))) x2.toNatClampNeg ((Mo_input (Mo_set_ids s0 (upd (Mo_ids s0) x2.toNatClampNeg ((Mo_input s0) ((4 : Int32) + ((3 : Int32) * x2)).toNatClampNeg)))) ((5 : Int32) + ((3 : Int32) * x2)).toNatClampNeg))) x2 ((Mo_input (Mo_set_services (Mo_set_ids s0 (upd (Mo_ids s0) x2.toNatClampNeg ((Mo_input s0) ((4 : Int32) + ((3 : Int32) * x2)).toNatClampNeg))) (upd (Mo_services (Mo_set_ids s0 (upd (Mo_ids s0) x2.toNatClampNeg ((Mo_input s0) ((4 : Int32) + ((3 : Int32) * x2)).toNatClampNeg)))) x2.toNatClampNeg ((Mo_input (Mo_set_ids s0 (upd (Mo_ids s0) x2.toNatClampNeg ((Mo_input s0) ((4 : Int32) + ((3 : Int32) * x2)).toNatClampNeg)))) ((5 : Int32) + ((3 : Int32) * x2)).toNatClampNeg)))) ((6 : Int32) + ((3 : Int32) * x2)).toNatClampNeg) x2)))))))))
def B_Mo_request_71 (k71 : S_Mo × Int32 → Option S_Mo) (s0 : S_Mo) (x2 : Int32) : Option S_Mo :=
  (if (Mo_contexts s0) ≤ x2 then (B_Mo_request_198 s0) else (B_Mo_request_79 k71 s0 x2))
def L_Mo_request_71 (v : S_Mo × Int32) : Option S_Mo := lp (fun k71 v => B_Mo_request_71  k71  v.1 v.2) FU v
def B_Mo_request_60 (s0 : S_Mo) (x1 : Int32) : Option S_Mo :=
  (L_Mo_request_71 ((Mo_set_contexts s0 ((x1 - (2 : Int32)) / (3 : Int32))), (0 : Int32)))
def B_Mo_request_16 (s0 : S_Mo) (x1 : Int32) : Option S_Mo :=
  (if ((3 : Int32) < 0 ∨ 202 ≤ (3 : Int32).toNatClampNeg) then none else (if ((Mo_input s0) (3 : Int32).toNatClampNeg) = (1 : Int32) then (B_Mo_request_60 s0 x1) else (B_Mo_request_26 s0)))
def B_Mo_request_0 (s0 : S_Mo) (x1 : Int32) : Option S_Mo :=
  (if ((2 : Int32) < 0 ∨ 202 ≤ (2 : Int32).toNatClampNeg) then none else (if (((Mo_input (Mo_set_makes s0 (0 : Int32))) (2 : Int32).toNatClampNeg) - ((Mo_input (Mo_set_makes s0 (0 : Int32))) (2 : Int32).toNatClampNeg) / (2 : Int32) * (2 : Int32)) = 0 then (B_Mo_request_26 (Mo_set_makes s0 (0 : Int32))) else (B_Mo_request_16 (Mo_set_makes s0 (0 : Int32)) x1)))
def F_Mo_request (s0 : S_Mo) (x1 : Int32) : Option S_Mo := B_Mo_request_0 s0 x1
set_option maxRecDepth 100000 in
set_option maxHeartbeats 4000000 in
theorem t_Mo_request_59 {p : Program} {l : Launch} {e : Env} {s : State} {m : MethodId} {args : Array Value} {below : List Frame} {meth : Method} {c : Code} {D : va_G} {A : Nat → Prop} {g : Nat → ClassId} {rest : va_W} {a0 : Nat → Nat} {ls : Array Slot} {H : Heap} {locs : List Loc} {s0 : S_Mo} {out : S_Mo} (X : Cx p s m args meth c prog_11_method_37_code 4 ws_Mo_request R_Mo none D g) (hl : lv_has ls 4 []) (hI : Iw D A (w_Mo g a0 s0 ++ (rest)) H) (hS : va_S A s.heap H locs) (h : B_Mo_request_59  s0 = some out) : W p l e (headSpec ws_Mo_request { frames := 3, cells := 0, slots := 0, locals := 62 }).room s m args below meth c H locs 0 0 (MQ below (QcV D A g (fun (_ : Unit) => w_Mo g a0 out ++ (rest))) args s 0 0 A) (F0 m 59 ls []) := by
  have X1 := X
  obtain ⟨hx, hb, hml, hown, hts, hr, hlocks, hKK⟩ := X1
  have ht : ∀ w ∈ TB, w.before args s = true := fun w h => hts w (List.mem_cons_of_mem _ h)
  have hK := hKK.1
  unfold B_Mo_request_59 at h
  have h9 := Option.some.inj h
  subst h9
  exact W.vret hx hb hr (fun t ht hW => ⟨⟨(), rfl, trivial, ⟨by rw [ht]; exact hI, hKK.moved hW⟩⟩, hS.F ht⟩) hS.2.2 d_Mo_request_59
set_option maxRecDepth 100000 in
set_option maxHeartbeats 4000000 in
theorem t_Mo_request_54 {p : Program} {l : Launch} {e : Env} {s : State} {m : MethodId} {args : Array Value} {below : List Frame} {meth : Method} {c : Code} {D : va_G} {A : Nat → Prop} {g : Nat → ClassId} {rest : va_W} {a0 : Nat → Nat} {ls : Array Slot} {H : Heap} {locs : List Loc} {s0 : S_Mo} {out : S_Mo} (X : Cx p s m args meth c prog_11_method_37_code 4 ws_Mo_request R_Mo none D g) (hl : lv_has ls 4 [(0, .ref (a0 0))]) (hI : Iw D A (w_Mo g a0 s0 ++ (rest)) H) (hS : va_S A s.heap H locs) (h : B_Mo_request_54  s0 = some out) : W p l e (headSpec ws_Mo_request { frames := 3, cells := 0, slots := 0, locals := 62 }).room s m args below meth c H locs 0 0 (MQ below (QcV D A g (fun (_ : Unit) => w_Mo g a0 out ++ (rest))) args s 0 0 A) (F0 m 54 ls []) := by
  have X1 := X
  obtain ⟨hx, hb, hml, hown, hts, hr, hlocks, hKK⟩ := X1
  have ht : ∀ w ∈ TB, w.before args s = true := fun w h => hts w (List.mem_cons_of_mem _ h)
  have hK := hKK.1
  unfold B_Mo_request_54 at h
  refine lv_aload_n hx hb d_Mo_request_54 rfl (lv_at hl 0 rfl) ?_
  refine lv_iconst (v := 3) hx hb d_Mo_request_55 (by decide) ?_
  obtain ⟨o1, ho2, h⟩ := bd_s h
  refine cl_v (W1 := fun (_ : Unit) => w_Mo g a0 o1 ++ (rest)) (va_runV (As := [.int (3 : Int32)]) (rest := []) ⟨hx, hb, hml, hown, ht⟩ (c_Mo_comesTo (l := l) (D := D) (A := A) (g := g) (rest := rest) (a0 := a0) ho2) (cwV 1 ht (gd_V m_1064 m_1066 mp_52 m_11 m_1067) rfl rfl rfl (by decide +kernel) ⟨(Nat.le_of_ble_eq_true rfl), (Nat.le_of_ble_eq_true rfl)⟩) (prV (ci := 9) (q0 := 0) hKK hI (List.Perm.refl _) rfl rfl rfl) rfl rfl hl.1 rfl (lv_room (Nat.le_of_ble_eq_true rfl)) d_Mo_request_56 ⟨(Nat.le_of_ble_eq_true rfl), (Nat.le_of_ble_eq_true rfl)⟩) hS (fun _ => ((List.Perm.refl _)).symm) (fun _ H locs hI hS => ?_)
  have hI : Iw D A (w_Mo g a0 o1 ++ (rest)) H := hI
  exact t_Mo_request_59 X (lv_sub hl [] rfl) hI hS h
set_option maxRecDepth 100000 in
set_option maxHeartbeats 4000000 in
theorem t_Mo_request_43 {p : Program} {l : Launch} {e : Env} {s : State} {m : MethodId} {args : Array Value} {below : List Frame} {meth : Method} {c : Code} {D : va_G} {A : Nat → Prop} {g : Nat → ClassId} {rest : va_W} {a0 : Nat → Nat} {ls : Array Slot} {H : Heap} {locs : List Loc} {s0 : S_Mo} {y0 : Int32} {out : S_Mo} (X : Cx p s m args meth c prog_11_method_37_code 4 ws_Mo_request R_Mo none D g) (hl : lv_has ls 4 [(0, .ref (a0 0))]) (hI : Iw D A (w_Mo g a0 s0 ++ (rest)) H) (hS : va_S A s.heap H locs) (h : B_Mo_request_43  s0 y0 = some out) : W p l e (headSpec ws_Mo_request { frames := 3, cells := 0, slots := 0, locals := 62 }).room s m args below meth c H locs 0 0 (MQ below (QcV D A g (fun (_ : Unit) => w_Mo g a0 out ++ (rest))) args s 0 0 A) (F0 m 43 ls [.int y0, .ref (a0 0)]) := by
  have X1 := X
  obtain ⟨hx, hb, hml, hown, hts, hr, hlocks, hKK⟩ := X1
  have ht : ∀ w ∈ TB, w.before args s = true := fun w h => hts w (List.mem_cons_of_mem _ h)
  have hK := hKK.1
  unfold B_Mo_request_43 at h
  obtain ⟨o1, ho2, h⟩ := bd_s h
  refine cl_v (W1 := fun (_ : Unit) => w_Mo g a0 o1 ++ (rest)) (va_runV (As := [.int y0]) (rest := []) ⟨hx, hb, hml, hown, ht⟩ (c_Mo_make (l := l) (D := D) (A := A) (g := g) (rest := rest) (a0 := a0) ho2) (cwV 1 ht (gd_V m_1048 m_1050 mp_50 m_11 m_1051) rfl rfl rfl (by decide +kernel) ⟨(Nat.le_of_ble_eq_true rfl), (Nat.le_of_ble_eq_true rfl)⟩) (prV (ci := 9) (q0 := 0) hKK hI (List.Perm.refl _) rfl rfl rfl) rfl rfl hl.1 rfl (lv_room (Nat.le_of_ble_eq_true rfl)) d_Mo_request_43 ⟨(Nat.le_of_ble_eq_true rfl), (Nat.le_of_ble_eq_true rfl)⟩) hS (fun _ => ((List.Perm.refl _)).symm) (fun _ H locs hI hS => ?_)
  have hI : Iw D A (w_Mo g a0 o1 ++ (rest)) H := hI
  refine lv_aload_n hx hb d_Mo_request_46 rfl (lv_at hl 0 rfl) ?_
  refine lv_iconst (v := 3) hx hb d_Mo_request_47 (by decide) ?_
  obtain ⟨o3, ho4, h⟩ := bd_s h
  refine cl_i (W1 := fun (_ : Unit) => w_Mo g a0 o3.2 ++ (rest)) (va_runV (As := [.int (3 : Int32)]) (rest := []) ⟨hx, hb, hml, hown, ht⟩ (c_Mo_sends (l := l) (D := D) (A := A) (g := g) (rest := rest) (a0 := a0) ho4) (cwV 1 ht (gd_V m_1092 m_1094 mp_57 m_11 m_1095) rfl rfl rfl (by decide +kernel) ⟨(Nat.le_of_ble_eq_true rfl), (Nat.le_of_ble_eq_true rfl)⟩) (prV (ci := 9) (q0 := 0) hKK hI (List.Perm.refl _) rfl rfl rfl) rfl rfl hl.1 rfl (lv_room (Nat.le_of_ble_eq_true rfl)) d_Mo_request_48 ⟨(Nat.le_of_ble_eq_true rfl), (Nat.le_of_ble_eq_true rfl)⟩) hS (fun _ => ((List.Perm.refl _)).symm) (fun _ H locs hI hS => ?_)
  have hI : Iw D A (w_Mo g a0 o3.2 ++ (rest)) H := hI
  refine lv_if_eq (tgt := 59) hx hb d_Mo_request_51 (by decide) (fun hc => ?_) (fun hc => ?_)
  · have h := it_t h hc
    exact t_Mo_request_59 X (lv_sub hl [] rfl) hI hS h
  · have h := it_f h hc
    exact t_Mo_request_54 X (lv_sub hl [0] rfl) hI hS h
set_option maxRecDepth 100000 in
set_option maxHeartbeats 4000000 in
theorem t_Mo_request_42 {p : Program} {l : Launch} {e : Env} {s : State} {m : MethodId} {args : Array Value} {below : List Frame} {meth : Method} {c : Code} {D : va_G} {A : Nat → Prop} {g : Nat → ClassId} {rest : va_W} {a0 : Nat → Nat} {ls : Array Slot} {H : Heap} {locs : List Loc} {s0 : S_Mo} {out : S_Mo} (X : Cx p s m args meth c prog_11_method_37_code 4 ws_Mo_request R_Mo none D g) (hl : lv_has ls 4 [(0, .ref (a0 0))]) (hI : Iw D A (w_Mo g a0 s0 ++ (rest)) H) (hS : va_S A s.heap H locs) (h : B_Mo_request_42  s0 = some out) : W p l e (headSpec ws_Mo_request { frames := 3, cells := 0, slots := 0, locals := 62 }).room s m args below meth c H locs 0 0 (MQ below (QcV D A g (fun (_ : Unit) => w_Mo g a0 out ++ (rest))) args s 0 0 A) (F0 m 42 ls [.ref (a0 0)]) := by
  have X1 := X
  obtain ⟨hx, hb, hml, hown, hts, hr, hlocks, hKK⟩ := X1
  have ht : ∀ w ∈ TB, w.before args s = true := fun w h => hts w (List.mem_cons_of_mem _ h)
  have hK := hKK.1
  unfold B_Mo_request_42 at h
  refine lv_iconst (v := 2) hx hb d_Mo_request_42 (by decide) ?_
  exact t_Mo_request_43 X (lv_sub hl [0] rfl) hI hS h
set_option maxRecDepth 100000 in
set_option maxHeartbeats 4000000 in
theorem t_Mo_request_38 {p : Program} {l : Launch} {e : Env} {s : State} {m : MethodId} {args : Array Value} {below : List Frame} {meth : Method} {c : Code} {D : va_G} {A : Nat → Prop} {g : Nat → ClassId} {rest : va_W} {a0 : Nat → Nat} {ls : Array Slot} {H : Heap} {locs : List Loc} {s0 : S_Mo} {out : S_Mo} (X : Cx p s m args meth c prog_11_method_37_code 4 ws_Mo_request R_Mo none D g) (hl : lv_has ls 4 [(0, .ref (a0 0))]) (hI : Iw D A (w_Mo g a0 s0 ++ (rest)) H) (hS : va_S A s.heap H locs) (h : B_Mo_request_38  s0 = some out) : W p l e (headSpec ws_Mo_request { frames := 3, cells := 0, slots := 0, locals := 62 }).room s m args below meth c H locs 0 0 (MQ below (QcV D A g (fun (_ : Unit) => w_Mo g a0 out ++ (rest))) args s 0 0 A) (F0 m 38 ls [.ref (a0 0)]) := by
  have X1 := X
  obtain ⟨hx, hb, hml, hown, hts, hr, hlocks, hKK⟩ := X1
  have ht : ∀ w ∈ TB, w.before args s = true := fun w h => hts w (List.mem_cons_of_mem _ h)
  have hK := hKK.1
  unfold B_Mo_request_38 at h
  refine lv_iconst (v := 1) hx hb d_Mo_request_38 (by decide) ?_
  refine lv_goto (tgt := 43) hx hb d_Mo_request_39 (by decide) ?_
  exact t_Mo_request_43 X (lv_sub hl [0] rfl) hI hS h
set_option maxRecDepth 100000 in
set_option maxHeartbeats 4000000 in
theorem t_Mo_request_26 {p : Program} {l : Launch} {e : Env} {s : State} {m : MethodId} {args : Array Value} {below : List Frame} {meth : Method} {c : Code} {D : va_G} {A : Nat → Prop} {g : Nat → ClassId} {rest : va_W} {a0 : Nat → Nat} {ls : Array Slot} {H : Heap} {locs : List Loc} {s0 : S_Mo} {out : S_Mo} (X : Cx p s m args meth c prog_11_method_37_code 4 ws_Mo_request R_Mo none D g) (hl : lv_has ls 4 [(0, .ref (a0 0))]) (hI : Iw D A (w_Mo g a0 s0 ++ (rest)) H) (hS : va_S A s.heap H locs) (h : B_Mo_request_26  s0 = some out) : W p l e (headSpec ws_Mo_request { frames := 3, cells := 0, slots := 0, locals := 62 }).room s m args below meth c H locs 0 0 (MQ below (QcV D A g (fun (_ : Unit) => w_Mo g a0 out ++ (rest))) args s 0 0 A) (F0 m 26 ls []) := by
  have X1 := X
  obtain ⟨hx, hb, hml, hown, hts, hr, hlocks, hKK⟩ := X1
  have ht : ∀ w ∈ TB, w.before args s = true := fun w h => hts w (List.mem_cons_of_mem _ h)
  have hK := hKK.1
  unfold B_Mo_request_26 at h
  refine lv_aload_n hx hb d_Mo_request_26 rfl (lv_at hl 0 rfl) ?_
  refine lv_aload_n hx hb d_Mo_request_27 rfl (lv_at hl 0 rfl) ?_
  refine gt_Mo_input hx hb ht hown hK hI (ht _ m_846) d_Mo_request_28 ?_
  refine lv_iconst (v := 2) hx hb d_Mo_request_31 (by decide) ?_
  by_cases hc1 : ((2 : Int32) < 0 ∨ 202 ≤ (2 : Int32).toNatClampNeg)
  · exact no_s (it_t h hc1)
  have h := it_f h hc1
  refine al_Mo_input hx hb hK hI hc1 d_Mo_request_32 ?_
  refine lv_iconst (v := 2) hx hb d_Mo_request_33 (by decide) ?_
  refine lv_irem hx hb d_Mo_request_34 (by decide) ?_
  refine lv_if_ne (tgt := 42) hx hb d_Mo_request_35 (by decide) (fun hc => ?_) (fun hc => ?_)
  · have h := it_f h hc
    exact t_Mo_request_42 X (lv_sub hl [0] rfl) hI hS h
  · have h := it_t h hc
    exact t_Mo_request_38 X (lv_sub hl [0] rfl) hI hS h
set_option maxRecDepth 100000 in
set_option maxHeartbeats 4000000 in
theorem t_Mo_request_211 {p : Program} {l : Launch} {e : Env} {s : State} {m : MethodId} {args : Array Value} {below : List Frame} {meth : Method} {c : Code} {D : va_G} {A : Nat → Prop} {g : Nat → ClassId} {rest : va_W} {a0 : Nat → Nat} {ls : Array Slot} {H : Heap} {locs : List Loc} {s0 : S_Mo} {out : S_Mo} (X : Cx p s m args meth c prog_11_method_37_code 4 ws_Mo_request R_Mo none D g) (hl : lv_has ls 4 []) (hI : Iw D A (w_Mo g a0 s0 ++ (rest)) H) (hS : va_S A s.heap H locs) (h : B_Mo_request_211  s0 = some out) : W p l e (headSpec ws_Mo_request { frames := 3, cells := 0, slots := 0, locals := 62 }).room s m args below meth c H locs 0 0 (MQ below (QcV D A g (fun (_ : Unit) => w_Mo g a0 out ++ (rest))) args s 0 0 A) (F0 m 211 ls []) := by
  have X1 := X
  obtain ⟨hx, hb, hml, hown, hts, hr, hlocks, hKK⟩ := X1
  have ht : ∀ w ∈ TB, w.before args s = true := fun w h => hts w (List.mem_cons_of_mem _ h)
  have hK := hKK.1
  unfold B_Mo_request_211 at h
  have h9 := Option.some.inj h
  subst h9
  exact W.vret hx hb hr (fun t ht hW => ⟨⟨(), rfl, trivial, ⟨by rw [ht]; exact hI, hKK.moved hW⟩⟩, hS.F ht⟩) hS.2.2 d_Mo_request_211
set_option maxRecDepth 100000 in
set_option maxHeartbeats 4000000 in
theorem t_Mo_request_206 {p : Program} {l : Launch} {e : Env} {s : State} {m : MethodId} {args : Array Value} {below : List Frame} {meth : Method} {c : Code} {D : va_G} {A : Nat → Prop} {g : Nat → ClassId} {rest : va_W} {a0 : Nat → Nat} {ls : Array Slot} {H : Heap} {locs : List Loc} {s0 : S_Mo} {out : S_Mo} (X : Cx p s m args meth c prog_11_method_37_code 4 ws_Mo_request R_Mo none D g) (hl : lv_has ls 4 [(0, .ref (a0 0))]) (hI : Iw D A (w_Mo g a0 s0 ++ (rest)) H) (hS : va_S A s.heap H locs) (h : B_Mo_request_206  s0 = some out) : W p l e (headSpec ws_Mo_request { frames := 3, cells := 0, slots := 0, locals := 62 }).room s m args below meth c H locs 0 0 (MQ below (QcV D A g (fun (_ : Unit) => w_Mo g a0 out ++ (rest))) args s 0 0 A) (F0 m 206 ls []) := by
  have X1 := X
  obtain ⟨hx, hb, hml, hown, hts, hr, hlocks, hKK⟩ := X1
  have ht : ∀ w ∈ TB, w.before args s = true := fun w h => hts w (List.mem_cons_of_mem _ h)
  have hK := hKK.1
  unfold B_Mo_request_206 at h
  refine lv_aload_n hx hb d_Mo_request_206 rfl (lv_at hl 0 rfl) ?_
  refine lv_iconst (v := 2) hx hb d_Mo_request_207 (by decide) ?_
  obtain ⟨o1, ho2, h⟩ := bd_s h
  refine cl_v (W1 := fun (_ : Unit) => w_Mo g a0 o1 ++ (rest)) (va_runV (As := [.int (2 : Int32)]) (rest := []) ⟨hx, hb, hml, hown, ht⟩ (c_Mo_comesTo (l := l) (D := D) (A := A) (g := g) (rest := rest) (a0 := a0) ho2) (cwV 1 ht (gd_V m_1064 m_1066 mp_52 m_11 m_1067) rfl rfl rfl (by decide +kernel) ⟨(Nat.le_of_ble_eq_true rfl), (Nat.le_of_ble_eq_true rfl)⟩) (prV (ci := 9) (q0 := 0) hKK hI (List.Perm.refl _) rfl rfl rfl) rfl rfl hl.1 rfl (lv_room (Nat.le_of_ble_eq_true rfl)) d_Mo_request_208 ⟨(Nat.le_of_ble_eq_true rfl), (Nat.le_of_ble_eq_true rfl)⟩) hS (fun _ => ((List.Perm.refl _)).symm) (fun _ H locs hI hS => ?_)
  have hI : Iw D A (w_Mo g a0 o1 ++ (rest)) H := hI
  exact t_Mo_request_211 X (lv_sub hl [] rfl) hI hS h
set_option maxRecDepth 100000 in
set_option maxHeartbeats 4000000 in
theorem t_Mo_request_198 {p : Program} {l : Launch} {e : Env} {s : State} {m : MethodId} {args : Array Value} {below : List Frame} {meth : Method} {c : Code} {D : va_G} {A : Nat → Prop} {g : Nat → ClassId} {rest : va_W} {a0 : Nat → Nat} {ls : Array Slot} {H : Heap} {locs : List Loc} {s0 : S_Mo} {out : S_Mo} (X : Cx p s m args meth c prog_11_method_37_code 4 ws_Mo_request R_Mo none D g) (hl : lv_has ls 4 [(0, .ref (a0 0))]) (hI : Iw D A (w_Mo g a0 s0 ++ (rest)) H) (hS : va_S A s.heap H locs) (h : B_Mo_request_198  s0 = some out) : W p l e (headSpec ws_Mo_request { frames := 3, cells := 0, slots := 0, locals := 62 }).room s m args below meth c H locs 0 0 (MQ below (QcV D A g (fun (_ : Unit) => w_Mo g a0 out ++ (rest))) args s 0 0 A) (F0 m 198 ls []) := by
  have X1 := X
  obtain ⟨hx, hb, hml, hown, hts, hr, hlocks, hKK⟩ := X1
  have ht : ∀ w ∈ TB, w.before args s = true := fun w h => hts w (List.mem_cons_of_mem _ h)
  have hK := hKK.1
  unfold B_Mo_request_198 at h
  refine lv_aload_n hx hb d_Mo_request_198 rfl (lv_at hl 0 rfl) ?_
  refine lv_iconst (v := 2) hx hb d_Mo_request_199 (by decide) ?_
  obtain ⟨o1, ho2, h⟩ := bd_s h
  refine cl_i (W1 := fun (_ : Unit) => w_Mo g a0 o1.2 ++ (rest)) (va_runV (As := [.int (2 : Int32)]) (rest := []) ⟨hx, hb, hml, hown, ht⟩ (c_Mo_sends (l := l) (D := D) (A := A) (g := g) (rest := rest) (a0 := a0) ho2) (cwV 1 ht (gd_V m_1092 m_1094 mp_57 m_11 m_1095) rfl rfl rfl (by decide +kernel) ⟨(Nat.le_of_ble_eq_true rfl), (Nat.le_of_ble_eq_true rfl)⟩) (prV (ci := 9) (q0 := 0) hKK hI (List.Perm.refl _) rfl rfl rfl) rfl rfl hl.1 rfl (lv_room (Nat.le_of_ble_eq_true rfl)) d_Mo_request_200 ⟨(Nat.le_of_ble_eq_true rfl), (Nat.le_of_ble_eq_true rfl)⟩) hS (fun _ => ((List.Perm.refl _)).symm) (fun _ H locs hI hS => ?_)
  have hI : Iw D A (w_Mo g a0 o1.2 ++ (rest)) H := hI
  refine lv_if_eq (tgt := 211) hx hb d_Mo_request_203 (by decide) (fun hc => ?_) (fun hc => ?_)
  · have h := it_t h hc
    exact t_Mo_request_211 X (lv_sub hl [] rfl) hI hS h
  · have h := it_f h hc
    exact t_Mo_request_206 X (lv_sub hl [0] rfl) hI hS h
set_option maxRecDepth 100000 in
set_option maxHeartbeats 4000000 in
theorem t_Mo_request_171 {p : Program} {l : Launch} {e : Env} {s : State} {m : MethodId} {args : Array Value} {below : List Frame} {meth : Method} {c : Code} {D : va_G} {A : Nat → Prop} {g : Nat → ClassId} {rest : va_W} {a0 : Nat → Nat} {ls : Array Slot} {H : Heap} {locs : List Loc} {k71 : S_Mo × Int32 → Option S_Mo} {s0 : S_Mo} {x2 : Int32} {y0 : Int32} {y1 : Int32} {out : S_Mo} (X : Cx p s m args meth c prog_11_method_37_code 4 ws_Mo_request R_Mo none D g) (hk71 : ∀ (v : S_Mo × Int32) (ls : Array Slot) (H : Heap) (locs : List Loc), lv_has ls 4 [(0, .ref (a0 0)), (2, .int v.2)] → Iw D A (w_Mo g a0 v.1 ++ (rest)) H → va_S A s.heap H locs → k71 v = some out → W p l e (headSpec ws_Mo_request { frames := 3, cells := 0, slots := 0, locals := 62 }).room s m args below meth c H locs 0 0 (MQ below (QcV D A g (fun (_ : Unit) => w_Mo g a0 out ++ (rest))) args s 0 0 A) (F0 m 71 ls [])) (hl : lv_has ls 4 [(0, .ref (a0 0)), (2, .int x2)]) (hI : Iw D A (w_Mo g a0 s0 ++ (rest)) H) (hS : va_S A s.heap H locs) (h : B_Mo_request_171 k71 s0 x2 y0 y1 = some out) : W p l e (headSpec ws_Mo_request { frames := 3, cells := 0, slots := 0, locals := 62 }).room s m args below meth c H locs 0 0 (MQ below (QcV D A g (fun (_ : Unit) => w_Mo g a0 out ++ (rest))) args s 0 0 A) (F0 m 171 ls [.int y0, .int y1, .ref (a0 26)]) := by
  have X1 := X
  obtain ⟨hx, hb, hml, hown, hts, hr, hlocks, hKK⟩ := X1
  have ht : ∀ w ∈ TB, w.before args s = true := fun w h => hts w (List.mem_cons_of_mem _ h)
  have hK := hKK.1
  unfold B_Mo_request_171 at h
  by_cases hc1 : (y1 < 0 ∨ 4 ≤ y1.toNatClampNeg)
  · exact no_s (it_t h hc1)
  have h := it_f h hc1
  refine as_Mo_results hx hb hK hI hS hc1 d_Mo_request_171 (fun H locs hI hS => ?_)
  refine lv_aload_n hx hb d_Mo_request_172 rfl (lv_at hl 0 rfl) ?_
  refine lv_aload_n hx hb d_Mo_request_173 rfl (lv_at hl 0 rfl) ?_
  refine gt_Mo_ids hx hb ht hown hK hI (ht _ m_851) d_Mo_request_174 ?_
  refine lv_iload_n hx hb d_Mo_request_177 rfl (lv_at hl 1 rfl) ?_
  by_cases hc2 : (x2 < 0 ∨ 4 ≤ x2.toNatClampNeg)
  · exact no_s (it_t h hc2)
  have h := it_f h hc2
  refine al_Mo_ids hx hb hK hI hc2 d_Mo_request_178 ?_
  obtain ⟨o3, ho4, h⟩ := bd_s h
  refine cl_v (W1 := fun (_ : Unit) => w_Mo g a0 o3 ++ (rest)) (va_runV (As := [.int ((Mo_ids (Mo_set_results s0 (upd (Mo_results s0) y1.toNatClampNeg y0))) x2.toNatClampNeg)]) (rest := []) ⟨hx, hb, hml, hown, ht⟩ (c_Mo_make (l := l) (D := D) (A := A) (g := g) (rest := rest) (a0 := a0) ho4) (cwV 1 ht (gd_V m_1048 m_1050 mp_50 m_11 m_1051) rfl rfl rfl (by decide +kernel) ⟨(Nat.le_of_ble_eq_true rfl), (Nat.le_of_ble_eq_true rfl)⟩) (prV (ci := 9) (q0 := 0) hKK hI (List.Perm.refl _) rfl rfl rfl) rfl rfl hl.1 rfl (lv_room (Nat.le_of_ble_eq_true rfl)) d_Mo_request_179 ⟨(Nat.le_of_ble_eq_true rfl), (Nat.le_of_ble_eq_true rfl)⟩) hS (fun _ => ((List.Perm.refl _)).symm) (fun _ H locs hI hS => ?_)
  have hI : Iw D A (w_Mo g a0 o3 ++ (rest)) H := hI
  refine lv_aload_n hx hb d_Mo_request_182 rfl (lv_at hl 0 rfl) ?_
  refine lv_aload_n hx hb d_Mo_request_183 rfl (lv_at hl 0 rfl) ?_
  refine gt_Mo_results hx hb ht hown hK hI (ht _ m_853) d_Mo_request_184 ?_
  refine lv_iload_n hx hb d_Mo_request_187 rfl (lv_at hl 1 rfl) ?_
  by_cases hc5 : (x2 < 0 ∨ 4 ≤ x2.toNatClampNeg)
  · exact no_s (it_t h hc5)
  have h := it_f h hc5
  refine al_Mo_results hx hb hK hI hc5 d_Mo_request_188 ?_
  obtain ⟨o6, ho7, h⟩ := bd_s h
  refine cl_v (W1 := fun (_ : Unit) => w_Mo g a0 o6 ++ (rest)) (va_runV (As := [.int ((Mo_results o3) x2.toNatClampNeg)]) (rest := []) ⟨hx, hb, hml, hown, ht⟩ (c_Mo_make (l := l) (D := D) (A := A) (g := g) (rest := rest) (a0 := a0) ho7) (cwV 1 ht (gd_V m_1048 m_1050 mp_50 m_11 m_1051) rfl rfl rfl (by decide +kernel) ⟨(Nat.le_of_ble_eq_true rfl), (Nat.le_of_ble_eq_true rfl)⟩) (prV (ci := 9) (q0 := 0) hKK hI (List.Perm.refl _) rfl rfl rfl) rfl rfl hl.1 rfl (lv_room (Nat.le_of_ble_eq_true rfl)) d_Mo_request_189 ⟨(Nat.le_of_ble_eq_true rfl), (Nat.le_of_ble_eq_true rfl)⟩) hS (fun _ => ((List.Perm.refl _)).symm) (fun _ H locs hI hS => ?_)
  have hI : Iw D A (w_Mo g a0 o6 ++ (rest)) H := hI
  refine lv_iinc (k := 1) (v := (x2 + 1)) hx hb d_Mo_request_192 hl rfl (congrArg (fun z => x2 + z) (by decide)) (Nat.le_of_ble_eq_true rfl) rfl (fun ls hl => ?_)
  have hl : lv_has ls 4 [(2, .int (x2 + 1)), (0, .ref (a0 0))] := hl
  refine lv_goto (tgt := 71) hx hb d_Mo_request_195 (by decide) ?_
  exact hk71 (o6, (x2 + 1)) _ _ _ (lv_sub hl [1, 0] rfl) hI hS h
set_option maxRecDepth 100000 in
set_option maxHeartbeats 4000000 in
theorem t_Mo_request_170 {p : Program} {l : Launch} {e : Env} {s : State} {m : MethodId} {args : Array Value} {below : List Frame} {meth : Method} {c : Code} {D : va_G} {A : Nat → Prop} {g : Nat → ClassId} {rest : va_W} {a0 : Nat → Nat} {ls : Array Slot} {H : Heap} {locs : List Loc} {k71 : S_Mo × Int32 → Option S_Mo} {s0 : S_Mo} {x2 : Int32} {y0 : Int32} {out : S_Mo} (X : Cx p s m args meth c prog_11_method_37_code 4 ws_Mo_request R_Mo none D g) (hk71 : ∀ (v : S_Mo × Int32) (ls : Array Slot) (H : Heap) (locs : List Loc), lv_has ls 4 [(0, .ref (a0 0)), (2, .int v.2)] → Iw D A (w_Mo g a0 v.1 ++ (rest)) H → va_S A s.heap H locs → k71 v = some out → W p l e (headSpec ws_Mo_request { frames := 3, cells := 0, slots := 0, locals := 62 }).room s m args below meth c H locs 0 0 (MQ below (QcV D A g (fun (_ : Unit) => w_Mo g a0 out ++ (rest))) args s 0 0 A) (F0 m 71 ls [])) (hl : lv_has ls 4 [(0, .ref (a0 0)), (2, .int x2)]) (hI : Iw D A (w_Mo g a0 s0 ++ (rest)) H) (hS : va_S A s.heap H locs) (h : B_Mo_request_170 k71 s0 x2 y0 = some out) : W p l e (headSpec ws_Mo_request { frames := 3, cells := 0, slots := 0, locals := 62 }).room s m args below meth c H locs 0 0 (MQ below (QcV D A g (fun (_ : Unit) => w_Mo g a0 out ++ (rest))) args s 0 0 A) (F0 m 170 ls [.int y0, .ref (a0 26)]) := by
  have X1 := X
  obtain ⟨hx, hb, hml, hown, hts, hr, hlocks, hKK⟩ := X1
  have ht : ∀ w ∈ TB, w.before args s = true := fun w h => hts w (List.mem_cons_of_mem _ h)
  have hK := hKK.1
  unfold B_Mo_request_170 at h
  refine lv_iconst (v := 3) hx hb d_Mo_request_170 (by decide) ?_
  exact t_Mo_request_171 X hk71 (lv_sub hl [0, 1] rfl) hI hS h
set_option maxRecDepth 100000 in
set_option maxHeartbeats 4000000 in
theorem t_Mo_request_166 {p : Program} {l : Launch} {e : Env} {s : State} {m : MethodId} {args : Array Value} {below : List Frame} {meth : Method} {c : Code} {D : va_G} {A : Nat → Prop} {g : Nat → ClassId} {rest : va_W} {a0 : Nat → Nat} {ls : Array Slot} {H : Heap} {locs : List Loc} {k71 : S_Mo × Int32 → Option S_Mo} {s0 : S_Mo} {x2 : Int32} {y0 : Int32} {out : S_Mo} (X : Cx p s m args meth c prog_11_method_37_code 4 ws_Mo_request R_Mo none D g) (hk71 : ∀ (v : S_Mo × Int32) (ls : Array Slot) (H : Heap) (locs : List Loc), lv_has ls 4 [(0, .ref (a0 0)), (2, .int v.2)] → Iw D A (w_Mo g a0 v.1 ++ (rest)) H → va_S A s.heap H locs → k71 v = some out → W p l e (headSpec ws_Mo_request { frames := 3, cells := 0, slots := 0, locals := 62 }).room s m args below meth c H locs 0 0 (MQ below (QcV D A g (fun (_ : Unit) => w_Mo g a0 out ++ (rest))) args s 0 0 A) (F0 m 71 ls [])) (hl : lv_has ls 4 [(0, .ref (a0 0)), (2, .int x2)]) (hI : Iw D A (w_Mo g a0 s0 ++ (rest)) H) (hS : va_S A s.heap H locs) (h : B_Mo_request_166 k71 s0 x2 y0 = some out) : W p l e (headSpec ws_Mo_request { frames := 3, cells := 0, slots := 0, locals := 62 }).room s m args below meth c H locs 0 0 (MQ below (QcV D A g (fun (_ : Unit) => w_Mo g a0 out ++ (rest))) args s 0 0 A) (F0 m 166 ls [.int y0, .ref (a0 26)]) := by
  have X1 := X
  obtain ⟨hx, hb, hml, hown, hts, hr, hlocks, hKK⟩ := X1
  have ht : ∀ w ∈ TB, w.before args s = true := fun w h => hts w (List.mem_cons_of_mem _ h)
  have hK := hKK.1
  unfold B_Mo_request_166 at h
  refine lv_iconst (v := 1) hx hb d_Mo_request_166 (by decide) ?_
  refine lv_goto (tgt := 171) hx hb d_Mo_request_167 (by decide) ?_
  exact t_Mo_request_171 X hk71 (lv_sub hl [0, 1] rfl) hI hS h
set_option maxRecDepth 100000 in
set_option maxHeartbeats 4000000 in
theorem t_Mo_request_157 {p : Program} {l : Launch} {e : Env} {s : State} {m : MethodId} {args : Array Value} {below : List Frame} {meth : Method} {c : Code} {D : va_G} {A : Nat → Prop} {g : Nat → ClassId} {rest : va_W} {a0 : Nat → Nat} {ls : Array Slot} {H : Heap} {locs : List Loc} {k71 : S_Mo × Int32 → Option S_Mo} {s0 : S_Mo} {x2 : Int32} {x3 : Int32} {y0 : Int32} {out : S_Mo} (X : Cx p s m args meth c prog_11_method_37_code 4 ws_Mo_request R_Mo none D g) (hk71 : ∀ (v : S_Mo × Int32) (ls : Array Slot) (H : Heap) (locs : List Loc), lv_has ls 4 [(0, .ref (a0 0)), (2, .int v.2)] → Iw D A (w_Mo g a0 v.1 ++ (rest)) H → va_S A s.heap H locs → k71 v = some out → W p l e (headSpec ws_Mo_request { frames := 3, cells := 0, slots := 0, locals := 62 }).room s m args below meth c H locs 0 0 (MQ below (QcV D A g (fun (_ : Unit) => w_Mo g a0 out ++ (rest))) args s 0 0 A) (F0 m 71 ls [])) (hl : lv_has ls 4 [(0, .ref (a0 0)), (2, .int x2), (3, .int x3)]) (hI : Iw D A (w_Mo g a0 s0 ++ (rest)) H) (hS : va_S A s.heap H locs) (h : B_Mo_request_157 k71 s0 x2 x3 y0 = some out) : W p l e (headSpec ws_Mo_request { frames := 3, cells := 0, slots := 0, locals := 62 }).room s m args below meth c H locs 0 0 (MQ below (QcV D A g (fun (_ : Unit) => w_Mo g a0 out ++ (rest))) args s 0 0 A) (F0 m 157 ls [.int y0, .ref (a0 26)]) := by
  have X1 := X
  obtain ⟨hx, hb, hml, hown, hts, hr, hlocks, hKK⟩ := X1
  have ht : ∀ w ∈ TB, w.before args s = true := fun w h => hts w (List.mem_cons_of_mem _ h)
  have hK := hKK.1
  unfold B_Mo_request_157 at h
  refine lv_iload_n hx hb d_Mo_request_157 rfl (lv_at hl 2 rfl) ?_
  refine lv_iconst (v := 2) hx hb d_Mo_request_158 (by decide) ?_
  refine lv_idiv hx hb d_Mo_request_159 (by decide) ?_
  refine lv_iconst (v := 2) hx hb d_Mo_request_160 (by decide) ?_
  refine lv_irem hx hb d_Mo_request_161 (by decide) ?_
  refine lv_iconst (v := 1) hx hb d_Mo_request_162 (by decide) ?_
  refine lv_icmp_ne (tgt := 170) hx hb d_Mo_request_163 (by decide) (fun hc => ?_) (fun hc => ?_)
  · have h := it_f h hc
    exact t_Mo_request_170 X hk71 (lv_sub hl [0, 1] rfl) hI hS h
  · have h := it_t h hc
    exact t_Mo_request_166 X hk71 (lv_sub hl [0, 1] rfl) hI hS h
set_option maxRecDepth 100000 in
set_option maxHeartbeats 4000000 in
theorem t_Mo_request_153 {p : Program} {l : Launch} {e : Env} {s : State} {m : MethodId} {args : Array Value} {below : List Frame} {meth : Method} {c : Code} {D : va_G} {A : Nat → Prop} {g : Nat → ClassId} {rest : va_W} {a0 : Nat → Nat} {ls : Array Slot} {H : Heap} {locs : List Loc} {k71 : S_Mo × Int32 → Option S_Mo} {s0 : S_Mo} {x2 : Int32} {y0 : Int32} {out : S_Mo} (X : Cx p s m args meth c prog_11_method_37_code 4 ws_Mo_request R_Mo none D g) (hk71 : ∀ (v : S_Mo × Int32) (ls : Array Slot) (H : Heap) (locs : List Loc), lv_has ls 4 [(0, .ref (a0 0)), (2, .int v.2)] → Iw D A (w_Mo g a0 v.1 ++ (rest)) H → va_S A s.heap H locs → k71 v = some out → W p l e (headSpec ws_Mo_request { frames := 3, cells := 0, slots := 0, locals := 62 }).room s m args below meth c H locs 0 0 (MQ below (QcV D A g (fun (_ : Unit) => w_Mo g a0 out ++ (rest))) args s 0 0 A) (F0 m 71 ls [])) (hl : lv_has ls 4 [(0, .ref (a0 0)), (2, .int x2)]) (hI : Iw D A (w_Mo g a0 s0 ++ (rest)) H) (hS : va_S A s.heap H locs) (h : B_Mo_request_153 k71 s0 x2 y0 = some out) : W p l e (headSpec ws_Mo_request { frames := 3, cells := 0, slots := 0, locals := 62 }).room s m args below meth c H locs 0 0 (MQ below (QcV D A g (fun (_ : Unit) => w_Mo g a0 out ++ (rest))) args s 0 0 A) (F0 m 153 ls [.int y0, .ref (a0 26)]) := by
  have X1 := X
  obtain ⟨hx, hb, hml, hown, hts, hr, hlocks, hKK⟩ := X1
  have ht : ∀ w ∈ TB, w.before args s = true := fun w h => hts w (List.mem_cons_of_mem _ h)
  have hK := hKK.1
  unfold B_Mo_request_153 at h
  refine lv_iconst (v := 0) hx hb d_Mo_request_153 (by decide) ?_
  refine lv_goto (tgt := 171) hx hb d_Mo_request_154 (by decide) ?_
  exact t_Mo_request_171 X hk71 (lv_sub hl [0, 1] rfl) hI hS h
set_option maxRecDepth 100000 in
set_option maxHeartbeats 4000000 in
theorem t_Mo_request_146 {p : Program} {l : Launch} {e : Env} {s : State} {m : MethodId} {args : Array Value} {below : List Frame} {meth : Method} {c : Code} {D : va_G} {A : Nat → Prop} {g : Nat → ClassId} {rest : va_W} {a0 : Nat → Nat} {ls : Array Slot} {H : Heap} {locs : List Loc} {k71 : S_Mo × Int32 → Option S_Mo} {s0 : S_Mo} {x2 : Int32} {x3 : Int32} {y0 : Int32} {out : S_Mo} (X : Cx p s m args meth c prog_11_method_37_code 4 ws_Mo_request R_Mo none D g) (hk71 : ∀ (v : S_Mo × Int32) (ls : Array Slot) (H : Heap) (locs : List Loc), lv_has ls 4 [(0, .ref (a0 0)), (2, .int v.2)] → Iw D A (w_Mo g a0 v.1 ++ (rest)) H → va_S A s.heap H locs → k71 v = some out → W p l e (headSpec ws_Mo_request { frames := 3, cells := 0, slots := 0, locals := 62 }).room s m args below meth c H locs 0 0 (MQ below (QcV D A g (fun (_ : Unit) => w_Mo g a0 out ++ (rest))) args s 0 0 A) (F0 m 71 ls [])) (hl : lv_has ls 4 [(0, .ref (a0 0)), (2, .int x2), (3, .int x3)]) (hI : Iw D A (w_Mo g a0 s0 ++ (rest)) H) (hS : va_S A s.heap H locs) (h : B_Mo_request_146 k71 s0 x2 x3 y0 = some out) : W p l e (headSpec ws_Mo_request { frames := 3, cells := 0, slots := 0, locals := 62 }).room s m args below meth c H locs 0 0 (MQ below (QcV D A g (fun (_ : Unit) => w_Mo g a0 out ++ (rest))) args s 0 0 A) (F0 m 146 ls [.int y0, .ref (a0 26)]) := by
  have X1 := X
  obtain ⟨hx, hb, hml, hown, hts, hr, hlocks, hKK⟩ := X1
  have ht : ∀ w ∈ TB, w.before args s = true := fun w h => hts w (List.mem_cons_of_mem _ h)
  have hK := hKK.1
  unfold B_Mo_request_146 at h
  refine lv_iload_n hx hb d_Mo_request_146 rfl (lv_at hl 2 rfl) ?_
  refine lv_iconst (v := 2) hx hb d_Mo_request_147 (by decide) ?_
  refine lv_irem hx hb d_Mo_request_148 (by decide) ?_
  refine lv_iconst (v := 1) hx hb d_Mo_request_149 (by decide) ?_
  refine lv_icmp_ne (tgt := 157) hx hb d_Mo_request_150 (by decide) (fun hc => ?_) (fun hc => ?_)
  · have h := it_f h hc
    exact t_Mo_request_157 X hk71 (lv_sub hl [0, 1, 2] rfl) hI hS h
  · have h := it_t h hc
    exact t_Mo_request_153 X hk71 (lv_sub hl [0, 1] rfl) hI hS h
set_option maxRecDepth 100000 in
set_option maxHeartbeats 4000000 in
theorem t_Mo_request_142 {p : Program} {l : Launch} {e : Env} {s : State} {m : MethodId} {args : Array Value} {below : List Frame} {meth : Method} {c : Code} {D : va_G} {A : Nat → Prop} {g : Nat → ClassId} {rest : va_W} {a0 : Nat → Nat} {ls : Array Slot} {H : Heap} {locs : List Loc} {k71 : S_Mo × Int32 → Option S_Mo} {s0 : S_Mo} {x2 : Int32} {y0 : Int32} {out : S_Mo} (X : Cx p s m args meth c prog_11_method_37_code 4 ws_Mo_request R_Mo none D g) (hk71 : ∀ (v : S_Mo × Int32) (ls : Array Slot) (H : Heap) (locs : List Loc), lv_has ls 4 [(0, .ref (a0 0)), (2, .int v.2)] → Iw D A (w_Mo g a0 v.1 ++ (rest)) H → va_S A s.heap H locs → k71 v = some out → W p l e (headSpec ws_Mo_request { frames := 3, cells := 0, slots := 0, locals := 62 }).room s m args below meth c H locs 0 0 (MQ below (QcV D A g (fun (_ : Unit) => w_Mo g a0 out ++ (rest))) args s 0 0 A) (F0 m 71 ls [])) (hl : lv_has ls 4 [(0, .ref (a0 0)), (2, .int x2)]) (hI : Iw D A (w_Mo g a0 s0 ++ (rest)) H) (hS : va_S A s.heap H locs) (h : B_Mo_request_142 k71 s0 x2 y0 = some out) : W p l e (headSpec ws_Mo_request { frames := 3, cells := 0, slots := 0, locals := 62 }).room s m args below meth c H locs 0 0 (MQ below (QcV D A g (fun (_ : Unit) => w_Mo g a0 out ++ (rest))) args s 0 0 A) (F0 m 142 ls [.int y0, .ref (a0 26)]) := by
  have X1 := X
  obtain ⟨hx, hb, hml, hown, hts, hr, hlocks, hKK⟩ := X1
  have ht : ∀ w ∈ TB, w.before args s = true := fun w h => hts w (List.mem_cons_of_mem _ h)
  have hK := hKK.1
  unfold B_Mo_request_142 at h
  refine lv_iconst (v := 2) hx hb d_Mo_request_142 (by decide) ?_
  refine lv_goto (tgt := 171) hx hb d_Mo_request_143 (by decide) ?_
  exact t_Mo_request_171 X hk71 (lv_sub hl [0, 1] rfl) hI hS h
set_option maxRecDepth 100000 in
set_option maxHeartbeats 4000000 in
theorem t_Mo_request_79 {p : Program} {l : Launch} {e : Env} {s : State} {m : MethodId} {args : Array Value} {below : List Frame} {meth : Method} {c : Code} {D : va_G} {A : Nat → Prop} {g : Nat → ClassId} {rest : va_W} {a0 : Nat → Nat} {ls : Array Slot} {H : Heap} {locs : List Loc} {k71 : S_Mo × Int32 → Option S_Mo} {s0 : S_Mo} {x2 : Int32} {out : S_Mo} (X : Cx p s m args meth c prog_11_method_37_code 4 ws_Mo_request R_Mo none D g) (hk71 : ∀ (v : S_Mo × Int32) (ls : Array Slot) (H : Heap) (locs : List Loc), lv_has ls 4 [(0, .ref (a0 0)), (2, .int v.2)] → Iw D A (w_Mo g a0 v.1 ++ (rest)) H → va_S A s.heap H locs → k71 v = some out → W p l e (headSpec ws_Mo_request { frames := 3, cells := 0, slots := 0, locals := 62 }).room s m args below meth c H locs 0 0 (MQ below (QcV D A g (fun (_ : Unit) => w_Mo g a0 out ++ (rest))) args s 0 0 A) (F0 m 71 ls [])) (hl : lv_has ls 4 [(0, .ref (a0 0)), (2, .int x2)]) (hI : Iw D A (w_Mo g a0 s0 ++ (rest)) H) (hS : va_S A s.heap H locs) (h : B_Mo_request_79 k71 s0 x2 = some out) : W p l e (headSpec ws_Mo_request { frames := 3, cells := 0, slots := 0, locals := 62 }).room s m args below meth c H locs 0 0 (MQ below (QcV D A g (fun (_ : Unit) => w_Mo g a0 out ++ (rest))) args s 0 0 A) (F0 m 79 ls []) := by
  have X1 := X
  obtain ⟨hx, hb, hml, hown, hts, hr, hlocks, hKK⟩ := X1
  have ht : ∀ w ∈ TB, w.before args s = true := fun w h => hts w (List.mem_cons_of_mem _ h)
  have hK := hKK.1
  unfold B_Mo_request_79 at h
  refine lv_aload_n hx hb d_Mo_request_79 rfl (lv_at hl 0 rfl) ?_
  refine gt_Mo_ids hx hb ht hown hK hI (ht _ m_851) d_Mo_request_80 ?_
  refine lv_iload_n hx hb d_Mo_request_83 rfl (lv_at hl 1 rfl) ?_
  refine lv_aload_n hx hb d_Mo_request_84 rfl (lv_at hl 0 rfl) ?_
  refine gt_Mo_input hx hb ht hown hK hI (ht _ m_846) d_Mo_request_85 ?_
  refine lv_iconst (v := 4) hx hb d_Mo_request_88 (by decide) ?_
  refine lv_iconst (v := 3) hx hb d_Mo_request_89 (by decide) ?_
  refine lv_iload_n hx hb d_Mo_request_90 rfl (lv_at hl 1 rfl) ?_
  refine lv_imul hx hb d_Mo_request_91 ?_
  refine lv_iadd hx hb d_Mo_request_92 ?_
  by_cases hc1 : (((4 : Int32) + ((3 : Int32) * x2)) < 0 ∨ 202 ≤ ((4 : Int32) + ((3 : Int32) * x2)).toNatClampNeg)
  · exact no_s (it_t h hc1)
  have h := it_f h hc1
  refine al_Mo_input hx hb hK hI hc1 d_Mo_request_93 ?_
  by_cases hc2 : (x2 < 0 ∨ 4 ≤ x2.toNatClampNeg)
  · exact no_s (it_t h hc2)
  have h := it_f h hc2
  refine as_Mo_ids hx hb hK hI hS hc2 d_Mo_request_94 (fun H locs hI hS => ?_)
  refine lv_aload_n hx hb d_Mo_request_95 rfl (lv_at hl 0 rfl) ?_
  refine gt_Mo_services hx hb ht hown hK hI (ht _ m_852) d_Mo_request_96 ?_
  refine lv_iload_n hx hb d_Mo_request_99 rfl (lv_at hl 1 rfl) ?_
  refine lv_aload_n hx hb d_Mo_request_100 rfl (lv_at hl 0 rfl) ?_
  refine gt_Mo_input hx hb ht hown hK hI (ht _ m_846) d_Mo_request_101 ?_
  refine lv_iconst (v := 5) hx hb d_Mo_request_104 (by decide) ?_
  refine lv_iconst (v := 3) hx hb d_Mo_request_105 (by decide) ?_
  refine lv_iload_n hx hb d_Mo_request_106 rfl (lv_at hl 1 rfl) ?_
  refine lv_imul hx hb d_Mo_request_107 ?_
  refine lv_iadd hx hb d_Mo_request_108 ?_
  by_cases hc3 : (((5 : Int32) + ((3 : Int32) * x2)) < 0 ∨ 202 ≤ ((5 : Int32) + ((3 : Int32) * x2)).toNatClampNeg)
  · exact no_s (it_t h hc3)
  have h := it_f h hc3
  refine al_Mo_input hx hb hK hI hc3 d_Mo_request_109 ?_
  by_cases hc4 : (x2 < 0 ∨ 4 ≤ x2.toNatClampNeg)
  · exact no_s (it_t h hc4)
  have h := it_f h hc4
  refine as_Mo_services hx hb hK hI hS hc4 d_Mo_request_110 (fun H locs hI hS => ?_)
  refine lv_aload_n hx hb d_Mo_request_111 rfl (lv_at hl 0 rfl) ?_
  refine gt_Mo_input hx hb ht hown hK hI (ht _ m_846) d_Mo_request_112 ?_
  refine lv_bipush (v := 6) hx hb d_Mo_request_115 (by decide) ?_
  refine lv_iconst (v := 3) hx hb d_Mo_request_117 (by decide) ?_
  refine lv_iload_n hx hb d_Mo_request_118 rfl (lv_at hl 1 rfl) ?_
  refine lv_imul hx hb d_Mo_request_119 ?_
  refine lv_iadd hx hb d_Mo_request_120 ?_
  by_cases hc5 : (((6 : Int32) + ((3 : Int32) * x2)) < 0 ∨ 202 ≤ ((6 : Int32) + ((3 : Int32) * x2)).toNatClampNeg)
  · exact no_s (it_t h hc5)
  have h := it_f h hc5
  refine al_Mo_input hx hb hK hI hc5 d_Mo_request_121 ?_
  refine lv_istore_n hx hb d_Mo_request_122 rfl hl (Nat.le_of_ble_eq_true rfl) rfl (fun ls hl => ?_)
  have hl : lv_has ls 4 [(3, .int ((Mo_input (Mo_set_services (Mo_set_ids s0 (upd (Mo_ids s0) x2.toNatClampNeg ((Mo_input s0) ((4 : Int32) + ((3 : Int32) * x2)).toNatClampNeg))) (upd (Mo_services (Mo_set_ids s0 (upd (Mo_ids s0) x2.toNatClampNeg ((Mo_input s0) ((4 : Int32) + ((3 : Int32) * x2)).toNatClampNeg)))) x2.toNatClampNeg ((Mo_input (Mo_set_ids s0 (upd (Mo_ids s0) x2.toNatClampNeg ((Mo_input s0) ((4 : Int32) + ((3 : Int32) * x2)).toNatClampNeg)))) ((5 : Int32) + ((3 : Int32) * x2)).toNatClampNeg)))) ((6 : Int32) + ((3 : Int32) * x2)).toNatClampNeg)), (0, .ref (a0 0)), (2, .int x2)] := hl
  refine lv_aload_n hx hb d_Mo_request_123 rfl (lv_at hl 1 rfl) ?_
  refine gt_Mo_results hx hb ht hown hK hI (ht _ m_853) d_Mo_request_124 ?_
  refine lv_iload_n hx hb d_Mo_request_127 rfl (lv_at hl 2 rfl) ?_
  refine lv_aload_n hx hb d_Mo_request_128 rfl (lv_at hl 1 rfl) ?_
  refine gt_Mo_services hx hb ht hown hK hI (ht _ m_852) d_Mo_request_129 ?_
  refine lv_iload_n hx hb d_Mo_request_132 rfl (lv_at hl 2 rfl) ?_
  by_cases hc6 : (x2 < 0 ∨ 4 ≤ x2.toNatClampNeg)
  · exact no_s (it_t h hc6)
  have h := it_f h hc6
  refine al_Mo_services hx hb hK hI hc6 d_Mo_request_133 ?_
  refine lv_iconst (v := 1) hx hb d_Mo_request_134 (by decide) ?_
  refine lv_iconst (v := 3) hx hb d_Mo_request_135 (by decide) ?_
  obtain ⟨o7, ho8, h⟩ := bd_s h
  refine cl_i (W1 := fun (_ : Unit) => w_Mo g a0 (Mo_set_services (Mo_set_ids s0 (upd (Mo_ids s0) x2.toNatClampNeg ((Mo_input s0) ((4 : Int32) + ((3 : Int32) * x2)).toNatClampNeg))) (upd (Mo_services (Mo_set_ids s0 (upd (Mo_ids s0) x2.toNatClampNeg ((Mo_input s0) ((4 : Int32) + ((3 : Int32) * x2)).toNatClampNeg)))) x2.toNatClampNeg ((Mo_input (Mo_set_ids s0 (upd (Mo_ids s0) x2.toNatClampNeg ((Mo_input s0) ((4 : Int32) + ((3 : Int32) * x2)).toNatClampNeg)))) ((5 : Int32) + ((3 : Int32) * x2)).toNatClampNeg))) ++ (rest)) (va_runS (As := [.int ((Mo_services (Mo_set_services (Mo_set_ids s0 (upd (Mo_ids s0) x2.toNatClampNeg ((Mo_input s0) ((4 : Int32) + ((3 : Int32) * x2)).toNatClampNeg))) (upd (Mo_services (Mo_set_ids s0 (upd (Mo_ids s0) x2.toNatClampNeg ((Mo_input s0) ((4 : Int32) + ((3 : Int32) * x2)).toNatClampNeg)))) x2.toNatClampNeg ((Mo_input (Mo_set_ids s0 (upd (Mo_ids s0) x2.toNatClampNeg ((Mo_input s0) ((4 : Int32) + ((3 : Int32) * x2)).toNatClampNeg)))) ((5 : Int32) + ((3 : Int32) * x2)).toNatClampNeg)))) x2.toNatClampNeg), .int (1 : Int32), .int (3 : Int32)]) (rest := [.int x2, .ref (a0 26)]) ⟨hx, hb, hml, hown, ht⟩ (c_Mo_in (l := l) (D := D) (A := A) (g := g) (rest := w_Mo g a0 (Mo_set_services (Mo_set_ids s0 (upd (Mo_ids s0) x2.toNatClampNeg ((Mo_input s0) ((4 : Int32) + ((3 : Int32) * x2)).toNatClampNeg))) (upd (Mo_services (Mo_set_ids s0 (upd (Mo_ids s0) x2.toNatClampNeg ((Mo_input s0) ((4 : Int32) + ((3 : Int32) * x2)).toNatClampNeg)))) x2.toNatClampNeg ((Mo_input (Mo_set_ids s0 (upd (Mo_ids s0) x2.toNatClampNeg ((Mo_input s0) ((4 : Int32) + ((3 : Int32) * x2)).toNatClampNeg)))) ((5 : Int32) + ((3 : Int32) * x2)).toNatClampNeg))) ++ (rest))  ho8) (va_cwS 3 ht (gd_S m_975 m_976 m_11 m_977) rfl rfl rfl (by decide +kernel) ⟨(Nat.le_of_ble_eq_true rfl), (Nat.le_of_ble_eq_true rfl)⟩) (prS hKK hI (List.Perm.refl _)) rfl rfl hl.1 rfl (lv_room (Nat.le_of_ble_eq_true rfl)) d_Mo_request_136 ⟨(Nat.le_of_ble_eq_true rfl), (Nat.le_of_ble_eq_true rfl)⟩) hS (fun _ => ((List.Perm.refl _)).symm) (fun _ H locs hI hS => ?_)
  have hI : Iw D A (w_Mo g a0 (Mo_set_services (Mo_set_ids s0 (upd (Mo_ids s0) x2.toNatClampNeg ((Mo_input s0) ((4 : Int32) + ((3 : Int32) * x2)).toNatClampNeg))) (upd (Mo_services (Mo_set_ids s0 (upd (Mo_ids s0) x2.toNatClampNeg ((Mo_input s0) ((4 : Int32) + ((3 : Int32) * x2)).toNatClampNeg)))) x2.toNatClampNeg ((Mo_input (Mo_set_ids s0 (upd (Mo_ids s0) x2.toNatClampNeg ((Mo_input s0) ((4 : Int32) + ((3 : Int32) * x2)).toNatClampNeg)))) ((5 : Int32) + ((3 : Int32) * x2)).toNatClampNeg))) ++ (rest)) H := hI
  refine lv_if_ne (tgt := 146) hx hb d_Mo_request_139 (by decide) (fun hc => ?_) (fun hc => ?_)
  · have h := it_f h hc
    exact t_Mo_request_146 X hk71 (lv_sub hl [1, 2, 0] rfl) hI hS h
  · have h := it_t h hc
    exact t_Mo_request_142 X hk71 (lv_sub hl [1, 2] rfl) hI hS h
set_option maxRecDepth 100000 in
set_option maxHeartbeats 4000000 in
theorem t_Mo_request_71 {p : Program} {l : Launch} {e : Env} {s : State} {m : MethodId} {args : Array Value} {below : List Frame} {meth : Method} {c : Code} {D : va_G} {A : Nat → Prop} {g : Nat → ClassId} {rest : va_W} {a0 : Nat → Nat} {ls : Array Slot} {H : Heap} {locs : List Loc} {k71 : S_Mo × Int32 → Option S_Mo} {s0 : S_Mo} {x2 : Int32} {out : S_Mo} (X : Cx p s m args meth c prog_11_method_37_code 4 ws_Mo_request R_Mo none D g) (hk71 : ∀ (v : S_Mo × Int32) (ls : Array Slot) (H : Heap) (locs : List Loc), lv_has ls 4 [(0, .ref (a0 0)), (2, .int v.2)] → Iw D A (w_Mo g a0 v.1 ++ (rest)) H → va_S A s.heap H locs → k71 v = some out → W p l e (headSpec ws_Mo_request { frames := 3, cells := 0, slots := 0, locals := 62 }).room s m args below meth c H locs 0 0 (MQ below (QcV D A g (fun (_ : Unit) => w_Mo g a0 out ++ (rest))) args s 0 0 A) (F0 m 71 ls [])) (hl : lv_has ls 4 [(0, .ref (a0 0)), (2, .int x2)]) (hI : Iw D A (w_Mo g a0 s0 ++ (rest)) H) (hS : va_S A s.heap H locs) (h : B_Mo_request_71 k71 s0 x2 = some out) : W p l e (headSpec ws_Mo_request { frames := 3, cells := 0, slots := 0, locals := 62 }).room s m args below meth c H locs 0 0 (MQ below (QcV D A g (fun (_ : Unit) => w_Mo g a0 out ++ (rest))) args s 0 0 A) (F0 m 71 ls []) := by
  have X1 := X
  obtain ⟨hx, hb, hml, hown, hts, hr, hlocks, hKK⟩ := X1
  have ht : ∀ w ∈ TB, w.before args s = true := fun w h => hts w (List.mem_cons_of_mem _ h)
  have hK := hKK.1
  unfold B_Mo_request_71 at h
  refine lv_iload_n hx hb d_Mo_request_71 rfl (lv_at hl 1 rfl) ?_
  refine lv_aload_n hx hb d_Mo_request_72 rfl (lv_at hl 0 rfl) ?_
  refine gt_Mo_contexts hx hb ht hown hK hI (ht _ m_850) d_Mo_request_73 ?_
  refine lv_icmp_ge (tgt := 198) hx hb d_Mo_request_76 (by decide) (fun hc => ?_) (fun hc => ?_)
  · have h := it_t h hc
    exact t_Mo_request_198 X (lv_sub hl [0] rfl) hI hS h
  · have h := it_f h hc
    exact t_Mo_request_79 X hk71 (lv_sub hl [0, 1] rfl) hI hS h
set_option maxRecDepth 100000 in
set_option maxHeartbeats 4000000 in
theorem T_Mo_request_71 {p : Program} {l : Launch} {e : Env} {s : State} {m : MethodId} {args : Array Value} {below : List Frame} {meth : Method} {c : Code} {D : va_G} {A : Nat → Prop} {g : Nat → ClassId} {rest : va_W} {a0 : Nat → Nat} {ls : Array Slot} {H : Heap} {locs : List Loc} {s0 : S_Mo} {x2 : Int32} {out : S_Mo} (X : Cx p s m args meth c prog_11_method_37_code 4 ws_Mo_request R_Mo none D g) (hl : lv_has ls 4 [(0, .ref (a0 0)), (2, .int x2)]) (hI : Iw D A (w_Mo g a0 s0 ++ (rest)) H) (hS : va_S A s.heap H locs) (h : L_Mo_request_71   (s0, x2) = some out) : W p l e (headSpec ws_Mo_request { frames := 3, cells := 0, slots := 0, locals := 62 }).room s m args below meth c H locs 0 0 (MQ below (QcV D A g (fun (_ : Unit) => w_Mo g a0 out ++ (rest))) args s 0 0 A) (F0 m 71 ls []) := by
  unfold L_Mo_request_71 at h
  exact lp_ind (P := fun v => ∀ (ls : Array Slot) (H : Heap) (locs : List Loc), lv_has ls 4 [(0, .ref (a0 0)), (2, .int v.2)] → Iw D A (w_Mo g a0 v.1 ++ (rest)) H → va_S A s.heap H locs → W p l e (headSpec ws_Mo_request { frames := 3, cells := 0, slots := 0, locals := 62 }).room s m args below meth c H locs 0 0 (MQ below (QcV D A g (fun (_ : Unit) => w_Mo g a0 out ++ (rest))) args s 0 0 A) (F0 m 71 ls [])) (fun k v ih hb ls H locs  hl hI hS => t_Mo_request_71 X  (fun v' ls H locs  hl hI hS h' => ih v' h' ls H locs  hl hI hS) hl hI hS hb) FU _ h ls H locs  hl hI hS
set_option maxRecDepth 100000 in
set_option maxHeartbeats 4000000 in
theorem t_Mo_request_60 {p : Program} {l : Launch} {e : Env} {s : State} {m : MethodId} {args : Array Value} {below : List Frame} {meth : Method} {c : Code} {D : va_G} {A : Nat → Prop} {g : Nat → ClassId} {rest : va_W} {a0 : Nat → Nat} {ls : Array Slot} {H : Heap} {locs : List Loc} {s0 : S_Mo} {x1 : Int32} {out : S_Mo} (X : Cx p s m args meth c prog_11_method_37_code 4 ws_Mo_request R_Mo none D g) (hl : lv_has ls 4 [(0, .ref (a0 0)), (1, .int x1)]) (hI : Iw D A (w_Mo g a0 s0 ++ (rest)) H) (hS : va_S A s.heap H locs) (h : B_Mo_request_60  s0 x1 = some out) : W p l e (headSpec ws_Mo_request { frames := 3, cells := 0, slots := 0, locals := 62 }).room s m args below meth c H locs 0 0 (MQ below (QcV D A g (fun (_ : Unit) => w_Mo g a0 out ++ (rest))) args s 0 0 A) (F0 m 60 ls []) := by
  have X1 := X
  obtain ⟨hx, hb, hml, hown, hts, hr, hlocks, hKK⟩ := X1
  have ht : ∀ w ∈ TB, w.before args s = true := fun w h => hts w (List.mem_cons_of_mem _ h)
  have hK := hKK.1
  unfold B_Mo_request_60 at h
  refine lv_aload_n hx hb d_Mo_request_60 rfl (lv_at hl 0 rfl) ?_
  refine lv_iload_n hx hb d_Mo_request_61 rfl (lv_at hl 1 rfl) ?_
  refine lv_iconst (v := 2) hx hb d_Mo_request_62 (by decide) ?_
  refine lv_isub hx hb d_Mo_request_63 ?_
  refine lv_iconst (v := 3) hx hb d_Mo_request_64 (by decide) ?_
  refine lv_idiv hx hb d_Mo_request_65 (by decide) ?_
  refine pt_Mo_contexts hx hb ht hown hK hI hS (ht _ m_850) d_Mo_request_66 (fun H locs hI hS => ?_)
  refine lv_iconst (v := 0) hx hb d_Mo_request_69 (by decide) ?_
  refine lv_istore_n hx hb d_Mo_request_70 rfl hl (Nat.le_of_ble_eq_true rfl) rfl (fun ls hl => ?_)
  have hl : lv_has ls 4 [(2, .int (0 : Int32)), (0, .ref (a0 0)), (1, .int x1)] := hl
  exact T_Mo_request_71 X (lv_sub hl [1, 0] rfl) hI hS h
set_option maxRecDepth 100000 in
set_option maxHeartbeats 4000000 in
theorem t_Mo_request_16 {p : Program} {l : Launch} {e : Env} {s : State} {m : MethodId} {args : Array Value} {below : List Frame} {meth : Method} {c : Code} {D : va_G} {A : Nat → Prop} {g : Nat → ClassId} {rest : va_W} {a0 : Nat → Nat} {ls : Array Slot} {H : Heap} {locs : List Loc} {s0 : S_Mo} {x1 : Int32} {out : S_Mo} (X : Cx p s m args meth c prog_11_method_37_code 4 ws_Mo_request R_Mo none D g) (hl : lv_has ls 4 [(0, .ref (a0 0)), (1, .int x1)]) (hI : Iw D A (w_Mo g a0 s0 ++ (rest)) H) (hS : va_S A s.heap H locs) (h : B_Mo_request_16  s0 x1 = some out) : W p l e (headSpec ws_Mo_request { frames := 3, cells := 0, slots := 0, locals := 62 }).room s m args below meth c H locs 0 0 (MQ below (QcV D A g (fun (_ : Unit) => w_Mo g a0 out ++ (rest))) args s 0 0 A) (F0 m 16 ls []) := by
  have X1 := X
  obtain ⟨hx, hb, hml, hown, hts, hr, hlocks, hKK⟩ := X1
  have ht : ∀ w ∈ TB, w.before args s = true := fun w h => hts w (List.mem_cons_of_mem _ h)
  have hK := hKK.1
  unfold B_Mo_request_16 at h
  refine lv_aload_n hx hb d_Mo_request_16 rfl (lv_at hl 0 rfl) ?_
  refine gt_Mo_input hx hb ht hown hK hI (ht _ m_846) d_Mo_request_17 ?_
  refine lv_iconst (v := 3) hx hb d_Mo_request_20 (by decide) ?_
  by_cases hc1 : ((3 : Int32) < 0 ∨ 202 ≤ (3 : Int32).toNatClampNeg)
  · exact no_s (it_t h hc1)
  have h := it_f h hc1
  refine al_Mo_input hx hb hK hI hc1 d_Mo_request_21 ?_
  refine lv_iconst (v := 1) hx hb d_Mo_request_22 (by decide) ?_
  refine lv_icmp_eq (tgt := 60) hx hb d_Mo_request_23 (by decide) (fun hc => ?_) (fun hc => ?_)
  · have h := it_t h hc
    exact t_Mo_request_60 X (lv_sub hl [0, 1] rfl) hI hS h
  · have h := it_f h hc
    exact t_Mo_request_26 X (lv_sub hl [0] rfl) hI hS h
set_option maxRecDepth 100000 in
set_option maxHeartbeats 4000000 in
theorem t_Mo_request_0 {p : Program} {l : Launch} {e : Env} {s : State} {m : MethodId} {args : Array Value} {below : List Frame} {meth : Method} {c : Code} {D : va_G} {A : Nat → Prop} {g : Nat → ClassId} {rest : va_W} {a0 : Nat → Nat} {ls : Array Slot} {H : Heap} {locs : List Loc} {s0 : S_Mo} {x1 : Int32} {out : S_Mo} (X : Cx p s m args meth c prog_11_method_37_code 4 ws_Mo_request R_Mo none D g) (hl : lv_has ls 4 [(0, .ref (a0 0)), (1, .int x1)]) (hI : Iw D A (w_Mo g a0 s0 ++ (rest)) H) (hS : va_S A s.heap H locs) (h : B_Mo_request_0  s0 x1 = some out) : W p l e (headSpec ws_Mo_request { frames := 3, cells := 0, slots := 0, locals := 62 }).room s m args below meth c H locs 0 0 (MQ below (QcV D A g (fun (_ : Unit) => w_Mo g a0 out ++ (rest))) args s 0 0 A) (F0 m 0 ls []) := by
  have X1 := X
  obtain ⟨hx, hb, hml, hown, hts, hr, hlocks, hKK⟩ := X1
  have ht : ∀ w ∈ TB, w.before args s = true := fun w h => hts w (List.mem_cons_of_mem _ h)
  have hK := hKK.1
  unfold B_Mo_request_0 at h
  refine lv_aload_n hx hb d_Mo_request_0 rfl (lv_at hl 0 rfl) ?_
  refine lv_iconst (v := 0) hx hb d_Mo_request_1 (by decide) ?_
  refine pt_Mo_makes hx hb ht hown hK hI hS (ht _ m_843) d_Mo_request_2 (fun H locs hI hS => ?_)
  refine lv_aload_n hx hb d_Mo_request_5 rfl (lv_at hl 0 rfl) ?_
  refine gt_Mo_input hx hb ht hown hK hI (ht _ m_846) d_Mo_request_6 ?_
  refine lv_iconst (v := 2) hx hb d_Mo_request_9 (by decide) ?_
  by_cases hc1 : ((2 : Int32) < 0 ∨ 202 ≤ (2 : Int32).toNatClampNeg)
  · exact no_s (it_t h hc1)
  have h := it_f h hc1
  refine al_Mo_input hx hb hK hI hc1 d_Mo_request_10 ?_
  refine lv_iconst (v := 2) hx hb d_Mo_request_11 (by decide) ?_
  refine lv_irem hx hb d_Mo_request_12 (by decide) ?_
  refine lv_if_eq (tgt := 26) hx hb d_Mo_request_13 (by decide) (fun hc => ?_) (fun hc => ?_)
  · have h := it_t h hc
    exact t_Mo_request_26 X (lv_sub hl [0] rfl) hI hS h
  · have h := it_f h hc
    exact t_Mo_request_16 X (lv_sub hl [0, 1] rfl) hI hS h
set_option maxRecDepth 100000 in
set_option maxHeartbeats 4000000 in
theorem c_Mo_request {l : Launch} {D : va_G} {A : Nat → Prop} {g : Nat → ClassId} {rest : va_W} {a0 : Nat → Nat} {s0 : S_Mo} {x1 : Int32} {out : S_Mo} (h : F_Mo_request s0 x1 = some out) : Met l y_Mo_request ws_Mo_request { frames := 3, cells := 0, slots := 0, locals := 62 } (PcW D A g [.ref (a0 0), .int x1] (w_Mo g a0 s0 ++ (rest))) (QcV D A g (fun (_ : Unit) => w_Mo g a0 out ++ (rest))) 0 0 A := by
  refine Met.ofW (cc := prog_11_method_37_code) (maxL := 4) (ret := none) (by decide) rfl ?_
  intro p e s m args below meth c s₁ B hml hv
  obtain ⟨rfl, hI, hK⟩ := hv
  have hl := lv_entry [.ref (a0 0), .int x1] (n := 4) (Nat.le_of_ble_eq_true rfl)
  rw [lg_entry_eq]
  generalize (lg_sl [.ref (a0 0), .int x1] ++ List.replicate (4 - (lg_sl [.ref (a0 0), .int x1]).length) Slot.unset).toArray = ls at hl ⊢
  have hl : lv_has ls 4 [(0, .ref (a0 0)), (1, .int x1)] := hl
  exact t_Mo_request_0 ⟨B.exec, B.bytes, hml, findClass_of_methodNamed B.named, atoms_spec (ws := ws_Mo_request) B.pre, B.returns, B.notSynchronized, hK⟩ (lv_sub hl [0, 1] rfl) hI va_S.rf h
def ws_Mo_piece : List Cond := .code y_Mo_piece prog_11_method_35_code 3 none :: TB
def B_Mo_piece_101 (s0 : S_Mo) : Option S_Mo :=
  some s0
def B_Mo_piece_97 (s0 : S_Mo) : Option S_Mo :=
  ((F_Mo_breakOff s0).bind fun o1 => (B_Mo_piece_101 o1))
def B_Mo_piece_89 (s0 : S_Mo) (x2 : Int32) : Option S_Mo :=
  ((F_Mo_fragment s0 x2).bind fun o1 => (if o1.1 = 0 then (B_Mo_piece_97 o1.2) else (B_Mo_piece_101 o1.2)))
def B_Mo_piece_84 (s0 : S_Mo) (x1 : Int32) (x2 : Int32) : Option S_Mo :=
  (if x1 = (4 : Int32) then (B_Mo_piece_89 s0 x2) else (B_Mo_piece_97 s0))
def B_Mo_piece_76 (s0 : S_Mo) : Option S_Mo :=
  ((F_Mo_comesTo s0 (3 : Int32)).bind fun o1 => (B_Mo_piece_101 o1))
def B_Mo_piece_62 (s0 : S_Mo) : Option S_Mo :=
  ((F_Mo_sends (Mo_set_makes s0 (0 : Int32)) (6 : Int32)).bind fun o1 => (if o1.1 = 0 then (B_Mo_piece_101 o1.2) else (B_Mo_piece_76 o1.2)))
def B_Mo_piece_57 (s0 : S_Mo) (x1 : Int32) (x2 : Int32) : Option S_Mo :=
  (if x1 = (5 : Int32) then (B_Mo_piece_62 s0) else (B_Mo_piece_84 s0 x1 x2))
def B_Mo_piece_49 (s0 : S_Mo) (x1 : Int32) (x2 : Int32) : Option S_Mo :=
  (if (Mo_line s0) = (2 : Int32) then (B_Mo_piece_57 s0 x1 x2) else (B_Mo_piece_101 s0))
def B_Mo_piece_42 (s0 : S_Mo) : Option S_Mo :=
  ((F_Mo_breakOff s0).bind fun o1 => (B_Mo_piece_101 o1))
def B_Mo_piece_34 (s0 : S_Mo) (x2 : Int32) : Option S_Mo :=
  ((F_Mo_request s0 x2).bind fun o1 => (B_Mo_piece_101 o1))
def B_Mo_piece_26 (s0 : S_Mo) (x2 : Int32) : Option S_Mo :=
  ((F_Mo_isRequest s0 x2).bind fun o1 => (if o1 = 0 then (B_Mo_piece_42 s0) else (B_Mo_piece_34 s0 x2)))
def B_Mo_piece_21 (s0 : S_Mo) (x1 : Int32) (x2 : Int32) : Option S_Mo :=
  (if x1 = (1 : Int32) then (B_Mo_piece_26 s0 x2) else (B_Mo_piece_42 s0))
def B_Mo_piece_13 (s0 : S_Mo) (x1 : Int32) (x2 : Int32) : Option S_Mo :=
  (if (Mo_line s0) = (1 : Int32) then (B_Mo_piece_21 s0 x1 x2) else (B_Mo_piece_49 s0 x1 x2))
def B_Mo_piece_6 (s0 : S_Mo) : Option S_Mo :=
  ((F_Mo_shut s0).bind fun o1 => (B_Mo_piece_101 o1))
def B_Mo_piece_0 (s0 : S_Mo) (x1 : Int32) (x2 : Int32) : Option S_Mo :=
  (if x1 = (7 : Int32) then (B_Mo_piece_6 s0) else (B_Mo_piece_13 s0 x1 x2))
def F_Mo_piece (s0 : S_Mo) (x1 : Int32) (x2 : Int32) : Option S_Mo := B_Mo_piece_0 s0 x1 x2
set_option maxRecDepth 100000 in
set_option maxHeartbeats 4000000 in
theorem t_Mo_piece_101 {p : Program} {l : Launch} {e : Env} {s : State} {m : MethodId} {args : Array Value} {below : List Frame} {meth : Method} {c : Code} {D : va_G} {A : Nat → Prop} {g : Nat → ClassId} {rest : va_W} {a0 : Nat → Nat} {ls : Array Slot} {H : Heap} {locs : List Loc} {s0 : S_Mo} {out : S_Mo} (X : Cx p s m args meth c prog_11_method_35_code 3 ws_Mo_piece R_Mo none D g) (hl : lv_has ls 3 []) (hI : Iw D A (w_Mo g a0 s0 ++ (rest)) H) (hS : va_S A s.heap H locs) (h : B_Mo_piece_101  s0 = some out) : W p l e (headSpec ws_Mo_piece { frames := 11, cells := 0, slots := 0, locals := 273 }).room s m args below meth c H locs 0 0 (MQ below (QcV D A g (fun (_ : Unit) => w_Mo g a0 out ++ (rest))) args s 0 0 A) (F0 m 101 ls []) := by
  have X1 := X
  obtain ⟨hx, hb, hml, hown, hts, hr, hlocks, hKK⟩ := X1
  have ht : ∀ w ∈ TB, w.before args s = true := fun w h => hts w (List.mem_cons_of_mem _ h)
  have hK := hKK.1
  unfold B_Mo_piece_101 at h
  have h9 := Option.some.inj h
  subst h9
  exact W.vret hx hb hr (fun t ht hW => ⟨⟨(), rfl, trivial, ⟨by rw [ht]; exact hI, hKK.moved hW⟩⟩, hS.F ht⟩) hS.2.2 d_Mo_piece_101
set_option maxRecDepth 100000 in
set_option maxHeartbeats 4000000 in
theorem t_Mo_piece_97 {p : Program} {l : Launch} {e : Env} {s : State} {m : MethodId} {args : Array Value} {below : List Frame} {meth : Method} {c : Code} {D : va_G} {A : Nat → Prop} {g : Nat → ClassId} {rest : va_W} {a0 : Nat → Nat} {ls : Array Slot} {H : Heap} {locs : List Loc} {s0 : S_Mo} {out : S_Mo} (X : Cx p s m args meth c prog_11_method_35_code 3 ws_Mo_piece R_Mo none D g) (hl : lv_has ls 3 [(0, .ref (a0 0))]) (hI : Iw D A (w_Mo g a0 s0 ++ (rest)) H) (hS : va_S A s.heap H locs) (h : B_Mo_piece_97  s0 = some out) : W p l e (headSpec ws_Mo_piece { frames := 11, cells := 0, slots := 0, locals := 273 }).room s m args below meth c H locs 0 0 (MQ below (QcV D A g (fun (_ : Unit) => w_Mo g a0 out ++ (rest))) args s 0 0 A) (F0 m 97 ls []) := by
  have X1 := X
  obtain ⟨hx, hb, hml, hown, hts, hr, hlocks, hKK⟩ := X1
  have ht : ∀ w ∈ TB, w.before args s = true := fun w h => hts w (List.mem_cons_of_mem _ h)
  have hK := hKK.1
  unfold B_Mo_piece_97 at h
  refine lv_aload_n hx hb d_Mo_piece_97 rfl (lv_at hl 0 rfl) ?_
  obtain ⟨o1, ho2, h⟩ := bd_s h
  refine cl_v (W1 := fun (_ : Unit) => w_Mo g a0 o1 ++ (rest)) (va_runV (As := []) (rest := []) ⟨hx, hb, hml, hown, ht⟩ (c_Mo_breakOff (l := l) (D := D) (A := A) (g := g) (rest := rest) (a0 := a0) ho2) (cwV 0 ht (gd_V m_1088 m_1090 mp_56 m_11 m_1091) rfl rfl rfl (by decide +kernel) ⟨(Nat.le_of_ble_eq_true rfl), (Nat.le_of_ble_eq_true rfl)⟩) (prV (ci := 9) (q0 := 0) hKK hI (List.Perm.refl _) rfl rfl rfl) rfl rfl hl.1 rfl (lv_room (Nat.le_of_ble_eq_true rfl)) d_Mo_piece_98 ⟨(Nat.le_of_ble_eq_true rfl), (Nat.le_of_ble_eq_true rfl)⟩) hS (fun _ => ((List.Perm.refl _)).symm) (fun _ H locs hI hS => ?_)
  have hI : Iw D A (w_Mo g a0 o1 ++ (rest)) H := hI
  exact t_Mo_piece_101 X (lv_sub hl [] rfl) hI hS h
set_option maxRecDepth 100000 in
set_option maxHeartbeats 4000000 in
theorem t_Mo_piece_89 {p : Program} {l : Launch} {e : Env} {s : State} {m : MethodId} {args : Array Value} {below : List Frame} {meth : Method} {c : Code} {D : va_G} {A : Nat → Prop} {g : Nat → ClassId} {rest : va_W} {a0 : Nat → Nat} {ls : Array Slot} {H : Heap} {locs : List Loc} {s0 : S_Mo} {x2 : Int32} {out : S_Mo} (X : Cx p s m args meth c prog_11_method_35_code 3 ws_Mo_piece R_Mo none D g) (hl : lv_has ls 3 [(0, .ref (a0 0)), (2, .int x2)]) (hI : Iw D A (w_Mo g a0 s0 ++ (rest)) H) (hS : va_S A s.heap H locs) (h : B_Mo_piece_89  s0 x2 = some out) : W p l e (headSpec ws_Mo_piece { frames := 11, cells := 0, slots := 0, locals := 273 }).room s m args below meth c H locs 0 0 (MQ below (QcV D A g (fun (_ : Unit) => w_Mo g a0 out ++ (rest))) args s 0 0 A) (F0 m 89 ls []) := by
  have X1 := X
  obtain ⟨hx, hb, hml, hown, hts, hr, hlocks, hKK⟩ := X1
  have ht : ∀ w ∈ TB, w.before args s = true := fun w h => hts w (List.mem_cons_of_mem _ h)
  have hK := hKK.1
  unfold B_Mo_piece_89 at h
  refine lv_aload_n hx hb d_Mo_piece_89 rfl (lv_at hl 0 rfl) ?_
  refine lv_iload_n hx hb d_Mo_piece_90 rfl (lv_at hl 1 rfl) ?_
  obtain ⟨o1, ho2, h⟩ := bd_s h
  refine cl_i (W1 := fun (_ : Unit) => w_Mo g a0 o1.2 ++ (rest)) (va_runV (As := [.int x2]) (rest := []) ⟨hx, hb, hml, hown, ht⟩ (c_Mo_fragment (l := l) (D := D) (A := A) (g := g) (rest := rest) (a0 := a0) ho2) (cwV 1 ht (gd_V m_1108 m_1110 mp_61 m_11 m_1111) rfl rfl rfl (by decide +kernel) ⟨(Nat.le_of_ble_eq_true rfl), (Nat.le_of_ble_eq_true rfl)⟩) (prV (ci := 9) (q0 := 0) hKK hI (List.Perm.refl _) rfl rfl rfl) rfl rfl hl.1 rfl (lv_room (Nat.le_of_ble_eq_true rfl)) d_Mo_piece_91 ⟨(Nat.le_of_ble_eq_true rfl), (Nat.le_of_ble_eq_true rfl)⟩) hS (fun _ => ((List.Perm.refl _)).symm) (fun _ H locs hI hS => ?_)
  have hI : Iw D A (w_Mo g a0 o1.2 ++ (rest)) H := hI
  refine lv_if_ne (tgt := 101) hx hb d_Mo_piece_94 (by decide) (fun hc => ?_) (fun hc => ?_)
  · have h := it_f h hc
    exact t_Mo_piece_101 X (lv_sub hl [] rfl) hI hS h
  · have h := it_t h hc
    exact t_Mo_piece_97 X (lv_sub hl [0] rfl) hI hS h
set_option maxRecDepth 100000 in
set_option maxHeartbeats 4000000 in
theorem t_Mo_piece_84 {p : Program} {l : Launch} {e : Env} {s : State} {m : MethodId} {args : Array Value} {below : List Frame} {meth : Method} {c : Code} {D : va_G} {A : Nat → Prop} {g : Nat → ClassId} {rest : va_W} {a0 : Nat → Nat} {ls : Array Slot} {H : Heap} {locs : List Loc} {s0 : S_Mo} {x1 : Int32} {x2 : Int32} {out : S_Mo} (X : Cx p s m args meth c prog_11_method_35_code 3 ws_Mo_piece R_Mo none D g) (hl : lv_has ls 3 [(0, .ref (a0 0)), (1, .int x1), (2, .int x2)]) (hI : Iw D A (w_Mo g a0 s0 ++ (rest)) H) (hS : va_S A s.heap H locs) (h : B_Mo_piece_84  s0 x1 x2 = some out) : W p l e (headSpec ws_Mo_piece { frames := 11, cells := 0, slots := 0, locals := 273 }).room s m args below meth c H locs 0 0 (MQ below (QcV D A g (fun (_ : Unit) => w_Mo g a0 out ++ (rest))) args s 0 0 A) (F0 m 84 ls []) := by
  have X1 := X
  obtain ⟨hx, hb, hml, hown, hts, hr, hlocks, hKK⟩ := X1
  have ht : ∀ w ∈ TB, w.before args s = true := fun w h => hts w (List.mem_cons_of_mem _ h)
  have hK := hKK.1
  unfold B_Mo_piece_84 at h
  refine lv_iload_n hx hb d_Mo_piece_84 rfl (lv_at hl 1 rfl) ?_
  refine lv_iconst (v := 4) hx hb d_Mo_piece_85 (by decide) ?_
  refine lv_icmp_ne (tgt := 97) hx hb d_Mo_piece_86 (by decide) (fun hc => ?_) (fun hc => ?_)
  · have h := it_f h hc
    exact t_Mo_piece_97 X (lv_sub hl [0] rfl) hI hS h
  · have h := it_t h hc
    exact t_Mo_piece_89 X (lv_sub hl [0, 2] rfl) hI hS h
set_option maxRecDepth 100000 in
set_option maxHeartbeats 4000000 in
theorem t_Mo_piece_76 {p : Program} {l : Launch} {e : Env} {s : State} {m : MethodId} {args : Array Value} {below : List Frame} {meth : Method} {c : Code} {D : va_G} {A : Nat → Prop} {g : Nat → ClassId} {rest : va_W} {a0 : Nat → Nat} {ls : Array Slot} {H : Heap} {locs : List Loc} {s0 : S_Mo} {out : S_Mo} (X : Cx p s m args meth c prog_11_method_35_code 3 ws_Mo_piece R_Mo none D g) (hl : lv_has ls 3 [(0, .ref (a0 0))]) (hI : Iw D A (w_Mo g a0 s0 ++ (rest)) H) (hS : va_S A s.heap H locs) (h : B_Mo_piece_76  s0 = some out) : W p l e (headSpec ws_Mo_piece { frames := 11, cells := 0, slots := 0, locals := 273 }).room s m args below meth c H locs 0 0 (MQ below (QcV D A g (fun (_ : Unit) => w_Mo g a0 out ++ (rest))) args s 0 0 A) (F0 m 76 ls []) := by
  have X1 := X
  obtain ⟨hx, hb, hml, hown, hts, hr, hlocks, hKK⟩ := X1
  have ht : ∀ w ∈ TB, w.before args s = true := fun w h => hts w (List.mem_cons_of_mem _ h)
  have hK := hKK.1
  unfold B_Mo_piece_76 at h
  refine lv_aload_n hx hb d_Mo_piece_76 rfl (lv_at hl 0 rfl) ?_
  refine lv_iconst (v := 3) hx hb d_Mo_piece_77 (by decide) ?_
  obtain ⟨o1, ho2, h⟩ := bd_s h
  refine cl_v (W1 := fun (_ : Unit) => w_Mo g a0 o1 ++ (rest)) (va_runV (As := [.int (3 : Int32)]) (rest := []) ⟨hx, hb, hml, hown, ht⟩ (c_Mo_comesTo (l := l) (D := D) (A := A) (g := g) (rest := rest) (a0 := a0) ho2) (cwV 1 ht (gd_V m_1064 m_1066 mp_52 m_11 m_1067) rfl rfl rfl (by decide +kernel) ⟨(Nat.le_of_ble_eq_true rfl), (Nat.le_of_ble_eq_true rfl)⟩) (prV (ci := 9) (q0 := 0) hKK hI (List.Perm.refl _) rfl rfl rfl) rfl rfl hl.1 rfl (lv_room (Nat.le_of_ble_eq_true rfl)) d_Mo_piece_78 ⟨(Nat.le_of_ble_eq_true rfl), (Nat.le_of_ble_eq_true rfl)⟩) hS (fun _ => ((List.Perm.refl _)).symm) (fun _ H locs hI hS => ?_)
  have hI : Iw D A (w_Mo g a0 o1 ++ (rest)) H := hI
  refine lv_goto (tgt := 101) hx hb d_Mo_piece_81 (by decide) ?_
  exact t_Mo_piece_101 X (lv_sub hl [] rfl) hI hS h
set_option maxRecDepth 100000 in
set_option maxHeartbeats 4000000 in
theorem t_Mo_piece_62 {p : Program} {l : Launch} {e : Env} {s : State} {m : MethodId} {args : Array Value} {below : List Frame} {meth : Method} {c : Code} {D : va_G} {A : Nat → Prop} {g : Nat → ClassId} {rest : va_W} {a0 : Nat → Nat} {ls : Array Slot} {H : Heap} {locs : List Loc} {s0 : S_Mo} {out : S_Mo} (X : Cx p s m args meth c prog_11_method_35_code 3 ws_Mo_piece R_Mo none D g) (hl : lv_has ls 3 [(0, .ref (a0 0))]) (hI : Iw D A (w_Mo g a0 s0 ++ (rest)) H) (hS : va_S A s.heap H locs) (h : B_Mo_piece_62  s0 = some out) : W p l e (headSpec ws_Mo_piece { frames := 11, cells := 0, slots := 0, locals := 273 }).room s m args below meth c H locs 0 0 (MQ below (QcV D A g (fun (_ : Unit) => w_Mo g a0 out ++ (rest))) args s 0 0 A) (F0 m 62 ls []) := by
  have X1 := X
  obtain ⟨hx, hb, hml, hown, hts, hr, hlocks, hKK⟩ := X1
  have ht : ∀ w ∈ TB, w.before args s = true := fun w h => hts w (List.mem_cons_of_mem _ h)
  have hK := hKK.1
  unfold B_Mo_piece_62 at h
  refine lv_aload_n hx hb d_Mo_piece_62 rfl (lv_at hl 0 rfl) ?_
  refine lv_iconst (v := 0) hx hb d_Mo_piece_63 (by decide) ?_
  refine pt_Mo_makes hx hb ht hown hK hI hS (ht _ m_843) d_Mo_piece_64 (fun H locs hI hS => ?_)
  refine lv_aload_n hx hb d_Mo_piece_67 rfl (lv_at hl 0 rfl) ?_
  refine lv_bipush (v := 6) hx hb d_Mo_piece_68 (by decide) ?_
  obtain ⟨o1, ho2, h⟩ := bd_s h
  refine cl_i (W1 := fun (_ : Unit) => w_Mo g a0 o1.2 ++ (rest)) (va_runV (As := [.int (6 : Int32)]) (rest := []) ⟨hx, hb, hml, hown, ht⟩ (c_Mo_sends (l := l) (D := D) (A := A) (g := g) (rest := rest) (a0 := a0) ho2) (cwV 1 ht (gd_V m_1092 m_1094 mp_57 m_11 m_1095) rfl rfl rfl (by decide +kernel) ⟨(Nat.le_of_ble_eq_true rfl), (Nat.le_of_ble_eq_true rfl)⟩) (prV (ci := 9) (q0 := 0) hKK hI (List.Perm.refl _) rfl rfl rfl) rfl rfl hl.1 rfl (lv_room (Nat.le_of_ble_eq_true rfl)) d_Mo_piece_70 ⟨(Nat.le_of_ble_eq_true rfl), (Nat.le_of_ble_eq_true rfl)⟩) hS (fun _ => ((List.Perm.refl _)).symm) (fun _ H locs hI hS => ?_)
  have hI : Iw D A (w_Mo g a0 o1.2 ++ (rest)) H := hI
  refine lv_if_eq (tgt := 101) hx hb d_Mo_piece_73 (by decide) (fun hc => ?_) (fun hc => ?_)
  · have h := it_t h hc
    exact t_Mo_piece_101 X (lv_sub hl [] rfl) hI hS h
  · have h := it_f h hc
    exact t_Mo_piece_76 X (lv_sub hl [0] rfl) hI hS h
set_option maxRecDepth 100000 in
set_option maxHeartbeats 4000000 in
theorem t_Mo_piece_57 {p : Program} {l : Launch} {e : Env} {s : State} {m : MethodId} {args : Array Value} {below : List Frame} {meth : Method} {c : Code} {D : va_G} {A : Nat → Prop} {g : Nat → ClassId} {rest : va_W} {a0 : Nat → Nat} {ls : Array Slot} {H : Heap} {locs : List Loc} {s0 : S_Mo} {x1 : Int32} {x2 : Int32} {out : S_Mo} (X : Cx p s m args meth c prog_11_method_35_code 3 ws_Mo_piece R_Mo none D g) (hl : lv_has ls 3 [(0, .ref (a0 0)), (1, .int x1), (2, .int x2)]) (hI : Iw D A (w_Mo g a0 s0 ++ (rest)) H) (hS : va_S A s.heap H locs) (h : B_Mo_piece_57  s0 x1 x2 = some out) : W p l e (headSpec ws_Mo_piece { frames := 11, cells := 0, slots := 0, locals := 273 }).room s m args below meth c H locs 0 0 (MQ below (QcV D A g (fun (_ : Unit) => w_Mo g a0 out ++ (rest))) args s 0 0 A) (F0 m 57 ls []) := by
  have X1 := X
  obtain ⟨hx, hb, hml, hown, hts, hr, hlocks, hKK⟩ := X1
  have ht : ∀ w ∈ TB, w.before args s = true := fun w h => hts w (List.mem_cons_of_mem _ h)
  have hK := hKK.1
  unfold B_Mo_piece_57 at h
  refine lv_iload_n hx hb d_Mo_piece_57 rfl (lv_at hl 1 rfl) ?_
  refine lv_iconst (v := 5) hx hb d_Mo_piece_58 (by decide) ?_
  refine lv_icmp_ne (tgt := 84) hx hb d_Mo_piece_59 (by decide) (fun hc => ?_) (fun hc => ?_)
  · have h := it_f h hc
    exact t_Mo_piece_84 X (lv_sub hl [0, 1, 2] rfl) hI hS h
  · have h := it_t h hc
    exact t_Mo_piece_62 X (lv_sub hl [0] rfl) hI hS h
set_option maxRecDepth 100000 in
set_option maxHeartbeats 4000000 in
theorem t_Mo_piece_49 {p : Program} {l : Launch} {e : Env} {s : State} {m : MethodId} {args : Array Value} {below : List Frame} {meth : Method} {c : Code} {D : va_G} {A : Nat → Prop} {g : Nat → ClassId} {rest : va_W} {a0 : Nat → Nat} {ls : Array Slot} {H : Heap} {locs : List Loc} {s0 : S_Mo} {x1 : Int32} {x2 : Int32} {out : S_Mo} (X : Cx p s m args meth c prog_11_method_35_code 3 ws_Mo_piece R_Mo none D g) (hl : lv_has ls 3 [(0, .ref (a0 0)), (1, .int x1), (2, .int x2)]) (hI : Iw D A (w_Mo g a0 s0 ++ (rest)) H) (hS : va_S A s.heap H locs) (h : B_Mo_piece_49  s0 x1 x2 = some out) : W p l e (headSpec ws_Mo_piece { frames := 11, cells := 0, slots := 0, locals := 273 }).room s m args below meth c H locs 0 0 (MQ below (QcV D A g (fun (_ : Unit) => w_Mo g a0 out ++ (rest))) args s 0 0 A) (F0 m 49 ls []) := by
  have X1 := X
  obtain ⟨hx, hb, hml, hown, hts, hr, hlocks, hKK⟩ := X1
  have ht : ∀ w ∈ TB, w.before args s = true := fun w h => hts w (List.mem_cons_of_mem _ h)
  have hK := hKK.1
  unfold B_Mo_piece_49 at h
  refine lv_aload_n hx hb d_Mo_piece_49 rfl (lv_at hl 0 rfl) ?_
  refine gt_Mo_line hx hb ht hown hK hI (ht _ m_844) d_Mo_piece_50 ?_
  refine lv_iconst (v := 2) hx hb d_Mo_piece_53 (by decide) ?_
  refine lv_icmp_ne (tgt := 101) hx hb d_Mo_piece_54 (by decide) (fun hc => ?_) (fun hc => ?_)
  · have h := it_f h hc
    exact t_Mo_piece_101 X (lv_sub hl [] rfl) hI hS h
  · have h := it_t h hc
    exact t_Mo_piece_57 X (lv_sub hl [0, 1, 2] rfl) hI hS h
set_option maxRecDepth 100000 in
set_option maxHeartbeats 4000000 in
theorem t_Mo_piece_42 {p : Program} {l : Launch} {e : Env} {s : State} {m : MethodId} {args : Array Value} {below : List Frame} {meth : Method} {c : Code} {D : va_G} {A : Nat → Prop} {g : Nat → ClassId} {rest : va_W} {a0 : Nat → Nat} {ls : Array Slot} {H : Heap} {locs : List Loc} {s0 : S_Mo} {out : S_Mo} (X : Cx p s m args meth c prog_11_method_35_code 3 ws_Mo_piece R_Mo none D g) (hl : lv_has ls 3 [(0, .ref (a0 0))]) (hI : Iw D A (w_Mo g a0 s0 ++ (rest)) H) (hS : va_S A s.heap H locs) (h : B_Mo_piece_42  s0 = some out) : W p l e (headSpec ws_Mo_piece { frames := 11, cells := 0, slots := 0, locals := 273 }).room s m args below meth c H locs 0 0 (MQ below (QcV D A g (fun (_ : Unit) => w_Mo g a0 out ++ (rest))) args s 0 0 A) (F0 m 42 ls []) := by
  have X1 := X
  obtain ⟨hx, hb, hml, hown, hts, hr, hlocks, hKK⟩ := X1
  have ht : ∀ w ∈ TB, w.before args s = true := fun w h => hts w (List.mem_cons_of_mem _ h)
  have hK := hKK.1
  unfold B_Mo_piece_42 at h
  refine lv_aload_n hx hb d_Mo_piece_42 rfl (lv_at hl 0 rfl) ?_
  obtain ⟨o1, ho2, h⟩ := bd_s h
  refine cl_v (W1 := fun (_ : Unit) => w_Mo g a0 o1 ++ (rest)) (va_runV (As := []) (rest := []) ⟨hx, hb, hml, hown, ht⟩ (c_Mo_breakOff (l := l) (D := D) (A := A) (g := g) (rest := rest) (a0 := a0) ho2) (cwV 0 ht (gd_V m_1088 m_1090 mp_56 m_11 m_1091) rfl rfl rfl (by decide +kernel) ⟨(Nat.le_of_ble_eq_true rfl), (Nat.le_of_ble_eq_true rfl)⟩) (prV (ci := 9) (q0 := 0) hKK hI (List.Perm.refl _) rfl rfl rfl) rfl rfl hl.1 rfl (lv_room (Nat.le_of_ble_eq_true rfl)) d_Mo_piece_43 ⟨(Nat.le_of_ble_eq_true rfl), (Nat.le_of_ble_eq_true rfl)⟩) hS (fun _ => ((List.Perm.refl _)).symm) (fun _ H locs hI hS => ?_)
  have hI : Iw D A (w_Mo g a0 o1 ++ (rest)) H := hI
  refine lv_goto (tgt := 101) hx hb d_Mo_piece_46 (by decide) ?_
  exact t_Mo_piece_101 X (lv_sub hl [] rfl) hI hS h
set_option maxRecDepth 100000 in
set_option maxHeartbeats 4000000 in
theorem t_Mo_piece_34 {p : Program} {l : Launch} {e : Env} {s : State} {m : MethodId} {args : Array Value} {below : List Frame} {meth : Method} {c : Code} {D : va_G} {A : Nat → Prop} {g : Nat → ClassId} {rest : va_W} {a0 : Nat → Nat} {ls : Array Slot} {H : Heap} {locs : List Loc} {s0 : S_Mo} {x2 : Int32} {out : S_Mo} (X : Cx p s m args meth c prog_11_method_35_code 3 ws_Mo_piece R_Mo none D g) (hl : lv_has ls 3 [(0, .ref (a0 0)), (2, .int x2)]) (hI : Iw D A (w_Mo g a0 s0 ++ (rest)) H) (hS : va_S A s.heap H locs) (h : B_Mo_piece_34  s0 x2 = some out) : W p l e (headSpec ws_Mo_piece { frames := 11, cells := 0, slots := 0, locals := 273 }).room s m args below meth c H locs 0 0 (MQ below (QcV D A g (fun (_ : Unit) => w_Mo g a0 out ++ (rest))) args s 0 0 A) (F0 m 34 ls []) := by
  have X1 := X
  obtain ⟨hx, hb, hml, hown, hts, hr, hlocks, hKK⟩ := X1
  have ht : ∀ w ∈ TB, w.before args s = true := fun w h => hts w (List.mem_cons_of_mem _ h)
  have hK := hKK.1
  unfold B_Mo_piece_34 at h
  refine lv_aload_n hx hb d_Mo_piece_34 rfl (lv_at hl 0 rfl) ?_
  refine lv_iload_n hx hb d_Mo_piece_35 rfl (lv_at hl 1 rfl) ?_
  obtain ⟨o1, ho2, h⟩ := bd_s h
  refine cl_v (W1 := fun (_ : Unit) => w_Mo g a0 o1 ++ (rest)) (va_runV (As := [.int x2]) (rest := []) ⟨hx, hb, hml, hown, ht⟩ (c_Mo_request (l := l) (D := D) (A := A) (g := g) (rest := rest) (a0 := a0) ho2) (cwV 1 ht (gd_V m_1104 m_1106 mp_60 m_11 m_1107) rfl rfl rfl (by decide +kernel) ⟨(Nat.le_of_ble_eq_true rfl), (Nat.le_of_ble_eq_true rfl)⟩) (prV (ci := 9) (q0 := 0) hKK hI (List.Perm.refl _) rfl rfl rfl) rfl rfl hl.1 rfl (lv_room (Nat.le_of_ble_eq_true rfl)) d_Mo_piece_36 ⟨(Nat.le_of_ble_eq_true rfl), (Nat.le_of_ble_eq_true rfl)⟩) hS (fun _ => ((List.Perm.refl _)).symm) (fun _ H locs hI hS => ?_)
  have hI : Iw D A (w_Mo g a0 o1 ++ (rest)) H := hI
  refine lv_goto (tgt := 101) hx hb d_Mo_piece_39 (by decide) ?_
  exact t_Mo_piece_101 X (lv_sub hl [] rfl) hI hS h
set_option maxRecDepth 100000 in
set_option maxHeartbeats 4000000 in
theorem t_Mo_piece_26 {p : Program} {l : Launch} {e : Env} {s : State} {m : MethodId} {args : Array Value} {below : List Frame} {meth : Method} {c : Code} {D : va_G} {A : Nat → Prop} {g : Nat → ClassId} {rest : va_W} {a0 : Nat → Nat} {ls : Array Slot} {H : Heap} {locs : List Loc} {s0 : S_Mo} {x2 : Int32} {out : S_Mo} (X : Cx p s m args meth c prog_11_method_35_code 3 ws_Mo_piece R_Mo none D g) (hl : lv_has ls 3 [(0, .ref (a0 0)), (2, .int x2)]) (hI : Iw D A (w_Mo g a0 s0 ++ (rest)) H) (hS : va_S A s.heap H locs) (h : B_Mo_piece_26  s0 x2 = some out) : W p l e (headSpec ws_Mo_piece { frames := 11, cells := 0, slots := 0, locals := 273 }).room s m args below meth c H locs 0 0 (MQ below (QcV D A g (fun (_ : Unit) => w_Mo g a0 out ++ (rest))) args s 0 0 A) (F0 m 26 ls []) := by
  have X1 := X
  obtain ⟨hx, hb, hml, hown, hts, hr, hlocks, hKK⟩ := X1
  have ht : ∀ w ∈ TB, w.before args s = true := fun w h => hts w (List.mem_cons_of_mem _ h)
  have hK := hKK.1
  unfold B_Mo_piece_26 at h
  refine lv_aload_n hx hb d_Mo_piece_26 rfl (lv_at hl 0 rfl) ?_
  refine lv_iload_n hx hb d_Mo_piece_27 rfl (lv_at hl 1 rfl) ?_
  obtain ⟨o1, ho2, h⟩ := bd_s h
  refine cl_i (W1 := fun (_ : Unit) => w_Mo g a0 s0 ++ (rest)) (va_runV (As := [.int x2]) (rest := []) ⟨hx, hb, hml, hown, ht⟩ (c_Mo_isRequest (l := l) (D := D) (A := A) (g := g) (rest := rest) (a0 := a0) ho2) (cwV 1 ht (gd_V m_1100 m_1102 mp_59 m_11 m_1103) rfl rfl rfl (by decide +kernel) ⟨(Nat.le_of_ble_eq_true rfl), (Nat.le_of_ble_eq_true rfl)⟩) (prV (ci := 9) (q0 := 0) hKK hI (List.Perm.refl _) rfl rfl rfl) rfl rfl hl.1 rfl (lv_room (Nat.le_of_ble_eq_true rfl)) d_Mo_piece_28 ⟨(Nat.le_of_ble_eq_true rfl), (Nat.le_of_ble_eq_true rfl)⟩) hS (fun _ => ((List.Perm.refl _)).symm) (fun _ H locs hI hS => ?_)
  have hI : Iw D A (w_Mo g a0 s0 ++ (rest)) H := hI
  refine lv_if_eq (tgt := 42) hx hb d_Mo_piece_31 (by decide) (fun hc => ?_) (fun hc => ?_)
  · have h := it_t h hc
    exact t_Mo_piece_42 X (lv_sub hl [0] rfl) hI hS h
  · have h := it_f h hc
    exact t_Mo_piece_34 X (lv_sub hl [0, 1] rfl) hI hS h
set_option maxRecDepth 100000 in
set_option maxHeartbeats 4000000 in
theorem t_Mo_piece_21 {p : Program} {l : Launch} {e : Env} {s : State} {m : MethodId} {args : Array Value} {below : List Frame} {meth : Method} {c : Code} {D : va_G} {A : Nat → Prop} {g : Nat → ClassId} {rest : va_W} {a0 : Nat → Nat} {ls : Array Slot} {H : Heap} {locs : List Loc} {s0 : S_Mo} {x1 : Int32} {x2 : Int32} {out : S_Mo} (X : Cx p s m args meth c prog_11_method_35_code 3 ws_Mo_piece R_Mo none D g) (hl : lv_has ls 3 [(0, .ref (a0 0)), (1, .int x1), (2, .int x2)]) (hI : Iw D A (w_Mo g a0 s0 ++ (rest)) H) (hS : va_S A s.heap H locs) (h : B_Mo_piece_21  s0 x1 x2 = some out) : W p l e (headSpec ws_Mo_piece { frames := 11, cells := 0, slots := 0, locals := 273 }).room s m args below meth c H locs 0 0 (MQ below (QcV D A g (fun (_ : Unit) => w_Mo g a0 out ++ (rest))) args s 0 0 A) (F0 m 21 ls []) := by
  have X1 := X
  obtain ⟨hx, hb, hml, hown, hts, hr, hlocks, hKK⟩ := X1
  have ht : ∀ w ∈ TB, w.before args s = true := fun w h => hts w (List.mem_cons_of_mem _ h)
  have hK := hKK.1
  unfold B_Mo_piece_21 at h
  refine lv_iload_n hx hb d_Mo_piece_21 rfl (lv_at hl 1 rfl) ?_
  refine lv_iconst (v := 1) hx hb d_Mo_piece_22 (by decide) ?_
  refine lv_icmp_ne (tgt := 42) hx hb d_Mo_piece_23 (by decide) (fun hc => ?_) (fun hc => ?_)
  · have h := it_f h hc
    exact t_Mo_piece_42 X (lv_sub hl [0] rfl) hI hS h
  · have h := it_t h hc
    exact t_Mo_piece_26 X (lv_sub hl [0, 2] rfl) hI hS h
set_option maxRecDepth 100000 in
set_option maxHeartbeats 4000000 in
theorem t_Mo_piece_13 {p : Program} {l : Launch} {e : Env} {s : State} {m : MethodId} {args : Array Value} {below : List Frame} {meth : Method} {c : Code} {D : va_G} {A : Nat → Prop} {g : Nat → ClassId} {rest : va_W} {a0 : Nat → Nat} {ls : Array Slot} {H : Heap} {locs : List Loc} {s0 : S_Mo} {x1 : Int32} {x2 : Int32} {out : S_Mo} (X : Cx p s m args meth c prog_11_method_35_code 3 ws_Mo_piece R_Mo none D g) (hl : lv_has ls 3 [(0, .ref (a0 0)), (1, .int x1), (2, .int x2)]) (hI : Iw D A (w_Mo g a0 s0 ++ (rest)) H) (hS : va_S A s.heap H locs) (h : B_Mo_piece_13  s0 x1 x2 = some out) : W p l e (headSpec ws_Mo_piece { frames := 11, cells := 0, slots := 0, locals := 273 }).room s m args below meth c H locs 0 0 (MQ below (QcV D A g (fun (_ : Unit) => w_Mo g a0 out ++ (rest))) args s 0 0 A) (F0 m 13 ls []) := by
  have X1 := X
  obtain ⟨hx, hb, hml, hown, hts, hr, hlocks, hKK⟩ := X1
  have ht : ∀ w ∈ TB, w.before args s = true := fun w h => hts w (List.mem_cons_of_mem _ h)
  have hK := hKK.1
  unfold B_Mo_piece_13 at h
  refine lv_aload_n hx hb d_Mo_piece_13 rfl (lv_at hl 0 rfl) ?_
  refine gt_Mo_line hx hb ht hown hK hI (ht _ m_844) d_Mo_piece_14 ?_
  refine lv_iconst (v := 1) hx hb d_Mo_piece_17 (by decide) ?_
  refine lv_icmp_ne (tgt := 49) hx hb d_Mo_piece_18 (by decide) (fun hc => ?_) (fun hc => ?_)
  · have h := it_f h hc
    exact t_Mo_piece_49 X (lv_sub hl [0, 1, 2] rfl) hI hS h
  · have h := it_t h hc
    exact t_Mo_piece_21 X (lv_sub hl [0, 1, 2] rfl) hI hS h
set_option maxRecDepth 100000 in
set_option maxHeartbeats 4000000 in
theorem t_Mo_piece_6 {p : Program} {l : Launch} {e : Env} {s : State} {m : MethodId} {args : Array Value} {below : List Frame} {meth : Method} {c : Code} {D : va_G} {A : Nat → Prop} {g : Nat → ClassId} {rest : va_W} {a0 : Nat → Nat} {ls : Array Slot} {H : Heap} {locs : List Loc} {s0 : S_Mo} {out : S_Mo} (X : Cx p s m args meth c prog_11_method_35_code 3 ws_Mo_piece R_Mo none D g) (hl : lv_has ls 3 [(0, .ref (a0 0))]) (hI : Iw D A (w_Mo g a0 s0 ++ (rest)) H) (hS : va_S A s.heap H locs) (h : B_Mo_piece_6  s0 = some out) : W p l e (headSpec ws_Mo_piece { frames := 11, cells := 0, slots := 0, locals := 273 }).room s m args below meth c H locs 0 0 (MQ below (QcV D A g (fun (_ : Unit) => w_Mo g a0 out ++ (rest))) args s 0 0 A) (F0 m 6 ls []) := by
  have X1 := X
  obtain ⟨hx, hb, hml, hown, hts, hr, hlocks, hKK⟩ := X1
  have ht : ∀ w ∈ TB, w.before args s = true := fun w h => hts w (List.mem_cons_of_mem _ h)
  have hK := hKK.1
  unfold B_Mo_piece_6 at h
  refine lv_aload_n hx hb d_Mo_piece_6 rfl (lv_at hl 0 rfl) ?_
  obtain ⟨o1, ho2, h⟩ := bd_s h
  refine cl_v (W1 := fun (_ : Unit) => w_Mo g a0 o1 ++ (rest)) (va_runV (As := []) (rest := []) ⟨hx, hb, hml, hown, ht⟩ (c_Mo_shut (l := l) (D := D) (A := A) (g := g) (rest := rest) (a0 := a0) ho2) (cwV 0 ht (gd_V m_1076 m_1078 mp_54 m_11 m_1079) rfl rfl rfl (by decide +kernel) ⟨(Nat.le_of_ble_eq_true rfl), (Nat.le_of_ble_eq_true rfl)⟩) (prV (ci := 9) (q0 := 0) hKK hI (List.Perm.refl _) rfl rfl rfl) rfl rfl hl.1 rfl (lv_room (Nat.le_of_ble_eq_true rfl)) d_Mo_piece_7 ⟨(Nat.le_of_ble_eq_true rfl), (Nat.le_of_ble_eq_true rfl)⟩) hS (fun _ => ((List.Perm.refl _)).symm) (fun _ H locs hI hS => ?_)
  have hI : Iw D A (w_Mo g a0 o1 ++ (rest)) H := hI
  refine lv_goto (tgt := 101) hx hb d_Mo_piece_10 (by decide) ?_
  exact t_Mo_piece_101 X (lv_sub hl [] rfl) hI hS h
set_option maxRecDepth 100000 in
set_option maxHeartbeats 4000000 in
theorem t_Mo_piece_0 {p : Program} {l : Launch} {e : Env} {s : State} {m : MethodId} {args : Array Value} {below : List Frame} {meth : Method} {c : Code} {D : va_G} {A : Nat → Prop} {g : Nat → ClassId} {rest : va_W} {a0 : Nat → Nat} {ls : Array Slot} {H : Heap} {locs : List Loc} {s0 : S_Mo} {x1 : Int32} {x2 : Int32} {out : S_Mo} (X : Cx p s m args meth c prog_11_method_35_code 3 ws_Mo_piece R_Mo none D g) (hl : lv_has ls 3 [(0, .ref (a0 0)), (1, .int x1), (2, .int x2)]) (hI : Iw D A (w_Mo g a0 s0 ++ (rest)) H) (hS : va_S A s.heap H locs) (h : B_Mo_piece_0  s0 x1 x2 = some out) : W p l e (headSpec ws_Mo_piece { frames := 11, cells := 0, slots := 0, locals := 273 }).room s m args below meth c H locs 0 0 (MQ below (QcV D A g (fun (_ : Unit) => w_Mo g a0 out ++ (rest))) args s 0 0 A) (F0 m 0 ls []) := by
  have X1 := X
  obtain ⟨hx, hb, hml, hown, hts, hr, hlocks, hKK⟩ := X1
  have ht : ∀ w ∈ TB, w.before args s = true := fun w h => hts w (List.mem_cons_of_mem _ h)
  have hK := hKK.1
  unfold B_Mo_piece_0 at h
  refine lv_iload_n hx hb d_Mo_piece_0 rfl (lv_at hl 1 rfl) ?_
  refine lv_bipush (v := 7) hx hb d_Mo_piece_1 (by decide) ?_
  refine lv_icmp_ne (tgt := 13) hx hb d_Mo_piece_3 (by decide) (fun hc => ?_) (fun hc => ?_)
  · have h := it_f h hc
    exact t_Mo_piece_13 X (lv_sub hl [0, 1, 2] rfl) hI hS h
  · have h := it_t h hc
    exact t_Mo_piece_6 X (lv_sub hl [0] rfl) hI hS h
set_option maxRecDepth 100000 in
set_option maxHeartbeats 4000000 in
theorem c_Mo_piece {l : Launch} {D : va_G} {A : Nat → Prop} {g : Nat → ClassId} {rest : va_W} {a0 : Nat → Nat} {s0 : S_Mo} {x1 : Int32} {x2 : Int32} {out : S_Mo} (h : F_Mo_piece s0 x1 x2 = some out) : Met l y_Mo_piece ws_Mo_piece { frames := 11, cells := 0, slots := 0, locals := 273 } (PcW D A g [.ref (a0 0), .int x1, .int x2] (w_Mo g a0 s0 ++ (rest))) (QcV D A g (fun (_ : Unit) => w_Mo g a0 out ++ (rest))) 0 0 A := by
  refine Met.ofW (cc := prog_11_method_35_code) (maxL := 3) (ret := none) (by decide) rfl ?_
  intro p e s m args below meth c s₁ B hml hv
  obtain ⟨rfl, hI, hK⟩ := hv
  have hl := lv_entry [.ref (a0 0), .int x1, .int x2] (n := 3) (Nat.le_of_ble_eq_true rfl)
  rw [lg_entry_eq]
  generalize (lg_sl [.ref (a0 0), .int x1, .int x2] ++ List.replicate (3 - (lg_sl [.ref (a0 0), .int x1, .int x2]).length) Slot.unset).toArray = ls at hl ⊢
  have hl : lv_has ls 3 [(0, .ref (a0 0)), (1, .int x1), (2, .int x2)] := hl
  exact t_Mo_piece_0 ⟨B.exec, B.bytes, hml, findClass_of_methodNamed B.named, atoms_spec (ws := ws_Mo_piece) B.pre, B.returns, B.notSynchronized, hK⟩ (lv_sub hl [0, 1, 2] rfl) hI va_S.rf h
def ws_Mo_comes : List Cond := .code y_Mo_comes prog_11_method_34_code 2 none :: TB
def B_Mo_comes_114 (s0 : S_Mo) : Option S_Mo :=
  some s0
def B_Mo_comes_93 (s0 : S_Mo) : Option S_Mo :=
  (if ((0 : Int32) < 0 ∨ 202 ≤ (0 : Int32).toNatClampNeg) then none else (if ((1 : Int32) < 0 ∨ 202 ≤ (1 : Int32).toNatClampNeg) then none else ((F_Mo_piece (Mo_set_inputs s0 (0 : Int32)) ((Mo_input (Mo_set_inputs s0 (0 : Int32))) (0 : Int32).toNatClampNeg) ((Mo_input (Mo_set_inputs s0 (0 : Int32))) (1 : Int32).toNatClampNeg)).bind fun o3 => (B_Mo_comes_114 o3))))
def B_Mo_comes_78 (s0 : S_Mo) : Option S_Mo :=
  (if ((1 : Int32) < 0 ∨ 202 ≤ (1 : Int32).toNatClampNeg) then none else (if (Mo_inputs s0) = ((2 : Int32) + ((Mo_input s0) (1 : Int32).toNatClampNeg)) then (B_Mo_comes_93 s0) else (B_Mo_comes_114 s0)))
def B_Mo_comes_70 (s0 : S_Mo) : Option S_Mo :=
  (if (Mo_inputs s0) ≤ (1 : Int32) then (B_Mo_comes_114 s0) else (B_Mo_comes_78 s0))
def B_Mo_comes_63 (s0 : S_Mo) : Option S_Mo :=
  ((F_Mo_breakOff s0).bind fun o1 => (B_Mo_comes_114 o1))
def B_Mo_comes_56 (s0 : S_Mo) : Option S_Mo :=
  ((F_Mo_shut s0).bind fun o1 => (B_Mo_comes_114 o1))
def B_Mo_comes_43 (s0 : S_Mo) : Option S_Mo :=
  (if (Mo_line (Mo_set_inputs s0 (0 : Int32))) = (3 : Int32) then (B_Mo_comes_56 (Mo_set_inputs s0 (0 : Int32))) else (B_Mo_comes_63 (Mo_set_inputs s0 (0 : Int32))))
def B_Mo_comes_36 (s0 : S_Mo) (x1 : Int32) : Option S_Mo :=
  (if x1 ≤ (200 : Int32) then (B_Mo_comes_70 s0) else (B_Mo_comes_43 s0))
def B_Mo_comes_8 (s0 : S_Mo) (x1 : Int32) : Option S_Mo :=
  (if ((Mo_inputs s0) < 0 ∨ 202 ≤ (Mo_inputs s0).toNatClampNeg) then none else (if (Mo_inputs (Mo_set_inputs (Mo_set_input s0 (upd (Mo_input s0) (Mo_inputs s0).toNatClampNeg x1)) ((Mo_inputs (Mo_set_input s0 (upd (Mo_input s0) (Mo_inputs s0).toNatClampNeg x1))) + (1 : Int32)))) = (2 : Int32) then (B_Mo_comes_36 (Mo_set_inputs (Mo_set_input s0 (upd (Mo_input s0) (Mo_inputs s0).toNatClampNeg x1)) ((Mo_inputs (Mo_set_input s0 (upd (Mo_input s0) (Mo_inputs s0).toNatClampNeg x1))) + (1 : Int32))) x1) else (B_Mo_comes_70 (Mo_set_inputs (Mo_set_input s0 (upd (Mo_input s0) (Mo_inputs s0).toNatClampNeg x1)) ((Mo_inputs (Mo_set_input s0 (upd (Mo_input s0) (Mo_inputs s0).toNatClampNeg x1))) + (1 : Int32))))))
def B_Mo_comes_7 (s0 : S_Mo) : Option S_Mo :=
  some s0
def B_Mo_comes_0 (s0 : S_Mo) (x1 : Int32) : Option S_Mo :=
  (if (Mo_line s0) = 0 then (B_Mo_comes_7 s0) else (B_Mo_comes_8 s0 x1))
def F_Mo_comes (s0 : S_Mo) (x1 : Int32) : Option S_Mo := B_Mo_comes_0 s0 x1
set_option maxRecDepth 100000 in
set_option maxHeartbeats 4000000 in
theorem t_Mo_comes_114 {p : Program} {l : Launch} {e : Env} {s : State} {m : MethodId} {args : Array Value} {below : List Frame} {meth : Method} {c : Code} {D : va_G} {A : Nat → Prop} {g : Nat → ClassId} {rest : va_W} {a0 : Nat → Nat} {ls : Array Slot} {H : Heap} {locs : List Loc} {s0 : S_Mo} {out : S_Mo} (X : Cx p s m args meth c prog_11_method_34_code 2 ws_Mo_comes R_Mo none D g) (hl : lv_has ls 2 []) (hI : Iw D A (w_Mo g a0 s0 ++ (rest)) H) (hS : va_S A s.heap H locs) (h : B_Mo_comes_114  s0 = some out) : W p l e (headSpec ws_Mo_comes { frames := 12, cells := 0, slots := 0, locals := 295 }).room s m args below meth c H locs 0 0 (MQ below (QcV D A g (fun (_ : Unit) => w_Mo g a0 out ++ (rest))) args s 0 0 A) (F0 m 114 ls []) := by
  have X1 := X
  obtain ⟨hx, hb, hml, hown, hts, hr, hlocks, hKK⟩ := X1
  have ht : ∀ w ∈ TB, w.before args s = true := fun w h => hts w (List.mem_cons_of_mem _ h)
  have hK := hKK.1
  unfold B_Mo_comes_114 at h
  have h9 := Option.some.inj h
  subst h9
  exact W.vret hx hb hr (fun t ht hW => ⟨⟨(), rfl, trivial, ⟨by rw [ht]; exact hI, hKK.moved hW⟩⟩, hS.F ht⟩) hS.2.2 d_Mo_comes_114
set_option maxRecDepth 100000 in
set_option maxHeartbeats 4000000 in
theorem t_Mo_comes_93 {p : Program} {l : Launch} {e : Env} {s : State} {m : MethodId} {args : Array Value} {below : List Frame} {meth : Method} {c : Code} {D : va_G} {A : Nat → Prop} {g : Nat → ClassId} {rest : va_W} {a0 : Nat → Nat} {ls : Array Slot} {H : Heap} {locs : List Loc} {s0 : S_Mo} {out : S_Mo} (X : Cx p s m args meth c prog_11_method_34_code 2 ws_Mo_comes R_Mo none D g) (hl : lv_has ls 2 [(0, .ref (a0 0))]) (hI : Iw D A (w_Mo g a0 s0 ++ (rest)) H) (hS : va_S A s.heap H locs) (h : B_Mo_comes_93  s0 = some out) : W p l e (headSpec ws_Mo_comes { frames := 12, cells := 0, slots := 0, locals := 295 }).room s m args below meth c H locs 0 0 (MQ below (QcV D A g (fun (_ : Unit) => w_Mo g a0 out ++ (rest))) args s 0 0 A) (F0 m 93 ls []) := by
  have X1 := X
  obtain ⟨hx, hb, hml, hown, hts, hr, hlocks, hKK⟩ := X1
  have ht : ∀ w ∈ TB, w.before args s = true := fun w h => hts w (List.mem_cons_of_mem _ h)
  have hK := hKK.1
  unfold B_Mo_comes_93 at h
  refine lv_aload_n hx hb d_Mo_comes_93 rfl (lv_at hl 0 rfl) ?_
  refine lv_iconst (v := 0) hx hb d_Mo_comes_94 (by decide) ?_
  refine pt_Mo_inputs hx hb ht hown hK hI hS (ht _ m_847) d_Mo_comes_95 (fun H locs hI hS => ?_)
  refine lv_aload_n hx hb d_Mo_comes_98 rfl (lv_at hl 0 rfl) ?_
  refine lv_aload_n hx hb d_Mo_comes_99 rfl (lv_at hl 0 rfl) ?_
  refine gt_Mo_input hx hb ht hown hK hI (ht _ m_846) d_Mo_comes_100 ?_
  refine lv_iconst (v := 0) hx hb d_Mo_comes_103 (by decide) ?_
  by_cases hc1 : ((0 : Int32) < 0 ∨ 202 ≤ (0 : Int32).toNatClampNeg)
  · exact no_s (it_t h hc1)
  have h := it_f h hc1
  refine al_Mo_input hx hb hK hI hc1 d_Mo_comes_104 ?_
  refine lv_aload_n hx hb d_Mo_comes_105 rfl (lv_at hl 0 rfl) ?_
  refine gt_Mo_input hx hb ht hown hK hI (ht _ m_846) d_Mo_comes_106 ?_
  refine lv_iconst (v := 1) hx hb d_Mo_comes_109 (by decide) ?_
  by_cases hc2 : ((1 : Int32) < 0 ∨ 202 ≤ (1 : Int32).toNatClampNeg)
  · exact no_s (it_t h hc2)
  have h := it_f h hc2
  refine al_Mo_input hx hb hK hI hc2 d_Mo_comes_110 ?_
  obtain ⟨o3, ho4, h⟩ := bd_s h
  refine cl_v (W1 := fun (_ : Unit) => w_Mo g a0 o3 ++ (rest)) (va_runV (As := [.int ((Mo_input (Mo_set_inputs s0 (0 : Int32))) (0 : Int32).toNatClampNeg), .int ((Mo_input (Mo_set_inputs s0 (0 : Int32))) (1 : Int32).toNatClampNeg)]) (rest := []) ⟨hx, hb, hml, hown, ht⟩ (c_Mo_piece (l := l) (D := D) (A := A) (g := g) (rest := rest) (a0 := a0) ho4) (cwV 2 ht (gd_V m_1096 m_1098 mp_58 m_11 m_1099) rfl rfl rfl (by decide +kernel) ⟨(Nat.le_of_ble_eq_true rfl), (Nat.le_of_ble_eq_true rfl)⟩) (prV (ci := 9) (q0 := 0) hKK hI (List.Perm.refl _) rfl rfl rfl) rfl rfl hl.1 rfl (lv_room (Nat.le_of_ble_eq_true rfl)) d_Mo_comes_111 ⟨(Nat.le_of_ble_eq_true rfl), (Nat.le_of_ble_eq_true rfl)⟩) hS (fun _ => ((List.Perm.refl _)).symm) (fun _ H locs hI hS => ?_)
  have hI : Iw D A (w_Mo g a0 o3 ++ (rest)) H := hI
  exact t_Mo_comes_114 X (lv_sub hl [] rfl) hI hS h
set_option maxRecDepth 100000 in
set_option maxHeartbeats 4000000 in
theorem t_Mo_comes_78 {p : Program} {l : Launch} {e : Env} {s : State} {m : MethodId} {args : Array Value} {below : List Frame} {meth : Method} {c : Code} {D : va_G} {A : Nat → Prop} {g : Nat → ClassId} {rest : va_W} {a0 : Nat → Nat} {ls : Array Slot} {H : Heap} {locs : List Loc} {s0 : S_Mo} {out : S_Mo} (X : Cx p s m args meth c prog_11_method_34_code 2 ws_Mo_comes R_Mo none D g) (hl : lv_has ls 2 [(0, .ref (a0 0))]) (hI : Iw D A (w_Mo g a0 s0 ++ (rest)) H) (hS : va_S A s.heap H locs) (h : B_Mo_comes_78  s0 = some out) : W p l e (headSpec ws_Mo_comes { frames := 12, cells := 0, slots := 0, locals := 295 }).room s m args below meth c H locs 0 0 (MQ below (QcV D A g (fun (_ : Unit) => w_Mo g a0 out ++ (rest))) args s 0 0 A) (F0 m 78 ls []) := by
  have X1 := X
  obtain ⟨hx, hb, hml, hown, hts, hr, hlocks, hKK⟩ := X1
  have ht : ∀ w ∈ TB, w.before args s = true := fun w h => hts w (List.mem_cons_of_mem _ h)
  have hK := hKK.1
  unfold B_Mo_comes_78 at h
  refine lv_aload_n hx hb d_Mo_comes_78 rfl (lv_at hl 0 rfl) ?_
  refine gt_Mo_inputs hx hb ht hown hK hI (ht _ m_847) d_Mo_comes_79 ?_
  refine lv_iconst (v := 2) hx hb d_Mo_comes_82 (by decide) ?_
  refine lv_aload_n hx hb d_Mo_comes_83 rfl (lv_at hl 0 rfl) ?_
  refine gt_Mo_input hx hb ht hown hK hI (ht _ m_846) d_Mo_comes_84 ?_
  refine lv_iconst (v := 1) hx hb d_Mo_comes_87 (by decide) ?_
  by_cases hc1 : ((1 : Int32) < 0 ∨ 202 ≤ (1 : Int32).toNatClampNeg)
  · exact no_s (it_t h hc1)
  have h := it_f h hc1
  refine al_Mo_input hx hb hK hI hc1 d_Mo_comes_88 ?_
  refine lv_iadd hx hb d_Mo_comes_89 ?_
  refine lv_icmp_ne (tgt := 114) hx hb d_Mo_comes_90 (by decide) (fun hc => ?_) (fun hc => ?_)
  · have h := it_f h hc
    exact t_Mo_comes_114 X (lv_sub hl [] rfl) hI hS h
  · have h := it_t h hc
    exact t_Mo_comes_93 X (lv_sub hl [0] rfl) hI hS h
set_option maxRecDepth 100000 in
set_option maxHeartbeats 4000000 in
theorem t_Mo_comes_70 {p : Program} {l : Launch} {e : Env} {s : State} {m : MethodId} {args : Array Value} {below : List Frame} {meth : Method} {c : Code} {D : va_G} {A : Nat → Prop} {g : Nat → ClassId} {rest : va_W} {a0 : Nat → Nat} {ls : Array Slot} {H : Heap} {locs : List Loc} {s0 : S_Mo} {out : S_Mo} (X : Cx p s m args meth c prog_11_method_34_code 2 ws_Mo_comes R_Mo none D g) (hl : lv_has ls 2 [(0, .ref (a0 0))]) (hI : Iw D A (w_Mo g a0 s0 ++ (rest)) H) (hS : va_S A s.heap H locs) (h : B_Mo_comes_70  s0 = some out) : W p l e (headSpec ws_Mo_comes { frames := 12, cells := 0, slots := 0, locals := 295 }).room s m args below meth c H locs 0 0 (MQ below (QcV D A g (fun (_ : Unit) => w_Mo g a0 out ++ (rest))) args s 0 0 A) (F0 m 70 ls []) := by
  have X1 := X
  obtain ⟨hx, hb, hml, hown, hts, hr, hlocks, hKK⟩ := X1
  have ht : ∀ w ∈ TB, w.before args s = true := fun w h => hts w (List.mem_cons_of_mem _ h)
  have hK := hKK.1
  unfold B_Mo_comes_70 at h
  refine lv_aload_n hx hb d_Mo_comes_70 rfl (lv_at hl 0 rfl) ?_
  refine gt_Mo_inputs hx hb ht hown hK hI (ht _ m_847) d_Mo_comes_71 ?_
  refine lv_iconst (v := 1) hx hb d_Mo_comes_74 (by decide) ?_
  refine lv_icmp_le (tgt := 114) hx hb d_Mo_comes_75 (by decide) (fun hc => ?_) (fun hc => ?_)
  · have h := it_t h hc
    exact t_Mo_comes_114 X (lv_sub hl [] rfl) hI hS h
  · have h := it_f h hc
    exact t_Mo_comes_78 X (lv_sub hl [0] rfl) hI hS h
set_option maxRecDepth 100000 in
set_option maxHeartbeats 4000000 in
theorem t_Mo_comes_63 {p : Program} {l : Launch} {e : Env} {s : State} {m : MethodId} {args : Array Value} {below : List Frame} {meth : Method} {c : Code} {D : va_G} {A : Nat → Prop} {g : Nat → ClassId} {rest : va_W} {a0 : Nat → Nat} {ls : Array Slot} {H : Heap} {locs : List Loc} {s0 : S_Mo} {out : S_Mo} (X : Cx p s m args meth c prog_11_method_34_code 2 ws_Mo_comes R_Mo none D g) (hl : lv_has ls 2 [(0, .ref (a0 0))]) (hI : Iw D A (w_Mo g a0 s0 ++ (rest)) H) (hS : va_S A s.heap H locs) (h : B_Mo_comes_63  s0 = some out) : W p l e (headSpec ws_Mo_comes { frames := 12, cells := 0, slots := 0, locals := 295 }).room s m args below meth c H locs 0 0 (MQ below (QcV D A g (fun (_ : Unit) => w_Mo g a0 out ++ (rest))) args s 0 0 A) (F0 m 63 ls []) := by
  have X1 := X
  obtain ⟨hx, hb, hml, hown, hts, hr, hlocks, hKK⟩ := X1
  have ht : ∀ w ∈ TB, w.before args s = true := fun w h => hts w (List.mem_cons_of_mem _ h)
  have hK := hKK.1
  unfold B_Mo_comes_63 at h
  refine lv_aload_n hx hb d_Mo_comes_63 rfl (lv_at hl 0 rfl) ?_
  obtain ⟨o1, ho2, h⟩ := bd_s h
  refine cl_v (W1 := fun (_ : Unit) => w_Mo g a0 o1 ++ (rest)) (va_runV (As := []) (rest := []) ⟨hx, hb, hml, hown, ht⟩ (c_Mo_breakOff (l := l) (D := D) (A := A) (g := g) (rest := rest) (a0 := a0) ho2) (cwV 0 ht (gd_V m_1088 m_1090 mp_56 m_11 m_1091) rfl rfl rfl (by decide +kernel) ⟨(Nat.le_of_ble_eq_true rfl), (Nat.le_of_ble_eq_true rfl)⟩) (prV (ci := 9) (q0 := 0) hKK hI (List.Perm.refl _) rfl rfl rfl) rfl rfl hl.1 rfl (lv_room (Nat.le_of_ble_eq_true rfl)) d_Mo_comes_64 ⟨(Nat.le_of_ble_eq_true rfl), (Nat.le_of_ble_eq_true rfl)⟩) hS (fun _ => ((List.Perm.refl _)).symm) (fun _ H locs hI hS => ?_)
  have hI : Iw D A (w_Mo g a0 o1 ++ (rest)) H := hI
  refine lv_goto (tgt := 114) hx hb d_Mo_comes_67 (by decide) ?_
  exact t_Mo_comes_114 X (lv_sub hl [] rfl) hI hS h
set_option maxRecDepth 100000 in
set_option maxHeartbeats 4000000 in
theorem t_Mo_comes_56 {p : Program} {l : Launch} {e : Env} {s : State} {m : MethodId} {args : Array Value} {below : List Frame} {meth : Method} {c : Code} {D : va_G} {A : Nat → Prop} {g : Nat → ClassId} {rest : va_W} {a0 : Nat → Nat} {ls : Array Slot} {H : Heap} {locs : List Loc} {s0 : S_Mo} {out : S_Mo} (X : Cx p s m args meth c prog_11_method_34_code 2 ws_Mo_comes R_Mo none D g) (hl : lv_has ls 2 [(0, .ref (a0 0))]) (hI : Iw D A (w_Mo g a0 s0 ++ (rest)) H) (hS : va_S A s.heap H locs) (h : B_Mo_comes_56  s0 = some out) : W p l e (headSpec ws_Mo_comes { frames := 12, cells := 0, slots := 0, locals := 295 }).room s m args below meth c H locs 0 0 (MQ below (QcV D A g (fun (_ : Unit) => w_Mo g a0 out ++ (rest))) args s 0 0 A) (F0 m 56 ls []) := by
  have X1 := X
  obtain ⟨hx, hb, hml, hown, hts, hr, hlocks, hKK⟩ := X1
  have ht : ∀ w ∈ TB, w.before args s = true := fun w h => hts w (List.mem_cons_of_mem _ h)
  have hK := hKK.1
  unfold B_Mo_comes_56 at h
  refine lv_aload_n hx hb d_Mo_comes_56 rfl (lv_at hl 0 rfl) ?_
  obtain ⟨o1, ho2, h⟩ := bd_s h
  refine cl_v (W1 := fun (_ : Unit) => w_Mo g a0 o1 ++ (rest)) (va_runV (As := []) (rest := []) ⟨hx, hb, hml, hown, ht⟩ (c_Mo_shut (l := l) (D := D) (A := A) (g := g) (rest := rest) (a0 := a0) ho2) (cwV 0 ht (gd_V m_1076 m_1078 mp_54 m_11 m_1079) rfl rfl rfl (by decide +kernel) ⟨(Nat.le_of_ble_eq_true rfl), (Nat.le_of_ble_eq_true rfl)⟩) (prV (ci := 9) (q0 := 0) hKK hI (List.Perm.refl _) rfl rfl rfl) rfl rfl hl.1 rfl (lv_room (Nat.le_of_ble_eq_true rfl)) d_Mo_comes_57 ⟨(Nat.le_of_ble_eq_true rfl), (Nat.le_of_ble_eq_true rfl)⟩) hS (fun _ => ((List.Perm.refl _)).symm) (fun _ H locs hI hS => ?_)
  have hI : Iw D A (w_Mo g a0 o1 ++ (rest)) H := hI
  refine lv_goto (tgt := 114) hx hb d_Mo_comes_60 (by decide) ?_
  exact t_Mo_comes_114 X (lv_sub hl [] rfl) hI hS h
set_option maxRecDepth 100000 in
set_option maxHeartbeats 4000000 in
theorem t_Mo_comes_43 {p : Program} {l : Launch} {e : Env} {s : State} {m : MethodId} {args : Array Value} {below : List Frame} {meth : Method} {c : Code} {D : va_G} {A : Nat → Prop} {g : Nat → ClassId} {rest : va_W} {a0 : Nat → Nat} {ls : Array Slot} {H : Heap} {locs : List Loc} {s0 : S_Mo} {out : S_Mo} (X : Cx p s m args meth c prog_11_method_34_code 2 ws_Mo_comes R_Mo none D g) (hl : lv_has ls 2 [(0, .ref (a0 0))]) (hI : Iw D A (w_Mo g a0 s0 ++ (rest)) H) (hS : va_S A s.heap H locs) (h : B_Mo_comes_43  s0 = some out) : W p l e (headSpec ws_Mo_comes { frames := 12, cells := 0, slots := 0, locals := 295 }).room s m args below meth c H locs 0 0 (MQ below (QcV D A g (fun (_ : Unit) => w_Mo g a0 out ++ (rest))) args s 0 0 A) (F0 m 43 ls []) := by
  have X1 := X
  obtain ⟨hx, hb, hml, hown, hts, hr, hlocks, hKK⟩ := X1
  have ht : ∀ w ∈ TB, w.before args s = true := fun w h => hts w (List.mem_cons_of_mem _ h)
  have hK := hKK.1
  unfold B_Mo_comes_43 at h
  refine lv_aload_n hx hb d_Mo_comes_43 rfl (lv_at hl 0 rfl) ?_
  refine lv_iconst (v := 0) hx hb d_Mo_comes_44 (by decide) ?_
  refine pt_Mo_inputs hx hb ht hown hK hI hS (ht _ m_847) d_Mo_comes_45 (fun H locs hI hS => ?_)
  refine lv_aload_n hx hb d_Mo_comes_48 rfl (lv_at hl 0 rfl) ?_
  refine gt_Mo_line hx hb ht hown hK hI (ht _ m_844) d_Mo_comes_49 ?_
  refine lv_iconst (v := 3) hx hb d_Mo_comes_52 (by decide) ?_
  refine lv_icmp_ne (tgt := 63) hx hb d_Mo_comes_53 (by decide) (fun hc => ?_) (fun hc => ?_)
  · have h := it_f h hc
    exact t_Mo_comes_63 X (lv_sub hl [0] rfl) hI hS h
  · have h := it_t h hc
    exact t_Mo_comes_56 X (lv_sub hl [0] rfl) hI hS h
set_option maxRecDepth 100000 in
set_option maxHeartbeats 4000000 in
theorem t_Mo_comes_36 {p : Program} {l : Launch} {e : Env} {s : State} {m : MethodId} {args : Array Value} {below : List Frame} {meth : Method} {c : Code} {D : va_G} {A : Nat → Prop} {g : Nat → ClassId} {rest : va_W} {a0 : Nat → Nat} {ls : Array Slot} {H : Heap} {locs : List Loc} {s0 : S_Mo} {x1 : Int32} {out : S_Mo} (X : Cx p s m args meth c prog_11_method_34_code 2 ws_Mo_comes R_Mo none D g) (hl : lv_has ls 2 [(0, .ref (a0 0)), (1, .int x1)]) (hI : Iw D A (w_Mo g a0 s0 ++ (rest)) H) (hS : va_S A s.heap H locs) (h : B_Mo_comes_36  s0 x1 = some out) : W p l e (headSpec ws_Mo_comes { frames := 12, cells := 0, slots := 0, locals := 295 }).room s m args below meth c H locs 0 0 (MQ below (QcV D A g (fun (_ : Unit) => w_Mo g a0 out ++ (rest))) args s 0 0 A) (F0 m 36 ls []) := by
  have X1 := X
  obtain ⟨hx, hb, hml, hown, hts, hr, hlocks, hKK⟩ := X1
  have ht : ∀ w ∈ TB, w.before args s = true := fun w h => hts w (List.mem_cons_of_mem _ h)
  have hK := hKK.1
  unfold B_Mo_comes_36 at h
  refine lv_iload_n hx hb d_Mo_comes_36 rfl (lv_at hl 1 rfl) ?_
  refine lv_sipush (v := 200) hx hb d_Mo_comes_37 (by decide) ?_
  refine lv_icmp_le (tgt := 70) hx hb d_Mo_comes_40 (by decide) (fun hc => ?_) (fun hc => ?_)
  · have h := it_t h hc
    exact t_Mo_comes_70 X (lv_sub hl [0] rfl) hI hS h
  · have h := it_f h hc
    exact t_Mo_comes_43 X (lv_sub hl [0] rfl) hI hS h
set_option maxRecDepth 100000 in
set_option maxHeartbeats 4000000 in
theorem t_Mo_comes_8 {p : Program} {l : Launch} {e : Env} {s : State} {m : MethodId} {args : Array Value} {below : List Frame} {meth : Method} {c : Code} {D : va_G} {A : Nat → Prop} {g : Nat → ClassId} {rest : va_W} {a0 : Nat → Nat} {ls : Array Slot} {H : Heap} {locs : List Loc} {s0 : S_Mo} {x1 : Int32} {out : S_Mo} (X : Cx p s m args meth c prog_11_method_34_code 2 ws_Mo_comes R_Mo none D g) (hl : lv_has ls 2 [(0, .ref (a0 0)), (1, .int x1)]) (hI : Iw D A (w_Mo g a0 s0 ++ (rest)) H) (hS : va_S A s.heap H locs) (h : B_Mo_comes_8  s0 x1 = some out) : W p l e (headSpec ws_Mo_comes { frames := 12, cells := 0, slots := 0, locals := 295 }).room s m args below meth c H locs 0 0 (MQ below (QcV D A g (fun (_ : Unit) => w_Mo g a0 out ++ (rest))) args s 0 0 A) (F0 m 8 ls []) := by
  have X1 := X
  obtain ⟨hx, hb, hml, hown, hts, hr, hlocks, hKK⟩ := X1
  have ht : ∀ w ∈ TB, w.before args s = true := fun w h => hts w (List.mem_cons_of_mem _ h)
  have hK := hKK.1
  unfold B_Mo_comes_8 at h
  refine lv_aload_n hx hb d_Mo_comes_8 rfl (lv_at hl 0 rfl) ?_
  refine gt_Mo_input hx hb ht hown hK hI (ht _ m_846) d_Mo_comes_9 ?_
  refine lv_aload_n hx hb d_Mo_comes_12 rfl (lv_at hl 0 rfl) ?_
  refine gt_Mo_inputs hx hb ht hown hK hI (ht _ m_847) d_Mo_comes_13 ?_
  refine lv_iload_n hx hb d_Mo_comes_16 rfl (lv_at hl 1 rfl) ?_
  by_cases hc1 : ((Mo_inputs s0) < 0 ∨ 202 ≤ (Mo_inputs s0).toNatClampNeg)
  · exact no_s (it_t h hc1)
  have h := it_f h hc1
  refine as_Mo_input hx hb hK hI hS hc1 d_Mo_comes_17 (fun H locs hI hS => ?_)
  refine lv_aload_n hx hb d_Mo_comes_18 rfl (lv_at hl 0 rfl) ?_
  refine lv_dup hx hb d_Mo_comes_19 rfl ?_
  refine gt_Mo_inputs hx hb ht hown hK hI (ht _ m_847) d_Mo_comes_20 ?_
  refine lv_iconst (v := 1) hx hb d_Mo_comes_23 (by decide) ?_
  refine lv_iadd hx hb d_Mo_comes_24 ?_
  refine pt_Mo_inputs hx hb ht hown hK hI hS (ht _ m_847) d_Mo_comes_25 (fun H locs hI hS => ?_)
  refine lv_aload_n hx hb d_Mo_comes_28 rfl (lv_at hl 0 rfl) ?_
  refine gt_Mo_inputs hx hb ht hown hK hI (ht _ m_847) d_Mo_comes_29 ?_
  refine lv_iconst (v := 2) hx hb d_Mo_comes_32 (by decide) ?_
  refine lv_icmp_ne (tgt := 70) hx hb d_Mo_comes_33 (by decide) (fun hc => ?_) (fun hc => ?_)
  · have h := it_f h hc
    exact t_Mo_comes_70 X (lv_sub hl [0] rfl) hI hS h
  · have h := it_t h hc
    exact t_Mo_comes_36 X (lv_sub hl [0, 1] rfl) hI hS h
set_option maxRecDepth 100000 in
set_option maxHeartbeats 4000000 in
theorem t_Mo_comes_7 {p : Program} {l : Launch} {e : Env} {s : State} {m : MethodId} {args : Array Value} {below : List Frame} {meth : Method} {c : Code} {D : va_G} {A : Nat → Prop} {g : Nat → ClassId} {rest : va_W} {a0 : Nat → Nat} {ls : Array Slot} {H : Heap} {locs : List Loc} {s0 : S_Mo} {out : S_Mo} (X : Cx p s m args meth c prog_11_method_34_code 2 ws_Mo_comes R_Mo none D g) (hl : lv_has ls 2 []) (hI : Iw D A (w_Mo g a0 s0 ++ (rest)) H) (hS : va_S A s.heap H locs) (h : B_Mo_comes_7  s0 = some out) : W p l e (headSpec ws_Mo_comes { frames := 12, cells := 0, slots := 0, locals := 295 }).room s m args below meth c H locs 0 0 (MQ below (QcV D A g (fun (_ : Unit) => w_Mo g a0 out ++ (rest))) args s 0 0 A) (F0 m 7 ls []) := by
  have X1 := X
  obtain ⟨hx, hb, hml, hown, hts, hr, hlocks, hKK⟩ := X1
  have ht : ∀ w ∈ TB, w.before args s = true := fun w h => hts w (List.mem_cons_of_mem _ h)
  have hK := hKK.1
  unfold B_Mo_comes_7 at h
  have h9 := Option.some.inj h
  subst h9
  exact W.vret hx hb hr (fun t ht hW => ⟨⟨(), rfl, trivial, ⟨by rw [ht]; exact hI, hKK.moved hW⟩⟩, hS.F ht⟩) hS.2.2 d_Mo_comes_7
set_option maxRecDepth 100000 in
set_option maxHeartbeats 4000000 in
theorem t_Mo_comes_0 {p : Program} {l : Launch} {e : Env} {s : State} {m : MethodId} {args : Array Value} {below : List Frame} {meth : Method} {c : Code} {D : va_G} {A : Nat → Prop} {g : Nat → ClassId} {rest : va_W} {a0 : Nat → Nat} {ls : Array Slot} {H : Heap} {locs : List Loc} {s0 : S_Mo} {x1 : Int32} {out : S_Mo} (X : Cx p s m args meth c prog_11_method_34_code 2 ws_Mo_comes R_Mo none D g) (hl : lv_has ls 2 [(0, .ref (a0 0)), (1, .int x1)]) (hI : Iw D A (w_Mo g a0 s0 ++ (rest)) H) (hS : va_S A s.heap H locs) (h : B_Mo_comes_0  s0 x1 = some out) : W p l e (headSpec ws_Mo_comes { frames := 12, cells := 0, slots := 0, locals := 295 }).room s m args below meth c H locs 0 0 (MQ below (QcV D A g (fun (_ : Unit) => w_Mo g a0 out ++ (rest))) args s 0 0 A) (F0 m 0 ls []) := by
  have X1 := X
  obtain ⟨hx, hb, hml, hown, hts, hr, hlocks, hKK⟩ := X1
  have ht : ∀ w ∈ TB, w.before args s = true := fun w h => hts w (List.mem_cons_of_mem _ h)
  have hK := hKK.1
  unfold B_Mo_comes_0 at h
  refine lv_aload_n hx hb d_Mo_comes_0 rfl (lv_at hl 0 rfl) ?_
  refine gt_Mo_line hx hb ht hown hK hI (ht _ m_844) d_Mo_comes_1 ?_
  refine lv_if_ne (tgt := 8) hx hb d_Mo_comes_4 (by decide) (fun hc => ?_) (fun hc => ?_)
  · have h := it_f h hc
    exact t_Mo_comes_8 X (lv_sub hl [0, 1] rfl) hI hS h
  · have h := it_t h hc
    exact t_Mo_comes_7 X (lv_sub hl [] rfl) hI hS h
set_option maxRecDepth 100000 in
set_option maxHeartbeats 4000000 in
theorem c_Mo_comes {l : Launch} {D : va_G} {A : Nat → Prop} {g : Nat → ClassId} {rest : va_W} {a0 : Nat → Nat} {s0 : S_Mo} {x1 : Int32} {out : S_Mo} (h : F_Mo_comes s0 x1 = some out) : Met l y_Mo_comes ws_Mo_comes { frames := 12, cells := 0, slots := 0, locals := 295 } (PcW D A g [.ref (a0 0), .int x1] (w_Mo g a0 s0 ++ (rest))) (QcV D A g (fun (_ : Unit) => w_Mo g a0 out ++ (rest))) 0 0 A := by
  refine Met.ofW (cc := prog_11_method_34_code) (maxL := 2) (ret := none) (by decide) rfl ?_
  intro p e s m args below meth c s₁ B hml hv
  obtain ⟨rfl, hI, hK⟩ := hv
  have hl := lv_entry [.ref (a0 0), .int x1] (n := 2) (Nat.le_of_ble_eq_true rfl)
  rw [lg_entry_eq]
  generalize (lg_sl [.ref (a0 0), .int x1] ++ List.replicate (2 - (lg_sl [.ref (a0 0), .int x1]).length) Slot.unset).toArray = ls at hl ⊢
  have hl : lv_has ls 2 [(0, .ref (a0 0)), (1, .int x1)] := hl
  exact t_Mo_comes_0 ⟨B.exec, B.bytes, hml, findClass_of_methodNamed B.named, atoms_spec (ws := ws_Mo_comes) B.pre, B.returns, B.notSynchronized, hK⟩ (lv_sub hl [0, 1] rfl) hI va_S.rf h
def ws_Mo_feed : List Cond := .code y_Mo_feed prog_11_method_32_code 5 (some .boolean) :: TB
def B_Mo_feed_33 (s0 : S_Mo) : Option (Int32 × S_Mo) :=
  some ((0 : Int32), s0)
def B_Mo_feed_67 (s0 : S_Mo) : Option (Int32 × S_Mo) :=
  some ((1 : Int32), s0)
def B_Mo_feed_45 (k40 : S_Mo × Int64 × Int32 → Option (Int32 × S_Mo)) (s0 : S_Mo) (x1 : Int64) (x4 : Int32) : Option (Int32 × S_Mo) :=
  ((F_Mo_comes s0 (((x1 >>> (((8 : Int32) * x4).toInt64 &&& 63)) &&& (255 : Int64)).toInt32)).bind fun o1 => (k40 (o1, x1, (x4 + (-1)))))
def B_Mo_feed_40 (k40 : S_Mo × Int64 × Int32 → Option (Int32 × S_Mo)) (s0 : S_Mo) (x1 : Int64) (x4 : Int32) : Option (Int32 × S_Mo) :=
  (if x4 < 0 then (B_Mo_feed_67 s0) else (B_Mo_feed_45 k40 s0 x1 x4))
def L_Mo_feed_40 (v : S_Mo × Int64 × Int32) : Option (Int32 × S_Mo) := lp (fun k40 v => B_Mo_feed_40  k40  v.1 v.2.1 v.2.2) FU v
def B_Mo_feed_35 (s0 : S_Mo) (x1 : Int64) (x3 : Int32) : Option (Int32 × S_Mo) :=
  (L_Mo_feed_40 (s0, x1, (x3 - (1 : Int32))))
def B_Mo_feed_26 (s0 : S_Mo) (x1 : Int64) (x3 : Int32) : Option (Int32 × S_Mo) :=
  (if (Mo_line s0) = 0 then (B_Mo_feed_33 s0) else (B_Mo_feed_35 s0 x1 x3))
def B_Mo_feed_16 (s0 : S_Mo) (x1 : Int64) (x3 : Int32) (y0 : Int32) : Option (Int32 × S_Mo) :=
  (if 0 < (Mo_code (Mo_set_code s0 y0)) then (B_Mo_feed_33 (Mo_set_code s0 y0)) else (B_Mo_feed_26 (Mo_set_code s0 y0) x1 x3))
def B_Mo_feed_15 (s0 : S_Mo) (x1 : Int64) (x3 : Int32) : Option (Int32 × S_Mo) :=
  (B_Mo_feed_16 s0 x1 x3 (1 : Int32))
def B_Mo_feed_11 (s0 : S_Mo) (x1 : Int64) (x3 : Int32) : Option (Int32 × S_Mo) :=
  (B_Mo_feed_16 s0 x1 x3 (0 : Int32))
def B_Mo_feed_0 (s0 : S_Mo) (x1 : Int64) (x3 : Int32) : Option (Int32 × S_Mo) :=
  ((F_Mo_in x3 (1 : Int32) (8 : Int32)).bind fun o1 => (if o1 = 0 then (B_Mo_feed_15 s0 x1 x3) else (B_Mo_feed_11 s0 x1 x3)))
def F_Mo_feed (s0 : S_Mo) (x1 : Int64) (x3 : Int32) : Option (Int32 × S_Mo) := B_Mo_feed_0 s0 x1 x3
set_option maxRecDepth 100000 in
set_option maxHeartbeats 4000000 in
theorem t_Mo_feed_33 {p : Program} {l : Launch} {e : Env} {s : State} {m : MethodId} {args : Array Value} {below : List Frame} {meth : Method} {c : Code} {D : va_G} {A : Nat → Prop} {g : Nat → ClassId} {rest : va_W} {a0 : Nat → Nat} {ls : Array Slot} {H : Heap} {locs : List Loc} {s0 : S_Mo} {out : Int32 × S_Mo} (X : Cx p s m args meth c prog_11_method_32_code 5 ws_Mo_feed R_Mo (some .boolean) D g) (hl : lv_has ls 5 []) (hI : Iw D A (w_Mo g a0 s0 ++ (rest)) H) (hS : va_S A s.heap H locs) (h : B_Mo_feed_33  s0 = some out) : W p l e (headSpec ws_Mo_feed { frames := 13, cells := 0, slots := 0, locals := 316 }).room s m args below meth c H locs 0 0 (MQ below (QcI D A g out.1 (fun (_ : Unit) => w_Mo g a0 out.2 ++ (rest))) args s 0 0 A) (F0 m 33 ls []) := by
  have X1 := X
  obtain ⟨hx, hb, hml, hown, hts, hr, hlocks, hKK⟩ := X1
  have ht : ∀ w ∈ TB, w.before args s = true := fun w h => hts w (List.mem_cons_of_mem _ h)
  have hK := hKK.1
  unfold B_Mo_feed_33 at h
  refine lv_iconst (v := 0) hx hb d_Mo_feed_33 (by decide) ?_
  have h9 := Option.some.inj h
  subst h9
  exact W.zret (v := (0 : Int32)) hx hb hr rfl (fun t ht hW => ⟨⟨_, (), rfl, rfl, ⟨by rw [ht]; exact hI, hKK.moved hW⟩⟩, hS.F ht⟩) hS.2.2 d_Mo_feed_34
set_option maxRecDepth 100000 in
set_option maxHeartbeats 4000000 in
theorem t_Mo_feed_67 {p : Program} {l : Launch} {e : Env} {s : State} {m : MethodId} {args : Array Value} {below : List Frame} {meth : Method} {c : Code} {D : va_G} {A : Nat → Prop} {g : Nat → ClassId} {rest : va_W} {a0 : Nat → Nat} {ls : Array Slot} {H : Heap} {locs : List Loc} {s0 : S_Mo} {out : Int32 × S_Mo} (X : Cx p s m args meth c prog_11_method_32_code 5 ws_Mo_feed R_Mo (some .boolean) D g) (hl : lv_has ls 5 []) (hI : Iw D A (w_Mo g a0 s0 ++ (rest)) H) (hS : va_S A s.heap H locs) (h : B_Mo_feed_67  s0 = some out) : W p l e (headSpec ws_Mo_feed { frames := 13, cells := 0, slots := 0, locals := 316 }).room s m args below meth c H locs 0 0 (MQ below (QcI D A g out.1 (fun (_ : Unit) => w_Mo g a0 out.2 ++ (rest))) args s 0 0 A) (F0 m 67 ls []) := by
  have X1 := X
  obtain ⟨hx, hb, hml, hown, hts, hr, hlocks, hKK⟩ := X1
  have ht : ∀ w ∈ TB, w.before args s = true := fun w h => hts w (List.mem_cons_of_mem _ h)
  have hK := hKK.1
  unfold B_Mo_feed_67 at h
  refine lv_iconst (v := 1) hx hb d_Mo_feed_67 (by decide) ?_
  have h9 := Option.some.inj h
  subst h9
  exact W.zret (v := (1 : Int32)) hx hb hr rfl (fun t ht hW => ⟨⟨_, (), rfl, rfl, ⟨by rw [ht]; exact hI, hKK.moved hW⟩⟩, hS.F ht⟩) hS.2.2 d_Mo_feed_68
set_option maxRecDepth 100000 in
set_option maxHeartbeats 4000000 in
theorem t_Mo_feed_45 {p : Program} {l : Launch} {e : Env} {s : State} {m : MethodId} {args : Array Value} {below : List Frame} {meth : Method} {c : Code} {D : va_G} {A : Nat → Prop} {g : Nat → ClassId} {rest : va_W} {a0 : Nat → Nat} {ls : Array Slot} {H : Heap} {locs : List Loc} {k40 : S_Mo × Int64 × Int32 → Option (Int32 × S_Mo)} {s0 : S_Mo} {x1 : Int64} {x4 : Int32} {out : Int32 × S_Mo} (X : Cx p s m args meth c prog_11_method_32_code 5 ws_Mo_feed R_Mo (some .boolean) D g) (hk40 : ∀ (v : S_Mo × Int64 × Int32) (ls : Array Slot) (H : Heap) (locs : List Loc), lv_has ls 5 [(0, .ref (a0 0)), (1, .long v.2.1), (4, .int v.2.2)] → Iw D A (w_Mo g a0 v.1 ++ (rest)) H → va_S A s.heap H locs → k40 v = some out → W p l e (headSpec ws_Mo_feed { frames := 13, cells := 0, slots := 0, locals := 316 }).room s m args below meth c H locs 0 0 (MQ below (QcI D A g out.1 (fun (_ : Unit) => w_Mo g a0 out.2 ++ (rest))) args s 0 0 A) (F0 m 40 ls [])) (hl : lv_has ls 5 [(0, .ref (a0 0)), (1, .long x1), (4, .int x4)]) (hI : Iw D A (w_Mo g a0 s0 ++ (rest)) H) (hS : va_S A s.heap H locs) (h : B_Mo_feed_45 k40 s0 x1 x4 = some out) : W p l e (headSpec ws_Mo_feed { frames := 13, cells := 0, slots := 0, locals := 316 }).room s m args below meth c H locs 0 0 (MQ below (QcI D A g out.1 (fun (_ : Unit) => w_Mo g a0 out.2 ++ (rest))) args s 0 0 A) (F0 m 45 ls []) := by
  have X1 := X
  obtain ⟨hx, hb, hml, hown, hts, hr, hlocks, hKK⟩ := X1
  have ht : ∀ w ∈ TB, w.before args s = true := fun w h => hts w (List.mem_cons_of_mem _ h)
  have hK := hKK.1
  unfold B_Mo_feed_45 at h
  refine lv_aload_n hx hb d_Mo_feed_45 rfl (lv_at hl 0 rfl) ?_
  refine lv_lload_n hx hb d_Mo_feed_46 rfl (lv_at hl 1 rfl) ?_
  refine lv_bipush (v := 8) hx hb d_Mo_feed_47 (by decide) ?_
  refine lv_iload hx hb d_Mo_feed_49 (lv_at hl 2 rfl) ?_
  refine lv_imul hx hb d_Mo_feed_51 ?_
  refine lv_lshr hx hb d_Mo_feed_52 rfl ?_
  refine lv_ldc2 (v := 255) hx hb hown (ht _ m_978) d_Mo_feed_53 ?_
  refine lv_land hx hb d_Mo_feed_56 ?_
  refine lv_l2i hx hb d_Mo_feed_57 rfl ?_
  obtain ⟨o1, ho2, h⟩ := bd_s h
  refine cl_v (W1 := fun (_ : Unit) => w_Mo g a0 o1 ++ (rest)) (va_runV (As := [.int (((x1 >>> (((8 : Int32) * x4).toInt64 &&& 63)) &&& (255 : Int64)).toInt32)]) (rest := []) ⟨hx, hb, hml, hown, ht⟩ (c_Mo_comes (l := l) (D := D) (A := A) (g := g) (rest := rest) (a0 := a0) ho2) (cwV 1 ht (gd_V m_1084 m_1086 mp_55 m_11 m_1087) rfl rfl rfl (by decide +kernel) ⟨(Nat.le_of_ble_eq_true rfl), (Nat.le_of_ble_eq_true rfl)⟩) (prV (ci := 9) (q0 := 0) hKK hI (List.Perm.refl _) rfl rfl rfl) rfl rfl hl.1 rfl (lv_room (Nat.le_of_ble_eq_true rfl)) d_Mo_feed_58 ⟨(Nat.le_of_ble_eq_true rfl), (Nat.le_of_ble_eq_true rfl)⟩) hS (fun _ => ((List.Perm.refl _)).symm) (fun _ H locs hI hS => ?_)
  have hI : Iw D A (w_Mo g a0 o1 ++ (rest)) H := hI
  refine lv_iinc (k := 2) (v := (x4 + (-1))) hx hb d_Mo_feed_61 hl rfl (congrArg (fun z => x4 + z) (by decide)) (Nat.le_of_ble_eq_true rfl) rfl (fun ls hl => ?_)
  have hl : lv_has ls 5 [(4, .int (x4 + (-1))), (0, .ref (a0 0)), (1, .long x1)] := hl
  refine lv_goto (tgt := 40) hx hb d_Mo_feed_64 (by decide) ?_
  exact hk40 (o1, x1, (x4 + (-1))) _ _ _ (lv_sub hl [1, 2, 0] rfl) hI hS h
set_option maxRecDepth 100000 in
set_option maxHeartbeats 4000000 in
theorem t_Mo_feed_40 {p : Program} {l : Launch} {e : Env} {s : State} {m : MethodId} {args : Array Value} {below : List Frame} {meth : Method} {c : Code} {D : va_G} {A : Nat → Prop} {g : Nat → ClassId} {rest : va_W} {a0 : Nat → Nat} {ls : Array Slot} {H : Heap} {locs : List Loc} {k40 : S_Mo × Int64 × Int32 → Option (Int32 × S_Mo)} {s0 : S_Mo} {x1 : Int64} {x4 : Int32} {out : Int32 × S_Mo} (X : Cx p s m args meth c prog_11_method_32_code 5 ws_Mo_feed R_Mo (some .boolean) D g) (hk40 : ∀ (v : S_Mo × Int64 × Int32) (ls : Array Slot) (H : Heap) (locs : List Loc), lv_has ls 5 [(0, .ref (a0 0)), (1, .long v.2.1), (4, .int v.2.2)] → Iw D A (w_Mo g a0 v.1 ++ (rest)) H → va_S A s.heap H locs → k40 v = some out → W p l e (headSpec ws_Mo_feed { frames := 13, cells := 0, slots := 0, locals := 316 }).room s m args below meth c H locs 0 0 (MQ below (QcI D A g out.1 (fun (_ : Unit) => w_Mo g a0 out.2 ++ (rest))) args s 0 0 A) (F0 m 40 ls [])) (hl : lv_has ls 5 [(0, .ref (a0 0)), (1, .long x1), (4, .int x4)]) (hI : Iw D A (w_Mo g a0 s0 ++ (rest)) H) (hS : va_S A s.heap H locs) (h : B_Mo_feed_40 k40 s0 x1 x4 = some out) : W p l e (headSpec ws_Mo_feed { frames := 13, cells := 0, slots := 0, locals := 316 }).room s m args below meth c H locs 0 0 (MQ below (QcI D A g out.1 (fun (_ : Unit) => w_Mo g a0 out.2 ++ (rest))) args s 0 0 A) (F0 m 40 ls []) := by
  have X1 := X
  obtain ⟨hx, hb, hml, hown, hts, hr, hlocks, hKK⟩ := X1
  have ht : ∀ w ∈ TB, w.before args s = true := fun w h => hts w (List.mem_cons_of_mem _ h)
  have hK := hKK.1
  unfold B_Mo_feed_40 at h
  refine lv_iload hx hb d_Mo_feed_40 (lv_at hl 2 rfl) ?_
  refine lv_if_lt (tgt := 67) hx hb d_Mo_feed_42 (by decide) (fun hc => ?_) (fun hc => ?_)
  · have h := it_t h hc
    exact t_Mo_feed_67 X (lv_sub hl [] rfl) hI hS h
  · have h := it_f h hc
    exact t_Mo_feed_45 X hk40 (lv_sub hl [0, 1, 2] rfl) hI hS h
set_option maxRecDepth 100000 in
set_option maxHeartbeats 4000000 in
theorem T_Mo_feed_40 {p : Program} {l : Launch} {e : Env} {s : State} {m : MethodId} {args : Array Value} {below : List Frame} {meth : Method} {c : Code} {D : va_G} {A : Nat → Prop} {g : Nat → ClassId} {rest : va_W} {a0 : Nat → Nat} {ls : Array Slot} {H : Heap} {locs : List Loc} {s0 : S_Mo} {x1 : Int64} {x4 : Int32} {out : Int32 × S_Mo} (X : Cx p s m args meth c prog_11_method_32_code 5 ws_Mo_feed R_Mo (some .boolean) D g) (hl : lv_has ls 5 [(0, .ref (a0 0)), (1, .long x1), (4, .int x4)]) (hI : Iw D A (w_Mo g a0 s0 ++ (rest)) H) (hS : va_S A s.heap H locs) (h : L_Mo_feed_40   (s0, x1, x4) = some out) : W p l e (headSpec ws_Mo_feed { frames := 13, cells := 0, slots := 0, locals := 316 }).room s m args below meth c H locs 0 0 (MQ below (QcI D A g out.1 (fun (_ : Unit) => w_Mo g a0 out.2 ++ (rest))) args s 0 0 A) (F0 m 40 ls []) := by
  unfold L_Mo_feed_40 at h
  exact lp_ind (P := fun v => ∀ (ls : Array Slot) (H : Heap) (locs : List Loc), lv_has ls 5 [(0, .ref (a0 0)), (1, .long v.2.1), (4, .int v.2.2)] → Iw D A (w_Mo g a0 v.1 ++ (rest)) H → va_S A s.heap H locs → W p l e (headSpec ws_Mo_feed { frames := 13, cells := 0, slots := 0, locals := 316 }).room s m args below meth c H locs 0 0 (MQ below (QcI D A g out.1 (fun (_ : Unit) => w_Mo g a0 out.2 ++ (rest))) args s 0 0 A) (F0 m 40 ls [])) (fun k v ih hb ls H locs  hl hI hS => t_Mo_feed_40 X  (fun v' ls H locs  hl hI hS h' => ih v' h' ls H locs  hl hI hS) hl hI hS hb) FU _ h ls H locs  hl hI hS
set_option maxRecDepth 100000 in
set_option maxHeartbeats 4000000 in
theorem t_Mo_feed_35 {p : Program} {l : Launch} {e : Env} {s : State} {m : MethodId} {args : Array Value} {below : List Frame} {meth : Method} {c : Code} {D : va_G} {A : Nat → Prop} {g : Nat → ClassId} {rest : va_W} {a0 : Nat → Nat} {ls : Array Slot} {H : Heap} {locs : List Loc} {s0 : S_Mo} {x1 : Int64} {x3 : Int32} {out : Int32 × S_Mo} (X : Cx p s m args meth c prog_11_method_32_code 5 ws_Mo_feed R_Mo (some .boolean) D g) (hl : lv_has ls 5 [(0, .ref (a0 0)), (1, .long x1), (3, .int x3)]) (hI : Iw D A (w_Mo g a0 s0 ++ (rest)) H) (hS : va_S A s.heap H locs) (h : B_Mo_feed_35  s0 x1 x3 = some out) : W p l e (headSpec ws_Mo_feed { frames := 13, cells := 0, slots := 0, locals := 316 }).room s m args below meth c H locs 0 0 (MQ below (QcI D A g out.1 (fun (_ : Unit) => w_Mo g a0 out.2 ++ (rest))) args s 0 0 A) (F0 m 35 ls []) := by
  have X1 := X
  obtain ⟨hx, hb, hml, hown, hts, hr, hlocks, hKK⟩ := X1
  have ht : ∀ w ∈ TB, w.before args s = true := fun w h => hts w (List.mem_cons_of_mem _ h)
  have hK := hKK.1
  unfold B_Mo_feed_35 at h
  refine lv_iload_n hx hb d_Mo_feed_35 rfl (lv_at hl 2 rfl) ?_
  refine lv_iconst (v := 1) hx hb d_Mo_feed_36 (by decide) ?_
  refine lv_isub hx hb d_Mo_feed_37 ?_
  refine lv_istore hx hb d_Mo_feed_38 hl (Nat.le_of_ble_eq_true rfl) rfl (fun ls hl => ?_)
  have hl : lv_has ls 5 [(4, .int (x3 - (1 : Int32))), (0, .ref (a0 0)), (1, .long x1), (3, .int x3)] := hl
  exact T_Mo_feed_40 X (lv_sub hl [1, 2, 0] rfl) hI hS h
set_option maxRecDepth 100000 in
set_option maxHeartbeats 4000000 in
theorem t_Mo_feed_26 {p : Program} {l : Launch} {e : Env} {s : State} {m : MethodId} {args : Array Value} {below : List Frame} {meth : Method} {c : Code} {D : va_G} {A : Nat → Prop} {g : Nat → ClassId} {rest : va_W} {a0 : Nat → Nat} {ls : Array Slot} {H : Heap} {locs : List Loc} {s0 : S_Mo} {x1 : Int64} {x3 : Int32} {out : Int32 × S_Mo} (X : Cx p s m args meth c prog_11_method_32_code 5 ws_Mo_feed R_Mo (some .boolean) D g) (hl : lv_has ls 5 [(0, .ref (a0 0)), (1, .long x1), (3, .int x3)]) (hI : Iw D A (w_Mo g a0 s0 ++ (rest)) H) (hS : va_S A s.heap H locs) (h : B_Mo_feed_26  s0 x1 x3 = some out) : W p l e (headSpec ws_Mo_feed { frames := 13, cells := 0, slots := 0, locals := 316 }).room s m args below meth c H locs 0 0 (MQ below (QcI D A g out.1 (fun (_ : Unit) => w_Mo g a0 out.2 ++ (rest))) args s 0 0 A) (F0 m 26 ls []) := by
  have X1 := X
  obtain ⟨hx, hb, hml, hown, hts, hr, hlocks, hKK⟩ := X1
  have ht : ∀ w ∈ TB, w.before args s = true := fun w h => hts w (List.mem_cons_of_mem _ h)
  have hK := hKK.1
  unfold B_Mo_feed_26 at h
  refine lv_aload_n hx hb d_Mo_feed_26 rfl (lv_at hl 0 rfl) ?_
  refine gt_Mo_line hx hb ht hown hK hI (ht _ m_844) d_Mo_feed_27 ?_
  refine lv_if_ne (tgt := 35) hx hb d_Mo_feed_30 (by decide) (fun hc => ?_) (fun hc => ?_)
  · have h := it_f h hc
    exact t_Mo_feed_35 X (lv_sub hl [0, 1, 2] rfl) hI hS h
  · have h := it_t h hc
    exact t_Mo_feed_33 X (lv_sub hl [] rfl) hI hS h
set_option maxRecDepth 100000 in
set_option maxHeartbeats 4000000 in
theorem t_Mo_feed_16 {p : Program} {l : Launch} {e : Env} {s : State} {m : MethodId} {args : Array Value} {below : List Frame} {meth : Method} {c : Code} {D : va_G} {A : Nat → Prop} {g : Nat → ClassId} {rest : va_W} {a0 : Nat → Nat} {ls : Array Slot} {H : Heap} {locs : List Loc} {s0 : S_Mo} {x1 : Int64} {x3 : Int32} {y0 : Int32} {out : Int32 × S_Mo} (X : Cx p s m args meth c prog_11_method_32_code 5 ws_Mo_feed R_Mo (some .boolean) D g) (hl : lv_has ls 5 [(0, .ref (a0 0)), (1, .long x1), (3, .int x3)]) (hI : Iw D A (w_Mo g a0 s0 ++ (rest)) H) (hS : va_S A s.heap H locs) (h : B_Mo_feed_16  s0 x1 x3 y0 = some out) : W p l e (headSpec ws_Mo_feed { frames := 13, cells := 0, slots := 0, locals := 316 }).room s m args below meth c H locs 0 0 (MQ below (QcI D A g out.1 (fun (_ : Unit) => w_Mo g a0 out.2 ++ (rest))) args s 0 0 A) (F0 m 16 ls [.int y0, .ref (a0 0)]) := by
  have X1 := X
  obtain ⟨hx, hb, hml, hown, hts, hr, hlocks, hKK⟩ := X1
  have ht : ∀ w ∈ TB, w.before args s = true := fun w h => hts w (List.mem_cons_of_mem _ h)
  have hK := hKK.1
  unfold B_Mo_feed_16 at h
  refine pt_Mo_code hx hb ht hown hK hI hS (ht _ m_817) d_Mo_feed_16 (fun H locs hI hS => ?_)
  refine lv_aload_n hx hb d_Mo_feed_19 rfl (lv_at hl 0 rfl) ?_
  refine gt_Mo_code hx hb ht hown hK hI (ht _ m_817) d_Mo_feed_20 ?_
  refine lv_if_gt (tgt := 33) hx hb d_Mo_feed_23 (by decide) (fun hc => ?_) (fun hc => ?_)
  · have h := it_t h hc
    exact t_Mo_feed_33 X (lv_sub hl [] rfl) hI hS h
  · have h := it_f h hc
    exact t_Mo_feed_26 X (lv_sub hl [0, 1, 2] rfl) hI hS h
set_option maxRecDepth 100000 in
set_option maxHeartbeats 4000000 in
theorem t_Mo_feed_15 {p : Program} {l : Launch} {e : Env} {s : State} {m : MethodId} {args : Array Value} {below : List Frame} {meth : Method} {c : Code} {D : va_G} {A : Nat → Prop} {g : Nat → ClassId} {rest : va_W} {a0 : Nat → Nat} {ls : Array Slot} {H : Heap} {locs : List Loc} {s0 : S_Mo} {x1 : Int64} {x3 : Int32} {out : Int32 × S_Mo} (X : Cx p s m args meth c prog_11_method_32_code 5 ws_Mo_feed R_Mo (some .boolean) D g) (hl : lv_has ls 5 [(0, .ref (a0 0)), (1, .long x1), (3, .int x3)]) (hI : Iw D A (w_Mo g a0 s0 ++ (rest)) H) (hS : va_S A s.heap H locs) (h : B_Mo_feed_15  s0 x1 x3 = some out) : W p l e (headSpec ws_Mo_feed { frames := 13, cells := 0, slots := 0, locals := 316 }).room s m args below meth c H locs 0 0 (MQ below (QcI D A g out.1 (fun (_ : Unit) => w_Mo g a0 out.2 ++ (rest))) args s 0 0 A) (F0 m 15 ls [.ref (a0 0)]) := by
  have X1 := X
  obtain ⟨hx, hb, hml, hown, hts, hr, hlocks, hKK⟩ := X1
  have ht : ∀ w ∈ TB, w.before args s = true := fun w h => hts w (List.mem_cons_of_mem _ h)
  have hK := hKK.1
  unfold B_Mo_feed_15 at h
  refine lv_iconst (v := 1) hx hb d_Mo_feed_15 (by decide) ?_
  exact t_Mo_feed_16 X (lv_sub hl [0, 1, 2] rfl) hI hS h
set_option maxRecDepth 100000 in
set_option maxHeartbeats 4000000 in
theorem t_Mo_feed_11 {p : Program} {l : Launch} {e : Env} {s : State} {m : MethodId} {args : Array Value} {below : List Frame} {meth : Method} {c : Code} {D : va_G} {A : Nat → Prop} {g : Nat → ClassId} {rest : va_W} {a0 : Nat → Nat} {ls : Array Slot} {H : Heap} {locs : List Loc} {s0 : S_Mo} {x1 : Int64} {x3 : Int32} {out : Int32 × S_Mo} (X : Cx p s m args meth c prog_11_method_32_code 5 ws_Mo_feed R_Mo (some .boolean) D g) (hl : lv_has ls 5 [(0, .ref (a0 0)), (1, .long x1), (3, .int x3)]) (hI : Iw D A (w_Mo g a0 s0 ++ (rest)) H) (hS : va_S A s.heap H locs) (h : B_Mo_feed_11  s0 x1 x3 = some out) : W p l e (headSpec ws_Mo_feed { frames := 13, cells := 0, slots := 0, locals := 316 }).room s m args below meth c H locs 0 0 (MQ below (QcI D A g out.1 (fun (_ : Unit) => w_Mo g a0 out.2 ++ (rest))) args s 0 0 A) (F0 m 11 ls [.ref (a0 0)]) := by
  have X1 := X
  obtain ⟨hx, hb, hml, hown, hts, hr, hlocks, hKK⟩ := X1
  have ht : ∀ w ∈ TB, w.before args s = true := fun w h => hts w (List.mem_cons_of_mem _ h)
  have hK := hKK.1
  unfold B_Mo_feed_11 at h
  refine lv_iconst (v := 0) hx hb d_Mo_feed_11 (by decide) ?_
  refine lv_goto (tgt := 16) hx hb d_Mo_feed_12 (by decide) ?_
  exact t_Mo_feed_16 X (lv_sub hl [0, 1, 2] rfl) hI hS h
set_option maxRecDepth 100000 in
set_option maxHeartbeats 4000000 in
theorem t_Mo_feed_0 {p : Program} {l : Launch} {e : Env} {s : State} {m : MethodId} {args : Array Value} {below : List Frame} {meth : Method} {c : Code} {D : va_G} {A : Nat → Prop} {g : Nat → ClassId} {rest : va_W} {a0 : Nat → Nat} {ls : Array Slot} {H : Heap} {locs : List Loc} {s0 : S_Mo} {x1 : Int64} {x3 : Int32} {out : Int32 × S_Mo} (X : Cx p s m args meth c prog_11_method_32_code 5 ws_Mo_feed R_Mo (some .boolean) D g) (hl : lv_has ls 5 [(0, .ref (a0 0)), (1, .long x1), (3, .int x3)]) (hI : Iw D A (w_Mo g a0 s0 ++ (rest)) H) (hS : va_S A s.heap H locs) (h : B_Mo_feed_0  s0 x1 x3 = some out) : W p l e (headSpec ws_Mo_feed { frames := 13, cells := 0, slots := 0, locals := 316 }).room s m args below meth c H locs 0 0 (MQ below (QcI D A g out.1 (fun (_ : Unit) => w_Mo g a0 out.2 ++ (rest))) args s 0 0 A) (F0 m 0 ls []) := by
  have X1 := X
  obtain ⟨hx, hb, hml, hown, hts, hr, hlocks, hKK⟩ := X1
  have ht : ∀ w ∈ TB, w.before args s = true := fun w h => hts w (List.mem_cons_of_mem _ h)
  have hK := hKK.1
  unfold B_Mo_feed_0 at h
  refine lv_aload_n hx hb d_Mo_feed_0 rfl (lv_at hl 0 rfl) ?_
  refine lv_iload_n hx hb d_Mo_feed_1 rfl (lv_at hl 2 rfl) ?_
  refine lv_iconst (v := 1) hx hb d_Mo_feed_2 (by decide) ?_
  refine lv_bipush (v := 8) hx hb d_Mo_feed_3 (by decide) ?_
  obtain ⟨o1, ho2, h⟩ := bd_s h
  refine cl_i (W1 := fun (_ : Unit) => w_Mo g a0 s0 ++ (rest)) (va_runS (As := [.int x3, .int (1 : Int32), .int (8 : Int32)]) (rest := [.ref (a0 0)]) ⟨hx, hb, hml, hown, ht⟩ (c_Mo_in (l := l) (D := D) (A := A) (g := g) (rest := w_Mo g a0 s0 ++ (rest))  ho2) (va_cwS 3 ht (gd_S m_975 m_976 m_11 m_977) rfl rfl rfl (by decide +kernel) ⟨(Nat.le_of_ble_eq_true rfl), (Nat.le_of_ble_eq_true rfl)⟩) (prS hKK hI (List.Perm.refl _)) rfl rfl hl.1 rfl (lv_room (Nat.le_of_ble_eq_true rfl)) d_Mo_feed_5 ⟨(Nat.le_of_ble_eq_true rfl), (Nat.le_of_ble_eq_true rfl)⟩) hS (fun _ => ((List.Perm.refl _)).symm) (fun _ H locs hI hS => ?_)
  have hI : Iw D A (w_Mo g a0 s0 ++ (rest)) H := hI
  refine lv_if_eq (tgt := 15) hx hb d_Mo_feed_8 (by decide) (fun hc => ?_) (fun hc => ?_)
  · have h := it_t h hc
    exact t_Mo_feed_15 X (lv_sub hl [0, 1, 2] rfl) hI hS h
  · have h := it_f h hc
    exact t_Mo_feed_11 X (lv_sub hl [0, 1, 2] rfl) hI hS h
set_option maxRecDepth 100000 in
set_option maxHeartbeats 4000000 in
theorem c_Mo_feed {l : Launch} {D : va_G} {A : Nat → Prop} {g : Nat → ClassId} {rest : va_W} {a0 : Nat → Nat} {s0 : S_Mo} {x1 : Int64} {x3 : Int32} {out : Int32 × S_Mo} (h : F_Mo_feed s0 x1 x3 = some out) : Met l y_Mo_feed ws_Mo_feed { frames := 13, cells := 0, slots := 0, locals := 316 } (PcW D A g [.ref (a0 0), .long x1, .int x3] (w_Mo g a0 s0 ++ (rest))) (QcI D A g out.1 (fun (_ : Unit) => w_Mo g a0 out.2 ++ (rest))) 0 0 A := by
  refine Met.ofW (cc := prog_11_method_32_code) (maxL := 5) (ret := (some .boolean)) (by decide) rfl ?_
  intro p e s m args below meth c s₁ B hml hv
  obtain ⟨rfl, hI, hK⟩ := hv
  have hl := lv_entry [.ref (a0 0), .long x1, .int x3] (n := 5) (Nat.le_of_ble_eq_true rfl)
  rw [lg_entry_eq]
  generalize (lg_sl [.ref (a0 0), .long x1, .int x3] ++ List.replicate (5 - (lg_sl [.ref (a0 0), .long x1, .int x3]).length) Slot.unset).toArray = ls at hl ⊢
  have hl : lv_has ls 5 [(0, .ref (a0 0)), (1, .long x1), (3, .int x3)] := hl
  exact t_Mo_feed_0 ⟨B.exec, B.bytes, hml, findClass_of_methodNamed B.named, atoms_spec (ws := ws_Mo_feed) B.pre, B.returns, B.notSynchronized, hK⟩ (lv_sub hl [0, 1, 2] rfl) hI va_S.rf h
def ws_Mo_send : List Cond := .code y_Mo_send prog_11_method_33_code 2 (some .boolean) :: TB
def B_Mo_send_40 (s0 : S_Mo) : Option (Int32 × S_Mo) :=
  some ((1 : Int32), s0)
def B_Mo_send_24 (k16 : S_Mo × Int32 → Option (Int32 × S_Mo)) (s0 : S_Mo) (x1 : Int32) : Option (Int32 × S_Mo) :=
  (if (x1 < 0 ∨ 120 ≤ x1.toNatClampNeg) then none else ((F_Mo_comes s0 ((Mo_draft s0) x1.toNatClampNeg)).bind fun o2 => (k16 (o2, (x1 + 1)))))
def B_Mo_send_16 (k16 : S_Mo × Int32 → Option (Int32 × S_Mo)) (s0 : S_Mo) (x1 : Int32) : Option (Int32 × S_Mo) :=
  (if (Mo_drafted s0) ≤ x1 then (B_Mo_send_40 s0) else (B_Mo_send_24 k16 s0 x1))
def L_Mo_send_16 (v : S_Mo × Int32) : Option (Int32 × S_Mo) := lp (fun k16 v => B_Mo_send_16  k16  v.1 v.2) FU v
def B_Mo_send_14 (s0 : S_Mo) : Option (Int32 × S_Mo) :=
  (L_Mo_send_16 (s0, (0 : Int32)))
def B_Mo_send_12 (s0 : S_Mo) : Option (Int32 × S_Mo) :=
  some ((0 : Int32), s0)
def B_Mo_send_0 (s0 : S_Mo) : Option (Int32 × S_Mo) :=
  (if (Mo_line (Mo_set_code s0 (0 : Int32))) = 0 then (B_Mo_send_12 (Mo_set_code s0 (0 : Int32))) else (B_Mo_send_14 (Mo_set_code s0 (0 : Int32))))
def F_Mo_send (s0 : S_Mo) : Option (Int32 × S_Mo) := B_Mo_send_0 s0
set_option maxRecDepth 100000 in
set_option maxHeartbeats 4000000 in
theorem t_Mo_send_40 {p : Program} {l : Launch} {e : Env} {s : State} {m : MethodId} {args : Array Value} {below : List Frame} {meth : Method} {c : Code} {D : va_G} {A : Nat → Prop} {g : Nat → ClassId} {rest : va_W} {a0 : Nat → Nat} {ls : Array Slot} {H : Heap} {locs : List Loc} {s0 : S_Mo} {out : Int32 × S_Mo} (X : Cx p s m args meth c prog_11_method_33_code 2 ws_Mo_send R_Mo (some .boolean) D g) (hl : lv_has ls 2 []) (hI : Iw D A (w_Mo g a0 s0 ++ (rest)) H) (hS : va_S A s.heap H locs) (h : B_Mo_send_40  s0 = some out) : W p l e (headSpec ws_Mo_send { frames := 13, cells := 0, slots := 0, locals := 316 }).room s m args below meth c H locs 0 0 (MQ below (QcI D A g out.1 (fun (_ : Unit) => w_Mo g a0 out.2 ++ (rest))) args s 0 0 A) (F0 m 40 ls []) := by
  have X1 := X
  obtain ⟨hx, hb, hml, hown, hts, hr, hlocks, hKK⟩ := X1
  have ht : ∀ w ∈ TB, w.before args s = true := fun w h => hts w (List.mem_cons_of_mem _ h)
  have hK := hKK.1
  unfold B_Mo_send_40 at h
  refine lv_iconst (v := 1) hx hb d_Mo_send_40 (by decide) ?_
  have h9 := Option.some.inj h
  subst h9
  exact W.zret (v := (1 : Int32)) hx hb hr rfl (fun t ht hW => ⟨⟨_, (), rfl, rfl, ⟨by rw [ht]; exact hI, hKK.moved hW⟩⟩, hS.F ht⟩) hS.2.2 d_Mo_send_41
set_option maxRecDepth 100000 in
set_option maxHeartbeats 4000000 in
theorem t_Mo_send_24 {p : Program} {l : Launch} {e : Env} {s : State} {m : MethodId} {args : Array Value} {below : List Frame} {meth : Method} {c : Code} {D : va_G} {A : Nat → Prop} {g : Nat → ClassId} {rest : va_W} {a0 : Nat → Nat} {ls : Array Slot} {H : Heap} {locs : List Loc} {k16 : S_Mo × Int32 → Option (Int32 × S_Mo)} {s0 : S_Mo} {x1 : Int32} {out : Int32 × S_Mo} (X : Cx p s m args meth c prog_11_method_33_code 2 ws_Mo_send R_Mo (some .boolean) D g) (hk16 : ∀ (v : S_Mo × Int32) (ls : Array Slot) (H : Heap) (locs : List Loc), lv_has ls 2 [(0, .ref (a0 0)), (1, .int v.2)] → Iw D A (w_Mo g a0 v.1 ++ (rest)) H → va_S A s.heap H locs → k16 v = some out → W p l e (headSpec ws_Mo_send { frames := 13, cells := 0, slots := 0, locals := 316 }).room s m args below meth c H locs 0 0 (MQ below (QcI D A g out.1 (fun (_ : Unit) => w_Mo g a0 out.2 ++ (rest))) args s 0 0 A) (F0 m 16 ls [])) (hl : lv_has ls 2 [(0, .ref (a0 0)), (1, .int x1)]) (hI : Iw D A (w_Mo g a0 s0 ++ (rest)) H) (hS : va_S A s.heap H locs) (h : B_Mo_send_24 k16 s0 x1 = some out) : W p l e (headSpec ws_Mo_send { frames := 13, cells := 0, slots := 0, locals := 316 }).room s m args below meth c H locs 0 0 (MQ below (QcI D A g out.1 (fun (_ : Unit) => w_Mo g a0 out.2 ++ (rest))) args s 0 0 A) (F0 m 24 ls []) := by
  have X1 := X
  obtain ⟨hx, hb, hml, hown, hts, hr, hlocks, hKK⟩ := X1
  have ht : ∀ w ∈ TB, w.before args s = true := fun w h => hts w (List.mem_cons_of_mem _ h)
  have hK := hKK.1
  unfold B_Mo_send_24 at h
  refine lv_aload_n hx hb d_Mo_send_24 rfl (lv_at hl 0 rfl) ?_
  refine lv_aload_n hx hb d_Mo_send_25 rfl (lv_at hl 0 rfl) ?_
  refine gt_Mo_draft hx hb ht hown hK hI (ht _ m_818) d_Mo_send_26 ?_
  refine lv_iload_n hx hb d_Mo_send_29 rfl (lv_at hl 1 rfl) ?_
  by_cases hc1 : (x1 < 0 ∨ 120 ≤ x1.toNatClampNeg)
  · exact no_s (it_t h hc1)
  have h := it_f h hc1
  refine al_Mo_draft hx hb hK hI hc1 d_Mo_send_30 ?_
  obtain ⟨o2, ho3, h⟩ := bd_s h
  refine cl_v (W1 := fun (_ : Unit) => w_Mo g a0 o2 ++ (rest)) (va_runV (As := [.int ((Mo_draft s0) x1.toNatClampNeg)]) (rest := []) ⟨hx, hb, hml, hown, ht⟩ (c_Mo_comes (l := l) (D := D) (A := A) (g := g) (rest := rest) (a0 := a0) ho3) (cwV 1 ht (gd_V m_1084 m_1086 mp_55 m_11 m_1087) rfl rfl rfl (by decide +kernel) ⟨(Nat.le_of_ble_eq_true rfl), (Nat.le_of_ble_eq_true rfl)⟩) (prV (ci := 9) (q0 := 0) hKK hI (List.Perm.refl _) rfl rfl rfl) rfl rfl hl.1 rfl (lv_room (Nat.le_of_ble_eq_true rfl)) d_Mo_send_31 ⟨(Nat.le_of_ble_eq_true rfl), (Nat.le_of_ble_eq_true rfl)⟩) hS (fun _ => ((List.Perm.refl _)).symm) (fun _ H locs hI hS => ?_)
  have hI : Iw D A (w_Mo g a0 o2 ++ (rest)) H := hI
  refine lv_iinc (k := 1) (v := (x1 + 1)) hx hb d_Mo_send_34 hl rfl (congrArg (fun z => x1 + z) (by decide)) (Nat.le_of_ble_eq_true rfl) rfl (fun ls hl => ?_)
  have hl : lv_has ls 2 [(1, .int (x1 + 1)), (0, .ref (a0 0))] := hl
  refine lv_goto (tgt := 16) hx hb d_Mo_send_37 (by decide) ?_
  exact hk16 (o2, (x1 + 1)) _ _ _ (lv_sub hl [1, 0] rfl) hI hS h
set_option maxRecDepth 100000 in
set_option maxHeartbeats 4000000 in
theorem t_Mo_send_16 {p : Program} {l : Launch} {e : Env} {s : State} {m : MethodId} {args : Array Value} {below : List Frame} {meth : Method} {c : Code} {D : va_G} {A : Nat → Prop} {g : Nat → ClassId} {rest : va_W} {a0 : Nat → Nat} {ls : Array Slot} {H : Heap} {locs : List Loc} {k16 : S_Mo × Int32 → Option (Int32 × S_Mo)} {s0 : S_Mo} {x1 : Int32} {out : Int32 × S_Mo} (X : Cx p s m args meth c prog_11_method_33_code 2 ws_Mo_send R_Mo (some .boolean) D g) (hk16 : ∀ (v : S_Mo × Int32) (ls : Array Slot) (H : Heap) (locs : List Loc), lv_has ls 2 [(0, .ref (a0 0)), (1, .int v.2)] → Iw D A (w_Mo g a0 v.1 ++ (rest)) H → va_S A s.heap H locs → k16 v = some out → W p l e (headSpec ws_Mo_send { frames := 13, cells := 0, slots := 0, locals := 316 }).room s m args below meth c H locs 0 0 (MQ below (QcI D A g out.1 (fun (_ : Unit) => w_Mo g a0 out.2 ++ (rest))) args s 0 0 A) (F0 m 16 ls [])) (hl : lv_has ls 2 [(0, .ref (a0 0)), (1, .int x1)]) (hI : Iw D A (w_Mo g a0 s0 ++ (rest)) H) (hS : va_S A s.heap H locs) (h : B_Mo_send_16 k16 s0 x1 = some out) : W p l e (headSpec ws_Mo_send { frames := 13, cells := 0, slots := 0, locals := 316 }).room s m args below meth c H locs 0 0 (MQ below (QcI D A g out.1 (fun (_ : Unit) => w_Mo g a0 out.2 ++ (rest))) args s 0 0 A) (F0 m 16 ls []) := by
  have X1 := X
  obtain ⟨hx, hb, hml, hown, hts, hr, hlocks, hKK⟩ := X1
  have ht : ∀ w ∈ TB, w.before args s = true := fun w h => hts w (List.mem_cons_of_mem _ h)
  have hK := hKK.1
  unfold B_Mo_send_16 at h
  refine lv_iload_n hx hb d_Mo_send_16 rfl (lv_at hl 1 rfl) ?_
  refine lv_aload_n hx hb d_Mo_send_17 rfl (lv_at hl 0 rfl) ?_
  refine gt_Mo_drafted hx hb ht hown hK hI (ht _ m_819) d_Mo_send_18 ?_
  refine lv_icmp_ge (tgt := 40) hx hb d_Mo_send_21 (by decide) (fun hc => ?_) (fun hc => ?_)
  · have h := it_t h hc
    exact t_Mo_send_40 X (lv_sub hl [] rfl) hI hS h
  · have h := it_f h hc
    exact t_Mo_send_24 X hk16 (lv_sub hl [0, 1] rfl) hI hS h
set_option maxRecDepth 100000 in
set_option maxHeartbeats 4000000 in
theorem T_Mo_send_16 {p : Program} {l : Launch} {e : Env} {s : State} {m : MethodId} {args : Array Value} {below : List Frame} {meth : Method} {c : Code} {D : va_G} {A : Nat → Prop} {g : Nat → ClassId} {rest : va_W} {a0 : Nat → Nat} {ls : Array Slot} {H : Heap} {locs : List Loc} {s0 : S_Mo} {x1 : Int32} {out : Int32 × S_Mo} (X : Cx p s m args meth c prog_11_method_33_code 2 ws_Mo_send R_Mo (some .boolean) D g) (hl : lv_has ls 2 [(0, .ref (a0 0)), (1, .int x1)]) (hI : Iw D A (w_Mo g a0 s0 ++ (rest)) H) (hS : va_S A s.heap H locs) (h : L_Mo_send_16   (s0, x1) = some out) : W p l e (headSpec ws_Mo_send { frames := 13, cells := 0, slots := 0, locals := 316 }).room s m args below meth c H locs 0 0 (MQ below (QcI D A g out.1 (fun (_ : Unit) => w_Mo g a0 out.2 ++ (rest))) args s 0 0 A) (F0 m 16 ls []) := by
  unfold L_Mo_send_16 at h
  exact lp_ind (P := fun v => ∀ (ls : Array Slot) (H : Heap) (locs : List Loc), lv_has ls 2 [(0, .ref (a0 0)), (1, .int v.2)] → Iw D A (w_Mo g a0 v.1 ++ (rest)) H → va_S A s.heap H locs → W p l e (headSpec ws_Mo_send { frames := 13, cells := 0, slots := 0, locals := 316 }).room s m args below meth c H locs 0 0 (MQ below (QcI D A g out.1 (fun (_ : Unit) => w_Mo g a0 out.2 ++ (rest))) args s 0 0 A) (F0 m 16 ls [])) (fun k v ih hb ls H locs  hl hI hS => t_Mo_send_16 X  (fun v' ls H locs  hl hI hS h' => ih v' h' ls H locs  hl hI hS) hl hI hS hb) FU _ h ls H locs  hl hI hS
set_option maxRecDepth 100000 in
set_option maxHeartbeats 4000000 in
theorem t_Mo_send_14 {p : Program} {l : Launch} {e : Env} {s : State} {m : MethodId} {args : Array Value} {below : List Frame} {meth : Method} {c : Code} {D : va_G} {A : Nat → Prop} {g : Nat → ClassId} {rest : va_W} {a0 : Nat → Nat} {ls : Array Slot} {H : Heap} {locs : List Loc} {s0 : S_Mo} {out : Int32 × S_Mo} (X : Cx p s m args meth c prog_11_method_33_code 2 ws_Mo_send R_Mo (some .boolean) D g) (hl : lv_has ls 2 [(0, .ref (a0 0))]) (hI : Iw D A (w_Mo g a0 s0 ++ (rest)) H) (hS : va_S A s.heap H locs) (h : B_Mo_send_14  s0 = some out) : W p l e (headSpec ws_Mo_send { frames := 13, cells := 0, slots := 0, locals := 316 }).room s m args below meth c H locs 0 0 (MQ below (QcI D A g out.1 (fun (_ : Unit) => w_Mo g a0 out.2 ++ (rest))) args s 0 0 A) (F0 m 14 ls []) := by
  have X1 := X
  obtain ⟨hx, hb, hml, hown, hts, hr, hlocks, hKK⟩ := X1
  have ht : ∀ w ∈ TB, w.before args s = true := fun w h => hts w (List.mem_cons_of_mem _ h)
  have hK := hKK.1
  unfold B_Mo_send_14 at h
  refine lv_iconst (v := 0) hx hb d_Mo_send_14 (by decide) ?_
  refine lv_istore_n hx hb d_Mo_send_15 rfl hl (Nat.le_of_ble_eq_true rfl) rfl (fun ls hl => ?_)
  have hl : lv_has ls 2 [(1, .int (0 : Int32)), (0, .ref (a0 0))] := hl
  exact T_Mo_send_16 X (lv_sub hl [1, 0] rfl) hI hS h
set_option maxRecDepth 100000 in
set_option maxHeartbeats 4000000 in
theorem t_Mo_send_12 {p : Program} {l : Launch} {e : Env} {s : State} {m : MethodId} {args : Array Value} {below : List Frame} {meth : Method} {c : Code} {D : va_G} {A : Nat → Prop} {g : Nat → ClassId} {rest : va_W} {a0 : Nat → Nat} {ls : Array Slot} {H : Heap} {locs : List Loc} {s0 : S_Mo} {out : Int32 × S_Mo} (X : Cx p s m args meth c prog_11_method_33_code 2 ws_Mo_send R_Mo (some .boolean) D g) (hl : lv_has ls 2 []) (hI : Iw D A (w_Mo g a0 s0 ++ (rest)) H) (hS : va_S A s.heap H locs) (h : B_Mo_send_12  s0 = some out) : W p l e (headSpec ws_Mo_send { frames := 13, cells := 0, slots := 0, locals := 316 }).room s m args below meth c H locs 0 0 (MQ below (QcI D A g out.1 (fun (_ : Unit) => w_Mo g a0 out.2 ++ (rest))) args s 0 0 A) (F0 m 12 ls []) := by
  have X1 := X
  obtain ⟨hx, hb, hml, hown, hts, hr, hlocks, hKK⟩ := X1
  have ht : ∀ w ∈ TB, w.before args s = true := fun w h => hts w (List.mem_cons_of_mem _ h)
  have hK := hKK.1
  unfold B_Mo_send_12 at h
  refine lv_iconst (v := 0) hx hb d_Mo_send_12 (by decide) ?_
  have h9 := Option.some.inj h
  subst h9
  exact W.zret (v := (0 : Int32)) hx hb hr rfl (fun t ht hW => ⟨⟨_, (), rfl, rfl, ⟨by rw [ht]; exact hI, hKK.moved hW⟩⟩, hS.F ht⟩) hS.2.2 d_Mo_send_13
set_option maxRecDepth 100000 in
set_option maxHeartbeats 4000000 in
theorem t_Mo_send_0 {p : Program} {l : Launch} {e : Env} {s : State} {m : MethodId} {args : Array Value} {below : List Frame} {meth : Method} {c : Code} {D : va_G} {A : Nat → Prop} {g : Nat → ClassId} {rest : va_W} {a0 : Nat → Nat} {ls : Array Slot} {H : Heap} {locs : List Loc} {s0 : S_Mo} {out : Int32 × S_Mo} (X : Cx p s m args meth c prog_11_method_33_code 2 ws_Mo_send R_Mo (some .boolean) D g) (hl : lv_has ls 2 [(0, .ref (a0 0))]) (hI : Iw D A (w_Mo g a0 s0 ++ (rest)) H) (hS : va_S A s.heap H locs) (h : B_Mo_send_0  s0 = some out) : W p l e (headSpec ws_Mo_send { frames := 13, cells := 0, slots := 0, locals := 316 }).room s m args below meth c H locs 0 0 (MQ below (QcI D A g out.1 (fun (_ : Unit) => w_Mo g a0 out.2 ++ (rest))) args s 0 0 A) (F0 m 0 ls []) := by
  have X1 := X
  obtain ⟨hx, hb, hml, hown, hts, hr, hlocks, hKK⟩ := X1
  have ht : ∀ w ∈ TB, w.before args s = true := fun w h => hts w (List.mem_cons_of_mem _ h)
  have hK := hKK.1
  unfold B_Mo_send_0 at h
  refine lv_aload_n hx hb d_Mo_send_0 rfl (lv_at hl 0 rfl) ?_
  refine lv_iconst (v := 0) hx hb d_Mo_send_1 (by decide) ?_
  refine pt_Mo_code hx hb ht hown hK hI hS (ht _ m_817) d_Mo_send_2 (fun H locs hI hS => ?_)
  refine lv_aload_n hx hb d_Mo_send_5 rfl (lv_at hl 0 rfl) ?_
  refine gt_Mo_line hx hb ht hown hK hI (ht _ m_844) d_Mo_send_6 ?_
  refine lv_if_ne (tgt := 14) hx hb d_Mo_send_9 (by decide) (fun hc => ?_) (fun hc => ?_)
  · have h := it_f h hc
    exact t_Mo_send_14 X (lv_sub hl [0] rfl) hI hS h
  · have h := it_t h hc
    exact t_Mo_send_12 X (lv_sub hl [] rfl) hI hS h
set_option maxRecDepth 100000 in
set_option maxHeartbeats 4000000 in
theorem c_Mo_send {l : Launch} {D : va_G} {A : Nat → Prop} {g : Nat → ClassId} {rest : va_W} {a0 : Nat → Nat} {s0 : S_Mo} {out : Int32 × S_Mo} (h : F_Mo_send s0 = some out) : Met l y_Mo_send ws_Mo_send { frames := 13, cells := 0, slots := 0, locals := 316 } (PcW D A g [.ref (a0 0)] (w_Mo g a0 s0 ++ (rest))) (QcI D A g out.1 (fun (_ : Unit) => w_Mo g a0 out.2 ++ (rest))) 0 0 A := by
  refine Met.ofW (cc := prog_11_method_33_code) (maxL := 2) (ret := (some .boolean)) (by decide) rfl ?_
  intro p e s m args below meth c s₁ B hml hv
  obtain ⟨rfl, hI, hK⟩ := hv
  have hl := lv_entry [.ref (a0 0)] (n := 2) (Nat.le_of_ble_eq_true rfl)
  rw [lg_entry_eq]
  generalize (lg_sl [.ref (a0 0)] ++ List.replicate (2 - (lg_sl [.ref (a0 0)]).length) Slot.unset).toArray = ls at hl ⊢
  have hl : lv_has ls 2 [(0, .ref (a0 0))] := hl
  exact t_Mo_send_0 ⟨B.exec, B.bytes, hml, findClass_of_methodNamed B.named, atoms_spec (ws := ws_Mo_send) B.pre, B.returns, B.notSynchronized, hK⟩ (lv_sub hl [0] rfl) hI va_S.rf h
