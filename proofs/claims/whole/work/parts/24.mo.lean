theorem d_Mo_likes_0 : decode prog_11_method_54_code 0 = .ok (.aload_n 0, 1) := by decide +kernel
theorem d_Mo_likes_1 : decode prog_11_method_54_code 1 = .ok (.getfield 25, 3) := by decide +kernel
theorem d_Mo_likes_4 : decode prog_11_method_54_code 4 = .ok (.iload_n 2, 1) := by decide +kernel
theorem d_Mo_likes_5 : decode prog_11_method_54_code 5 = .ok (.iaload, 1) := by decide +kernel
theorem d_Mo_likes_6 : decode prog_11_method_54_code 6 = .ok (.istore_n 3, 1) := by decide +kernel
theorem d_Mo_likes_7 : decode prog_11_method_54_code 7 = .ok (.iconst 1, 1) := by decide +kernel
theorem d_Mo_likes_8 : decode prog_11_method_54_code 8 = .ok (.istore 4, 2) := by decide +kernel
theorem d_Mo_likes_10 : decode prog_11_method_54_code 10 = .ok (.iconst 0, 1) := by decide +kernel
theorem d_Mo_likes_11 : decode prog_11_method_54_code 11 = .ok (.istore 5, 2) := by decide +kernel
theorem d_Mo_likes_13 : decode prog_11_method_54_code 13 = .ok (.iload 5, 2) := by decide +kernel
theorem d_Mo_likes_15 : decode prog_11_method_54_code 15 = .ok (.aload_n 0, 1) := by decide +kernel
theorem d_Mo_likes_16 : decode prog_11_method_54_code 16 = .ok (.getfield 25, 3) := by decide +kernel
theorem d_Mo_likes_19 : decode prog_11_method_54_code 19 = .ok (.iload_n 1, 1) := by decide +kernel
theorem d_Mo_likes_20 : decode prog_11_method_54_code 20 = .ok (.iaload, 1) := by decide +kernel
theorem d_Mo_likes_21 : decode prog_11_method_54_code 21 = .ok (.if_icmp .ge 164, 3) := by decide +kernel
theorem d_Mo_likes_24 : decode prog_11_method_54_code 24 = .ok (.aload_n 0, 1) := by decide +kernel
theorem d_Mo_likes_25 : decode prog_11_method_54_code 25 = .ok (.getfield 52, 3) := by decide +kernel
theorem d_Mo_likes_28 : decode prog_11_method_54_code 28 = .ok (.aload_n 0, 1) := by decide +kernel
theorem d_Mo_likes_29 : decode prog_11_method_54_code 29 = .ok (.getfield 28, 3) := by decide +kernel
theorem d_Mo_likes_32 : decode prog_11_method_54_code 32 = .ok (.iload_n 1, 1) := by decide +kernel
theorem d_Mo_likes_33 : decode prog_11_method_54_code 33 = .ok (.iaload, 1) := by decide +kernel
theorem d_Mo_likes_34 : decode prog_11_method_54_code 34 = .ok (.iload 5, 2) := by decide +kernel
theorem d_Mo_likes_36 : decode prog_11_method_54_code 36 = .ok (.iadd, 1) := by decide +kernel
theorem d_Mo_likes_37 : decode prog_11_method_54_code 37 = .ok (.iaload, 1) := by decide +kernel
theorem d_Mo_likes_38 : decode prog_11_method_54_code 38 = .ok (.istore 6, 2) := by decide +kernel
theorem d_Mo_likes_40 : decode prog_11_method_54_code 40 = .ok (.iconst 0, 1) := by decide +kernel
theorem d_Mo_likes_41 : decode prog_11_method_54_code 41 = .ok (.istore 7, 2) := by decide +kernel
theorem d_Mo_likes_43 : decode prog_11_method_54_code 43 = .ok (.iconst 0, 1) := by decide +kernel
theorem d_Mo_likes_44 : decode prog_11_method_54_code 44 = .ok (.istore 8, 2) := by decide +kernel
theorem d_Mo_likes_46 : decode prog_11_method_54_code 46 = .ok (.iload 8, 2) := by decide +kernel
theorem d_Mo_likes_48 : decode prog_11_method_54_code 48 = .ok (.iload_n 3, 1) := by decide +kernel
theorem d_Mo_likes_49 : decode prog_11_method_54_code 49 = .ok (.if_icmp .gt 126, 3) := by decide +kernel
theorem d_Mo_likes_52 : decode prog_11_method_54_code 52 = .ok (.iload 4, 2) := by decide +kernel
theorem d_Mo_likes_54 : decode prog_11_method_54_code 54 = .ok (.iload 8, 2) := by decide +kernel
theorem d_Mo_likes_56 : decode prog_11_method_54_code 56 = .ok (.ishr, 1) := by decide +kernel
theorem d_Mo_likes_57 : decode prog_11_method_54_code 57 = .ok (.iconst 1, 1) := by decide +kernel
theorem d_Mo_likes_58 : decode prog_11_method_54_code 58 = .ok (.iand, 1) := by decide +kernel
theorem d_Mo_likes_59 : decode prog_11_method_54_code 59 = .ok (.iconst 1, 1) := by decide +kernel
theorem d_Mo_likes_60 : decode prog_11_method_54_code 60 = .ok (.if_icmp .eq 28, 3) := by decide +kernel
theorem d_Mo_likes_63 : decode prog_11_method_54_code 63 = .ok (.iload 6, 2) := by decide +kernel
theorem d_Mo_likes_65 : decode prog_11_method_54_code 65 = .ok (.bipush 42, 2) := by decide +kernel
theorem d_Mo_likes_67 : decode prog_11_method_54_code 67 = .ok (.if_icmp .ne 25, 3) := by decide +kernel
theorem d_Mo_likes_70 : decode prog_11_method_54_code 70 = .ok (.iload 8, 2) := by decide +kernel
theorem d_Mo_likes_72 : decode prog_11_method_54_code 72 = .ok (.ifCond .le 20, 3) := by decide +kernel
theorem d_Mo_likes_75 : decode prog_11_method_54_code 75 = .ok (.iload 7, 2) := by decide +kernel
theorem d_Mo_likes_77 : decode prog_11_method_54_code 77 = .ok (.iload 8, 2) := by decide +kernel
theorem d_Mo_likes_79 : decode prog_11_method_54_code 79 = .ok (.iconst 1, 1) := by decide +kernel
theorem d_Mo_likes_80 : decode prog_11_method_54_code 80 = .ok (.isub, 1) := by decide +kernel
theorem d_Mo_likes_81 : decode prog_11_method_54_code 81 = .ok (.ishr, 1) := by decide +kernel
theorem d_Mo_likes_82 : decode prog_11_method_54_code 82 = .ok (.iconst 1, 1) := by decide +kernel
theorem d_Mo_likes_83 : decode prog_11_method_54_code 83 = .ok (.iand, 1) := by decide +kernel
theorem d_Mo_likes_84 : decode prog_11_method_54_code 84 = .ok (.iconst 1, 1) := by decide +kernel
theorem d_Mo_likes_85 : decode prog_11_method_54_code 85 = .ok (.if_icmp .ne 7, 3) := by decide +kernel
theorem d_Mo_likes_88 : decode prog_11_method_54_code 88 = .ok (.iconst 1, 1) := by decide +kernel
theorem d_Mo_likes_89 : decode prog_11_method_54_code 89 = .ok (.goto 4, 3) := by decide +kernel
theorem d_Mo_likes_92 : decode prog_11_method_54_code 92 = .ok (.iconst 0, 1) := by decide +kernel
theorem d_Mo_likes_93 : decode prog_11_method_54_code 93 = .ok (.istore 9, 2) := by decide +kernel
theorem d_Mo_likes_95 : decode prog_11_method_54_code 95 = .ok (.iload 9, 2) := by decide +kernel
theorem d_Mo_likes_97 : decode prog_11_method_54_code 97 = .ok (.ifCond .eq 19, 3) := by decide +kernel
theorem d_Mo_likes_100 : decode prog_11_method_54_code 100 = .ok (.iload 6, 2) := by decide +kernel
theorem d_Mo_likes_102 : decode prog_11_method_54_code 102 = .ok (.bipush 42, 2) := by decide +kernel
theorem d_Mo_likes_104 : decode prog_11_method_54_code 104 = .ok (.if_icmp .ne 12, 3) := by decide +kernel
theorem d_Mo_likes_107 : decode prog_11_method_54_code 107 = .ok (.iload 7, 2) := by decide +kernel
theorem d_Mo_likes_109 : decode prog_11_method_54_code 109 = .ok (.iconst 1, 1) := by decide +kernel
theorem d_Mo_likes_110 : decode prog_11_method_54_code 110 = .ok (.iload 8, 2) := by decide +kernel
theorem d_Mo_likes_112 : decode prog_11_method_54_code 112 = .ok (.ishl, 1) := by decide +kernel
theorem d_Mo_likes_113 : decode prog_11_method_54_code 113 = .ok (.ior, 1) := by decide +kernel
theorem d_Mo_likes_114 : decode prog_11_method_54_code 114 = .ok (.istore 7, 2) := by decide +kernel
theorem d_Mo_likes_116 : decode prog_11_method_54_code 116 = .ok (.iload 9, 2) := by decide +kernel
theorem d_Mo_likes_118 : decode prog_11_method_54_code 118 = .ok (.ifCond .eq 51, 3) := by decide +kernel
theorem d_Mo_likes_121 : decode prog_11_method_54_code 121 = .ok (.iload 6, 2) := by decide +kernel
theorem d_Mo_likes_123 : decode prog_11_method_54_code 123 = .ok (.bipush 42, 2) := by decide +kernel
theorem d_Mo_likes_125 : decode prog_11_method_54_code 125 = .ok (.if_icmp .eq 44, 3) := by decide +kernel
theorem d_Mo_likes_128 : decode prog_11_method_54_code 128 = .ok (.iload 8, 2) := by decide +kernel
theorem d_Mo_likes_130 : decode prog_11_method_54_code 130 = .ok (.iload_n 3, 1) := by decide +kernel
theorem d_Mo_likes_131 : decode prog_11_method_54_code 131 = .ok (.if_icmp .ge 38, 3) := by decide +kernel
theorem d_Mo_likes_134 : decode prog_11_method_54_code 134 = .ok (.iload 6, 2) := by decide +kernel
theorem d_Mo_likes_136 : decode prog_11_method_54_code 136 = .ok (.bipush 63, 2) := by decide +kernel
theorem d_Mo_likes_138 : decode prog_11_method_54_code 138 = .ok (.if_icmp .eq 22, 3) := by decide +kernel
theorem d_Mo_likes_141 : decode prog_11_method_54_code 141 = .ok (.iload 6, 2) := by decide +kernel
theorem d_Mo_likes_143 : decode prog_11_method_54_code 143 = .ok (.aload_n 0, 1) := by decide +kernel
theorem d_Mo_likes_144 : decode prog_11_method_54_code 144 = .ok (.getfield 52, 3) := by decide +kernel
theorem d_Mo_likes_147 : decode prog_11_method_54_code 147 = .ok (.aload_n 0, 1) := by decide +kernel
theorem d_Mo_likes_148 : decode prog_11_method_54_code 148 = .ok (.getfield 28, 3) := by decide +kernel
theorem d_Mo_likes_151 : decode prog_11_method_54_code 151 = .ok (.iload_n 2, 1) := by decide +kernel
theorem d_Mo_likes_152 : decode prog_11_method_54_code 152 = .ok (.iaload, 1) := by decide +kernel
theorem d_Mo_likes_153 : decode prog_11_method_54_code 153 = .ok (.iload 8, 2) := by decide +kernel
theorem d_Mo_likes_155 : decode prog_11_method_54_code 155 = .ok (.iadd, 1) := by decide +kernel
theorem d_Mo_likes_156 : decode prog_11_method_54_code 156 = .ok (.iaload, 1) := by decide +kernel
theorem d_Mo_likes_157 : decode prog_11_method_54_code 157 = .ok (.if_icmp .ne 12, 3) := by decide +kernel
theorem d_Mo_likes_160 : decode prog_11_method_54_code 160 = .ok (.iload 7, 2) := by decide +kernel
theorem d_Mo_likes_162 : decode prog_11_method_54_code 162 = .ok (.iconst 2, 1) := by decide +kernel
theorem d_Mo_likes_163 : decode prog_11_method_54_code 163 = .ok (.iload 8, 2) := by decide +kernel
theorem d_Mo_likes_165 : decode prog_11_method_54_code 165 = .ok (.ishl, 1) := by decide +kernel
theorem d_Mo_likes_166 : decode prog_11_method_54_code 166 = .ok (.ior, 1) := by decide +kernel
theorem d_Mo_likes_167 : decode prog_11_method_54_code 167 = .ok (.istore 7, 2) := by decide +kernel
theorem d_Mo_likes_169 : decode prog_11_method_54_code 169 = .ok (.iinc 8 1, 3) := by decide +kernel
theorem d_Mo_likes_172 : decode prog_11_method_54_code 172 = .ok (.goto (-126), 3) := by decide +kernel
theorem d_Mo_likes_175 : decode prog_11_method_54_code 175 = .ok (.iload 7, 2) := by decide +kernel
theorem d_Mo_likes_177 : decode prog_11_method_54_code 177 = .ok (.istore 4, 2) := by decide +kernel
theorem d_Mo_likes_179 : decode prog_11_method_54_code 179 = .ok (.iinc 5 1, 3) := by decide +kernel
theorem d_Mo_likes_182 : decode prog_11_method_54_code 182 = .ok (.goto (-169), 3) := by decide +kernel
theorem d_Mo_likes_185 : decode prog_11_method_54_code 185 = .ok (.iload 4, 2) := by decide +kernel
theorem d_Mo_likes_187 : decode prog_11_method_54_code 187 = .ok (.iload_n 3, 1) := by decide +kernel
theorem d_Mo_likes_188 : decode prog_11_method_54_code 188 = .ok (.ishr, 1) := by decide +kernel
theorem d_Mo_likes_189 : decode prog_11_method_54_code 189 = .ok (.iconst 1, 1) := by decide +kernel
theorem d_Mo_likes_190 : decode prog_11_method_54_code 190 = .ok (.iand, 1) := by decide +kernel
theorem d_Mo_likes_191 : decode prog_11_method_54_code 191 = .ok (.iconst 1, 1) := by decide +kernel
theorem d_Mo_likes_192 : decode prog_11_method_54_code 192 = .ok (.if_icmp .ne 7, 3) := by decide +kernel
theorem d_Mo_likes_195 : decode prog_11_method_54_code 195 = .ok (.iconst 1, 1) := by decide +kernel
theorem d_Mo_likes_196 : decode prog_11_method_54_code 196 = .ok (.goto 4, 3) := by decide +kernel
theorem d_Mo_likes_199 : decode prog_11_method_54_code 199 = .ok (.iconst 0, 1) := by decide +kernel
theorem d_Mo_likes_200 : decode prog_11_method_54_code 200 = .ok (.ireturn, 1) := by decide +kernel
theorem d_Mo_fitsElement_0 : decode prog_11_method_53_code 0 = .ok (.aload_n 0, 1) := by decide +kernel
theorem d_Mo_fitsElement_1 : decode prog_11_method_53_code 1 = .ok (.getfield 19, 3) := by decide +kernel
theorem d_Mo_fitsElement_4 : decode prog_11_method_53_code 4 = .ok (.iload_n 1, 1) := by decide +kernel
theorem d_Mo_fitsElement_5 : decode prog_11_method_53_code 5 = .ok (.iaload, 1) := by decide +kernel
theorem d_Mo_fitsElement_6 : decode prog_11_method_53_code 6 = .ok (.iconst 1, 1) := by decide +kernel
theorem d_Mo_fitsElement_7 : decode prog_11_method_53_code 7 = .ok (.if_icmp .ne 24, 3) := by decide +kernel
theorem d_Mo_fitsElement_10 : decode prog_11_method_53_code 10 = .ok (.aload_n 0, 1) := by decide +kernel
theorem d_Mo_fitsElement_11 : decode prog_11_method_53_code 11 = .ok (.getfield 25, 3) := by decide +kernel
theorem d_Mo_fitsElement_14 : decode prog_11_method_53_code 14 = .ok (.iload_n 1, 1) := by decide +kernel
theorem d_Mo_fitsElement_15 : decode prog_11_method_53_code 15 = .ok (.iaload, 1) := by decide +kernel
theorem d_Mo_fitsElement_16 : decode prog_11_method_53_code 16 = .ok (.aload_n 0, 1) := by decide +kernel
theorem d_Mo_fitsElement_17 : decode prog_11_method_53_code 17 = .ok (.getfield 25, 3) := by decide +kernel
theorem d_Mo_fitsElement_20 : decode prog_11_method_53_code 20 = .ok (.iload_n 2, 1) := by decide +kernel
theorem d_Mo_fitsElement_21 : decode prog_11_method_53_code 21 = .ok (.iaload, 1) := by decide +kernel
theorem d_Mo_fitsElement_22 : decode prog_11_method_53_code 22 = .ok (.if_icmp .ne 7, 3) := by decide +kernel
theorem d_Mo_fitsElement_25 : decode prog_11_method_53_code 25 = .ok (.iconst 1, 1) := by decide +kernel
theorem d_Mo_fitsElement_26 : decode prog_11_method_53_code 26 = .ok (.goto 4, 3) := by decide +kernel
theorem d_Mo_fitsElement_29 : decode prog_11_method_53_code 29 = .ok (.iconst 0, 1) := by decide +kernel
theorem d_Mo_fitsElement_30 : decode prog_11_method_53_code 30 = .ok (.ireturn, 1) := by decide +kernel
theorem d_Mo_fitsElement_31 : decode prog_11_method_53_code 31 = .ok (.aload_n 0, 1) := by decide +kernel
theorem d_Mo_fitsElement_32 : decode prog_11_method_53_code 32 = .ok (.getfield 19, 3) := by decide +kernel
theorem d_Mo_fitsElement_35 : decode prog_11_method_53_code 35 = .ok (.iload_n 1, 1) := by decide +kernel
theorem d_Mo_fitsElement_36 : decode prog_11_method_53_code 36 = .ok (.iaload, 1) := by decide +kernel
theorem d_Mo_fitsElement_37 : decode prog_11_method_53_code 37 = .ok (.iconst 2, 1) := by decide +kernel
theorem d_Mo_fitsElement_38 : decode prog_11_method_53_code 38 = .ok (.if_icmp .ne 27, 3) := by decide +kernel
theorem d_Mo_fitsElement_41 : decode prog_11_method_53_code 41 = .ok (.aload_n 0, 1) := by decide +kernel
theorem d_Mo_fitsElement_42 : decode prog_11_method_53_code 42 = .ok (.getfield 25, 3) := by decide +kernel
theorem d_Mo_fitsElement_45 : decode prog_11_method_53_code 45 = .ok (.iload_n 1, 1) := by decide +kernel
theorem d_Mo_fitsElement_46 : decode prog_11_method_53_code 46 = .ok (.iaload, 1) := by decide +kernel
theorem d_Mo_fitsElement_47 : decode prog_11_method_53_code 47 = .ok (.ifCond .eq 12, 3) := by decide +kernel
theorem d_Mo_fitsElement_50 : decode prog_11_method_53_code 50 = .ok (.aload_n 0, 1) := by decide +kernel
theorem d_Mo_fitsElement_51 : decode prog_11_method_53_code 51 = .ok (.iload_n 1, 1) := by decide +kernel
theorem d_Mo_fitsElement_52 : decode prog_11_method_53_code 52 = .ok (.iload_n 2, 1) := by decide +kernel
theorem d_Mo_fitsElement_53 : decode prog_11_method_53_code 53 = .ok (.invokevirtual 305, 3) := by decide +kernel
theorem d_Mo_fitsElement_56 : decode prog_11_method_53_code 56 = .ok (.ifCond .eq 7, 3) := by decide +kernel
theorem d_Mo_fitsElement_59 : decode prog_11_method_53_code 59 = .ok (.iconst 1, 1) := by decide +kernel
theorem d_Mo_fitsElement_60 : decode prog_11_method_53_code 60 = .ok (.goto 4, 3) := by decide +kernel
theorem d_Mo_fitsElement_63 : decode prog_11_method_53_code 63 = .ok (.iconst 0, 1) := by decide +kernel
theorem d_Mo_fitsElement_64 : decode prog_11_method_53_code 64 = .ok (.ireturn, 1) := by decide +kernel
theorem d_Mo_fitsElement_65 : decode prog_11_method_53_code 65 = .ok (.aload_n 0, 1) := by decide +kernel
theorem d_Mo_fitsElement_66 : decode prog_11_method_53_code 66 = .ok (.getfield 43, 3) := by decide +kernel
theorem d_Mo_fitsElement_69 : decode prog_11_method_53_code 69 = .ok (.iload_n 1, 1) := by decide +kernel
theorem d_Mo_fitsElement_70 : decode prog_11_method_53_code 70 = .ok (.iaload, 1) := by decide +kernel
theorem d_Mo_fitsElement_71 : decode prog_11_method_53_code 71 = .ok (.ifCond .ne 7, 3) := by decide +kernel
theorem d_Mo_fitsElement_74 : decode prog_11_method_53_code 74 = .ok (.iconst 1, 1) := by decide +kernel
theorem d_Mo_fitsElement_75 : decode prog_11_method_53_code 75 = .ok (.goto 4, 3) := by decide +kernel
theorem d_Mo_fitsElement_78 : decode prog_11_method_53_code 78 = .ok (.iconst 0, 1) := by decide +kernel
theorem d_Mo_fitsElement_79 : decode prog_11_method_53_code 79 = .ok (.istore_n 3, 1) := by decide +kernel
theorem d_Mo_fitsElement_80 : decode prog_11_method_53_code 80 = .ok (.aload_n 0, 1) := by decide +kernel
theorem d_Mo_fitsElement_81 : decode prog_11_method_53_code 81 = .ok (.getfield 34, 3) := by decide +kernel
theorem d_Mo_fitsElement_84 : decode prog_11_method_53_code 84 = .ok (.iload_n 2, 1) := by decide +kernel
theorem d_Mo_fitsElement_85 : decode prog_11_method_53_code 85 = .ok (.iaload, 1) := by decide +kernel
theorem d_Mo_fitsElement_86 : decode prog_11_method_53_code 86 = .ok (.istore 4, 2) := by decide +kernel
theorem d_Mo_fitsElement_88 : decode prog_11_method_53_code 88 = .ok (.iload 4, 2) := by decide +kernel
theorem d_Mo_fitsElement_90 : decode prog_11_method_53_code 90 = .ok (.ifCond .lt 47, 3) := by decide +kernel
theorem d_Mo_fitsElement_93 : decode prog_11_method_53_code 93 = .ok (.iload_n 3, 1) := by decide +kernel
theorem d_Mo_fitsElement_94 : decode prog_11_method_53_code 94 = .ok (.ifCond .ne 43, 3) := by decide +kernel
theorem d_Mo_fitsElement_97 : decode prog_11_method_53_code 97 = .ok (.aload_n 0, 1) := by decide +kernel
theorem d_Mo_fitsElement_98 : decode prog_11_method_53_code 98 = .ok (.getfield 58, 3) := by decide +kernel
theorem d_Mo_fitsElement_101 : decode prog_11_method_53_code 101 = .ok (.bipush 90, 2) := by decide +kernel
theorem d_Mo_fitsElement_103 : decode prog_11_method_53_code 103 = .ok (.aload_n 0, 1) := by decide +kernel
theorem d_Mo_fitsElement_104 : decode prog_11_method_53_code 104 = .ok (.getfield 49, 3) := by decide +kernel
theorem d_Mo_fitsElement_107 : decode prog_11_method_53_code 107 = .ok (.aload_n 0, 1) := by decide +kernel
theorem d_Mo_fitsElement_108 : decode prog_11_method_53_code 108 = .ok (.getfield 34, 3) := by decide +kernel
theorem d_Mo_fitsElement_111 : decode prog_11_method_53_code 111 = .ok (.iload_n 1, 1) := by decide +kernel
theorem d_Mo_fitsElement_112 : decode prog_11_method_53_code 112 = .ok (.iaload, 1) := by decide +kernel
theorem d_Mo_fitsElement_113 : decode prog_11_method_53_code 113 = .ok (.iaload, 1) := by decide +kernel
theorem d_Mo_fitsElement_114 : decode prog_11_method_53_code 114 = .ok (.imul, 1) := by decide +kernel
theorem d_Mo_fitsElement_115 : decode prog_11_method_53_code 115 = .ok (.aload_n 0, 1) := by decide +kernel
theorem d_Mo_fitsElement_116 : decode prog_11_method_53_code 116 = .ok (.getfield 49, 3) := by decide +kernel
theorem d_Mo_fitsElement_119 : decode prog_11_method_53_code 119 = .ok (.iload 4, 2) := by decide +kernel
theorem d_Mo_fitsElement_121 : decode prog_11_method_53_code 121 = .ok (.iaload, 1) := by decide +kernel
theorem d_Mo_fitsElement_122 : decode prog_11_method_53_code 122 = .ok (.iadd, 1) := by decide +kernel
theorem d_Mo_fitsElement_123 : decode prog_11_method_53_code 123 = .ok (.baload, 1) := by decide +kernel
theorem d_Mo_fitsElement_124 : decode prog_11_method_53_code 124 = .ok (.istore_n 3, 1) := by decide +kernel
theorem d_Mo_fitsElement_125 : decode prog_11_method_53_code 125 = .ok (.aload_n 0, 1) := by decide +kernel
theorem d_Mo_fitsElement_126 : decode prog_11_method_53_code 126 = .ok (.getfield 37, 3) := by decide +kernel
theorem d_Mo_fitsElement_129 : decode prog_11_method_53_code 129 = .ok (.iload 4, 2) := by decide +kernel
theorem d_Mo_fitsElement_131 : decode prog_11_method_53_code 131 = .ok (.iaload, 1) := by decide +kernel
theorem d_Mo_fitsElement_132 : decode prog_11_method_53_code 132 = .ok (.istore 4, 2) := by decide +kernel
theorem d_Mo_fitsElement_134 : decode prog_11_method_53_code 134 = .ok (.goto (-46), 3) := by decide +kernel
theorem d_Mo_fitsElement_137 : decode prog_11_method_53_code 137 = .ok (.iload_n 3, 1) := by decide +kernel
theorem d_Mo_fitsElement_138 : decode prog_11_method_53_code 138 = .ok (.ireturn, 1) := by decide +kernel
theorem d_Mo_fitsSet_0 : decode prog_11_method_52_code 0 = .ok (.iconst 1, 1) := by decide +kernel
theorem d_Mo_fitsSet_1 : decode prog_11_method_52_code 1 = .ok (.istore_n 3, 1) := by decide +kernel
theorem d_Mo_fitsSet_2 : decode prog_11_method_52_code 2 = .ok (.aload_n 0, 1) := by decide +kernel
theorem d_Mo_fitsSet_3 : decode prog_11_method_52_code 3 = .ok (.getfield 34, 3) := by decide +kernel
theorem d_Mo_fitsSet_6 : decode prog_11_method_52_code 6 = .ok (.iload_n 1, 1) := by decide +kernel
theorem d_Mo_fitsSet_7 : decode prog_11_method_52_code 7 = .ok (.iaload, 1) := by decide +kernel
theorem d_Mo_fitsSet_8 : decode prog_11_method_52_code 8 = .ok (.istore 4, 2) := by decide +kernel
theorem d_Mo_fitsSet_10 : decode prog_11_method_52_code 10 = .ok (.iload 4, 2) := by decide +kernel
theorem d_Mo_fitsSet_12 : decode prog_11_method_52_code 12 = .ok (.ifCond .lt 90, 3) := by decide +kernel
theorem d_Mo_fitsSet_15 : decode prog_11_method_52_code 15 = .ok (.iload_n 3, 1) := by decide +kernel
theorem d_Mo_fitsSet_16 : decode prog_11_method_52_code 16 = .ok (.ifCond .eq 86, 3) := by decide +kernel
theorem d_Mo_fitsSet_19 : decode prog_11_method_52_code 19 = .ok (.iconst 0, 1) := by decide +kernel
theorem d_Mo_fitsSet_20 : decode prog_11_method_52_code 20 = .ok (.istore 5, 2) := by decide +kernel
theorem d_Mo_fitsSet_22 : decode prog_11_method_52_code 22 = .ok (.aload_n 0, 1) := by decide +kernel
theorem d_Mo_fitsSet_23 : decode prog_11_method_52_code 23 = .ok (.getfield 34, 3) := by decide +kernel
theorem d_Mo_fitsSet_26 : decode prog_11_method_52_code 26 = .ok (.iload_n 2, 1) := by decide +kernel
theorem d_Mo_fitsSet_27 : decode prog_11_method_52_code 27 = .ok (.iaload, 1) := by decide +kernel
theorem d_Mo_fitsSet_28 : decode prog_11_method_52_code 28 = .ok (.istore 6, 2) := by decide +kernel
theorem d_Mo_fitsSet_30 : decode prog_11_method_52_code 30 = .ok (.iload 6, 2) := by decide +kernel
theorem d_Mo_fitsSet_32 : decode prog_11_method_52_code 32 = .ok (.ifCond .lt 55, 3) := by decide +kernel
theorem d_Mo_fitsSet_35 : decode prog_11_method_52_code 35 = .ok (.iload 5, 2) := by decide +kernel
theorem d_Mo_fitsSet_37 : decode prog_11_method_52_code 37 = .ok (.ifCond .ne 31, 3) := by decide +kernel
theorem d_Mo_fitsSet_40 : decode prog_11_method_52_code 40 = .ok (.aload_n 0, 1) := by decide +kernel
theorem d_Mo_fitsSet_41 : decode prog_11_method_52_code 41 = .ok (.getfield 22, 3) := by decide +kernel
theorem d_Mo_fitsSet_44 : decode prog_11_method_52_code 44 = .ok (.iload 6, 2) := by decide +kernel
theorem d_Mo_fitsSet_46 : decode prog_11_method_52_code 46 = .ok (.iaload, 1) := by decide +kernel
theorem d_Mo_fitsSet_47 : decode prog_11_method_52_code 47 = .ok (.aload_n 0, 1) := by decide +kernel
theorem d_Mo_fitsSet_48 : decode prog_11_method_52_code 48 = .ok (.getfield 22, 3) := by decide +kernel
theorem d_Mo_fitsSet_51 : decode prog_11_method_52_code 51 = .ok (.iload 4, 2) := by decide +kernel
theorem d_Mo_fitsSet_53 : decode prog_11_method_52_code 53 = .ok (.iaload, 1) := by decide +kernel
theorem d_Mo_fitsSet_54 : decode prog_11_method_52_code 54 = .ok (.if_icmp .ne 18, 3) := by decide +kernel
theorem d_Mo_fitsSet_57 : decode prog_11_method_52_code 57 = .ok (.aload_n 0, 1) := by decide +kernel
theorem d_Mo_fitsSet_58 : decode prog_11_method_52_code 58 = .ok (.iload 4, 2) := by decide +kernel
theorem d_Mo_fitsSet_60 : decode prog_11_method_52_code 60 = .ok (.iload 6, 2) := by decide +kernel
theorem d_Mo_fitsSet_62 : decode prog_11_method_52_code 62 = .ok (.invokevirtual 302, 3) := by decide +kernel
theorem d_Mo_fitsSet_65 : decode prog_11_method_52_code 65 = .ok (.ifCond .eq 7, 3) := by decide +kernel
theorem d_Mo_fitsSet_68 : decode prog_11_method_52_code 68 = .ok (.iconst 1, 1) := by decide +kernel
theorem d_Mo_fitsSet_69 : decode prog_11_method_52_code 69 = .ok (.goto 4, 3) := by decide +kernel
theorem d_Mo_fitsSet_72 : decode prog_11_method_52_code 72 = .ok (.iconst 0, 1) := by decide +kernel
theorem d_Mo_fitsSet_73 : decode prog_11_method_52_code 73 = .ok (.istore 5, 2) := by decide +kernel
theorem d_Mo_fitsSet_75 : decode prog_11_method_52_code 75 = .ok (.aload_n 0, 1) := by decide +kernel
theorem d_Mo_fitsSet_76 : decode prog_11_method_52_code 76 = .ok (.getfield 37, 3) := by decide +kernel
theorem d_Mo_fitsSet_79 : decode prog_11_method_52_code 79 = .ok (.iload 6, 2) := by decide +kernel
theorem d_Mo_fitsSet_81 : decode prog_11_method_52_code 81 = .ok (.iaload, 1) := by decide +kernel
theorem d_Mo_fitsSet_82 : decode prog_11_method_52_code 82 = .ok (.istore 6, 2) := by decide +kernel
theorem d_Mo_fitsSet_84 : decode prog_11_method_52_code 84 = .ok (.goto (-54), 3) := by decide +kernel
theorem d_Mo_fitsSet_87 : decode prog_11_method_52_code 87 = .ok (.iload 5, 2) := by decide +kernel
theorem d_Mo_fitsSet_89 : decode prog_11_method_52_code 89 = .ok (.istore_n 3, 1) := by decide +kernel
theorem d_Mo_fitsSet_90 : decode prog_11_method_52_code 90 = .ok (.aload_n 0, 1) := by decide +kernel
theorem d_Mo_fitsSet_91 : decode prog_11_method_52_code 91 = .ok (.getfield 37, 3) := by decide +kernel
theorem d_Mo_fitsSet_94 : decode prog_11_method_52_code 94 = .ok (.iload 4, 2) := by decide +kernel
theorem d_Mo_fitsSet_96 : decode prog_11_method_52_code 96 = .ok (.iaload, 1) := by decide +kernel
theorem d_Mo_fitsSet_97 : decode prog_11_method_52_code 97 = .ok (.istore 4, 2) := by decide +kernel
theorem d_Mo_fitsSet_99 : decode prog_11_method_52_code 99 = .ok (.goto (-89), 3) := by decide +kernel
theorem d_Mo_fitsSet_102 : decode prog_11_method_52_code 102 = .ok (.iload_n 3, 1) := by decide +kernel
theorem d_Mo_fitsSet_103 : decode prog_11_method_52_code 103 = .ok (.ireturn, 1) := by decide +kernel
theorem d_Mo_sets_0 : decode prog_11_method_50_code 0 = .ok (.iconst 0, 1) := by decide +kernel
theorem d_Mo_sets_1 : decode prog_11_method_50_code 1 = .ok (.istore_n 2, 1) := by decide +kernel
theorem d_Mo_sets_2 : decode prog_11_method_50_code 2 = .ok (.sipush 130, 3) := by decide +kernel
theorem d_Mo_sets_5 : decode prog_11_method_50_code 5 = .ok (.iload_n 1, 1) := by decide +kernel
theorem d_Mo_sets_6 : decode prog_11_method_50_code 6 = .ok (.imul, 1) := by decide +kernel
theorem d_Mo_sets_7 : decode prog_11_method_50_code 7 = .ok (.istore_n 3, 1) := by decide +kernel
theorem d_Mo_sets_8 : decode prog_11_method_50_code 8 = .ok (.iload_n 3, 1) := by decide +kernel
theorem d_Mo_sets_9 : decode prog_11_method_50_code 9 = .ok (.sipush 130, 3) := by decide +kernel
theorem d_Mo_sets_12 : decode prog_11_method_50_code 12 = .ok (.iload_n 1, 1) := by decide +kernel
theorem d_Mo_sets_13 : decode prog_11_method_50_code 13 = .ok (.imul, 1) := by decide +kernel
theorem d_Mo_sets_14 : decode prog_11_method_50_code 14 = .ok (.aload_n 0, 1) := by decide +kernel
theorem d_Mo_sets_15 : decode prog_11_method_50_code 15 = .ok (.getfield 16, 3) := by decide +kernel
theorem d_Mo_sets_18 : decode prog_11_method_50_code 18 = .ok (.iload_n 1, 1) := by decide +kernel
theorem d_Mo_sets_19 : decode prog_11_method_50_code 19 = .ok (.iaload, 1) := by decide +kernel
theorem d_Mo_sets_20 : decode prog_11_method_50_code 20 = .ok (.iadd, 1) := by decide +kernel
theorem d_Mo_sets_21 : decode prog_11_method_50_code 21 = .ok (.if_icmp .ge 33, 3) := by decide +kernel
theorem d_Mo_sets_24 : decode prog_11_method_50_code 24 = .ok (.aload_n 0, 1) := by decide +kernel
theorem d_Mo_sets_25 : decode prog_11_method_50_code 25 = .ok (.getfield 49, 3) := by decide +kernel
theorem d_Mo_sets_28 : decode prog_11_method_50_code 28 = .ok (.iload_n 3, 1) := by decide +kernel
theorem d_Mo_sets_29 : decode prog_11_method_50_code 29 = .ok (.iload_n 2, 1) := by decide +kernel
theorem d_Mo_sets_30 : decode prog_11_method_50_code 30 = .ok (.iastore, 1) := by decide +kernel
theorem d_Mo_sets_31 : decode prog_11_method_50_code 31 = .ok (.iload_n 2, 1) := by decide +kernel
theorem d_Mo_sets_32 : decode prog_11_method_50_code 32 = .ok (.aload_n 0, 1) := by decide +kernel
theorem d_Mo_sets_33 : decode prog_11_method_50_code 33 = .ok (.getfield 19, 3) := by decide +kernel
theorem d_Mo_sets_36 : decode prog_11_method_50_code 36 = .ok (.iload_n 3, 1) := by decide +kernel
theorem d_Mo_sets_37 : decode prog_11_method_50_code 37 = .ok (.iaload, 1) := by decide +kernel
theorem d_Mo_sets_38 : decode prog_11_method_50_code 38 = .ok (.ifCond .ne 7, 3) := by decide +kernel
theorem d_Mo_sets_41 : decode prog_11_method_50_code 41 = .ok (.iconst 1, 1) := by decide +kernel
theorem d_Mo_sets_42 : decode prog_11_method_50_code 42 = .ok (.goto 4, 3) := by decide +kernel
theorem d_Mo_sets_45 : decode prog_11_method_50_code 45 = .ok (.iconst 0, 1) := by decide +kernel
theorem d_Mo_sets_46 : decode prog_11_method_50_code 46 = .ok (.iadd, 1) := by decide +kernel
theorem d_Mo_sets_47 : decode prog_11_method_50_code 47 = .ok (.istore_n 2, 1) := by decide +kernel
theorem d_Mo_sets_48 : decode prog_11_method_50_code 48 = .ok (.iinc 3 1, 3) := by decide +kernel
theorem d_Mo_sets_51 : decode prog_11_method_50_code 51 = .ok (.goto (-43), 3) := by decide +kernel
theorem d_Mo_sets_54 : decode prog_11_method_50_code 54 = .ok (.iload_n 2, 1) := by decide +kernel
theorem d_Mo_sets_55 : decode prog_11_method_50_code 55 = .ok (.ireturn, 1) := by decide +kernel
theorem d_Mo_matches_0 : decode prog_11_method_51_code 0 = .ok (.aload_n 0, 1) := by decide +kernel
theorem d_Mo_matches_1 : decode prog_11_method_51_code 1 = .ok (.iconst 0, 1) := by decide +kernel
theorem d_Mo_matches_2 : decode prog_11_method_51_code 2 = .ok (.invokevirtual 296, 3) := by decide +kernel
theorem d_Mo_matches_5 : decode prog_11_method_51_code 5 = .ok (.pop, 1) := by decide +kernel
theorem d_Mo_matches_6 : decode prog_11_method_51_code 6 = .ok (.aload_n 0, 1) := by decide +kernel
theorem d_Mo_matches_7 : decode prog_11_method_51_code 7 = .ok (.iconst 1, 1) := by decide +kernel
theorem d_Mo_matches_8 : decode prog_11_method_51_code 8 = .ok (.invokevirtual 296, 3) := by decide +kernel
theorem d_Mo_matches_11 : decode prog_11_method_51_code 11 = .ok (.pop, 1) := by decide +kernel
theorem d_Mo_matches_12 : decode prog_11_method_51_code 12 = .ok (.aload_n 0, 1) := by decide +kernel
theorem d_Mo_matches_13 : decode prog_11_method_51_code 13 = .ok (.getfield 16, 3) := by decide +kernel
theorem d_Mo_matches_16 : decode prog_11_method_51_code 16 = .ok (.iconst 0, 1) := by decide +kernel
theorem d_Mo_matches_17 : decode prog_11_method_51_code 17 = .ok (.iaload, 1) := by decide +kernel
theorem d_Mo_matches_18 : decode prog_11_method_51_code 18 = .ok (.iconst 1, 1) := by decide +kernel
theorem d_Mo_matches_19 : decode prog_11_method_51_code 19 = .ok (.isub, 1) := by decide +kernel
theorem d_Mo_matches_20 : decode prog_11_method_51_code 20 = .ok (.istore_n 1, 1) := by decide +kernel
theorem d_Mo_matches_21 : decode prog_11_method_51_code 21 = .ok (.iload_n 1, 1) := by decide +kernel
theorem d_Mo_matches_22 : decode prog_11_method_51_code 22 = .ok (.ifCond .lt 80, 3) := by decide +kernel
theorem d_Mo_matches_25 : decode prog_11_method_51_code 25 = .ok (.sipush 130, 3) := by decide +kernel
theorem d_Mo_matches_28 : decode prog_11_method_51_code 28 = .ok (.aload_n 0, 1) := by decide +kernel
theorem d_Mo_matches_29 : decode prog_11_method_51_code 29 = .ok (.getfield 16, 3) := by decide +kernel
theorem d_Mo_matches_32 : decode prog_11_method_51_code 32 = .ok (.iconst 1, 1) := by decide +kernel
theorem d_Mo_matches_33 : decode prog_11_method_51_code 33 = .ok (.iaload, 1) := by decide +kernel
theorem d_Mo_matches_34 : decode prog_11_method_51_code 34 = .ok (.iadd, 1) := by decide +kernel
theorem d_Mo_matches_35 : decode prog_11_method_51_code 35 = .ok (.iconst 1, 1) := by decide +kernel
theorem d_Mo_matches_36 : decode prog_11_method_51_code 36 = .ok (.isub, 1) := by decide +kernel
theorem d_Mo_matches_37 : decode prog_11_method_51_code 37 = .ok (.istore_n 2, 1) := by decide +kernel
theorem d_Mo_matches_38 : decode prog_11_method_51_code 38 = .ok (.iload_n 2, 1) := by decide +kernel
theorem d_Mo_matches_39 : decode prog_11_method_51_code 39 = .ok (.sipush 130, 3) := by decide +kernel
theorem d_Mo_matches_42 : decode prog_11_method_51_code 42 = .ok (.if_icmp .lt 54, 3) := by decide +kernel
theorem d_Mo_matches_45 : decode prog_11_method_51_code 45 = .ok (.aload_n 0, 1) := by decide +kernel
theorem d_Mo_matches_46 : decode prog_11_method_51_code 46 = .ok (.getfield 19, 3) := by decide +kernel
theorem d_Mo_matches_49 : decode prog_11_method_51_code 49 = .ok (.iload_n 1, 1) := by decide +kernel
theorem d_Mo_matches_50 : decode prog_11_method_51_code 50 = .ok (.iaload, 1) := by decide +kernel
theorem d_Mo_matches_51 : decode prog_11_method_51_code 51 = .ok (.ifCond .ne 39, 3) := by decide +kernel
theorem d_Mo_matches_54 : decode prog_11_method_51_code 54 = .ok (.aload_n 0, 1) := by decide +kernel
theorem d_Mo_matches_55 : decode prog_11_method_51_code 55 = .ok (.getfield 19, 3) := by decide +kernel
theorem d_Mo_matches_58 : decode prog_11_method_51_code 58 = .ok (.iload_n 2, 1) := by decide +kernel
theorem d_Mo_matches_59 : decode prog_11_method_51_code 59 = .ok (.iaload, 1) := by decide +kernel
theorem d_Mo_matches_60 : decode prog_11_method_51_code 60 = .ok (.ifCond .ne 30, 3) := by decide +kernel
theorem d_Mo_matches_63 : decode prog_11_method_51_code 63 = .ok (.aload_n 0, 1) := by decide +kernel
theorem d_Mo_matches_64 : decode prog_11_method_51_code 64 = .ok (.getfield 58, 3) := by decide +kernel
theorem d_Mo_matches_67 : decode prog_11_method_51_code 67 = .ok (.bipush 90, 2) := by decide +kernel
theorem d_Mo_matches_69 : decode prog_11_method_51_code 69 = .ok (.aload_n 0, 1) := by decide +kernel
theorem d_Mo_matches_70 : decode prog_11_method_51_code 70 = .ok (.getfield 49, 3) := by decide +kernel
theorem d_Mo_matches_73 : decode prog_11_method_51_code 73 = .ok (.iload_n 1, 1) := by decide +kernel
theorem d_Mo_matches_74 : decode prog_11_method_51_code 74 = .ok (.iaload, 1) := by decide +kernel
theorem d_Mo_matches_75 : decode prog_11_method_51_code 75 = .ok (.imul, 1) := by decide +kernel
theorem d_Mo_matches_76 : decode prog_11_method_51_code 76 = .ok (.aload_n 0, 1) := by decide +kernel
theorem d_Mo_matches_77 : decode prog_11_method_51_code 77 = .ok (.getfield 49, 3) := by decide +kernel
theorem d_Mo_matches_80 : decode prog_11_method_51_code 80 = .ok (.iload_n 2, 1) := by decide +kernel
theorem d_Mo_matches_81 : decode prog_11_method_51_code 81 = .ok (.iaload, 1) := by decide +kernel
theorem d_Mo_matches_82 : decode prog_11_method_51_code 82 = .ok (.iadd, 1) := by decide +kernel
theorem d_Mo_matches_83 : decode prog_11_method_51_code 83 = .ok (.aload_n 0, 1) := by decide +kernel
theorem d_Mo_matches_84 : decode prog_11_method_51_code 84 = .ok (.iload_n 1, 1) := by decide +kernel
theorem d_Mo_matches_85 : decode prog_11_method_51_code 85 = .ok (.iload_n 2, 1) := by decide +kernel
theorem d_Mo_matches_86 : decode prog_11_method_51_code 86 = .ok (.invokevirtual 299, 3) := by decide +kernel
theorem d_Mo_matches_89 : decode prog_11_method_51_code 89 = .ok (.bastore, 1) := by decide +kernel
theorem d_Mo_matches_90 : decode prog_11_method_51_code 90 = .ok (.iinc 2 (-1), 3) := by decide +kernel
theorem d_Mo_matches_93 : decode prog_11_method_51_code 93 = .ok (.goto (-55), 3) := by decide +kernel
theorem d_Mo_matches_96 : decode prog_11_method_51_code 96 = .ok (.iinc 1 (-1), 3) := by decide +kernel
theorem d_Mo_matches_99 : decode prog_11_method_51_code 99 = .ok (.goto (-78), 3) := by decide +kernel
theorem d_Mo_matches_102 : decode prog_11_method_51_code 102 = .ok (.aload_n 0, 1) := by decide +kernel
theorem d_Mo_matches_103 : decode prog_11_method_51_code 103 = .ok (.getfield 58, 3) := by decide +kernel
theorem d_Mo_matches_106 : decode prog_11_method_51_code 106 = .ok (.iconst 0, 1) := by decide +kernel
theorem d_Mo_matches_107 : decode prog_11_method_51_code 107 = .ok (.baload, 1) := by decide +kernel
theorem d_Mo_matches_108 : decode prog_11_method_51_code 108 = .ok (.ireturn, 1) := by decide +kernel
def ws_Mo_likes : List Cond := .code y_Mo_likes prog_11_method_54_code 10 (some .boolean) :: TB
def B_Mo_likes_200 (s0 : S_Mo) (y0 : Int32) : Option Int32 :=
  (if y0 = 0 ∨ y0 = 1 then some y0 else none)
def B_Mo_likes_199 (s0 : S_Mo) : Option Int32 :=
  (B_Mo_likes_200 s0 (0 : Int32))
def B_Mo_likes_195 (s0 : S_Mo) : Option Int32 :=
  (B_Mo_likes_200 s0 (1 : Int32))
def B_Mo_likes_185 (s0 : S_Mo) (x3 : Int32) (x4 : Int32) : Option Int32 :=
  (if ((x4 >>> (x3 &&& 31)) &&& (1 : Int32)) = (1 : Int32) then (B_Mo_likes_195 s0) else (B_Mo_likes_199 s0))
def B_Mo_likes_175 (k13 : Int32 × Int32 × Int32 × Int32 × Int32 → Option Int32) (s0 : S_Mo) (x1 : Int32) (x2 : Int32) (x3 : Int32) (x5 : Int32) (x7 : Int32) : Option Int32 :=
  (k13 (x1, x2, x3, x7, (x5 + 1)))
def B_Mo_likes_169 (k13 : Int32 × Int32 × Int32 × Int32 × Int32 → Option Int32) (k46 : Int32 × Int32 × Int32 × Int32 × Int32 × Int32 × Int32 × Int32 → Option Int32) (s0 : S_Mo) (x1 : Int32) (x2 : Int32) (x3 : Int32) (x4 : Int32) (x5 : Int32) (x6 : Int32) (x7 : Int32) (x8 : Int32) : Option Int32 :=
  (k46 (x1, x2, x3, x4, x5, x6, x7, (x8 + 1)))
def B_Mo_likes_160 (k13 : Int32 × Int32 × Int32 × Int32 × Int32 → Option Int32) (k46 : Int32 × Int32 × Int32 × Int32 × Int32 × Int32 × Int32 × Int32 → Option Int32) (s0 : S_Mo) (x1 : Int32) (x2 : Int32) (x3 : Int32) (x4 : Int32) (x5 : Int32) (x6 : Int32) (x7 : Int32) (x8 : Int32) : Option Int32 :=
  (B_Mo_likes_169 k13 k46 s0 x1 x2 x3 x4 x5 x6 (x7 ||| ((2 : Int32) <<< (x8 &&& 31))) x8)
def B_Mo_likes_141 (k13 : Int32 × Int32 × Int32 × Int32 × Int32 → Option Int32) (k46 : Int32 × Int32 × Int32 × Int32 × Int32 × Int32 × Int32 × Int32 → Option Int32) (s0 : S_Mo) (x1 : Int32) (x2 : Int32) (x3 : Int32) (x4 : Int32) (x5 : Int32) (x6 : Int32) (x7 : Int32) (x8 : Int32) : Option Int32 :=
  (if (x2 < 0 ∨ 260 ≤ x2.toNatClampNeg) then none else (if ((((Mo_letters s0) x2.toNatClampNeg) + x8) < 0 ∨ 480 ≤ (((Mo_letters s0) x2.toNatClampNeg) + x8).toNatClampNeg) then none else (if x6 = ((Mo_chars s0) (((Mo_letters s0) x2.toNatClampNeg) + x8).toNatClampNeg) then (B_Mo_likes_160 k13 k46 s0 x1 x2 x3 x4 x5 x6 x7 x8) else (B_Mo_likes_169 k13 k46 s0 x1 x2 x3 x4 x5 x6 x7 x8))))
def B_Mo_likes_134 (k13 : Int32 × Int32 × Int32 × Int32 × Int32 → Option Int32) (k46 : Int32 × Int32 × Int32 × Int32 × Int32 × Int32 × Int32 × Int32 → Option Int32) (s0 : S_Mo) (x1 : Int32) (x2 : Int32) (x3 : Int32) (x4 : Int32) (x5 : Int32) (x6 : Int32) (x7 : Int32) (x8 : Int32) : Option Int32 :=
  (if x6 = (63 : Int32) then (B_Mo_likes_160 k13 k46 s0 x1 x2 x3 x4 x5 x6 x7 x8) else (B_Mo_likes_141 k13 k46 s0 x1 x2 x3 x4 x5 x6 x7 x8))
def B_Mo_likes_128 (k13 : Int32 × Int32 × Int32 × Int32 × Int32 → Option Int32) (k46 : Int32 × Int32 × Int32 × Int32 × Int32 × Int32 × Int32 × Int32 → Option Int32) (s0 : S_Mo) (x1 : Int32) (x2 : Int32) (x3 : Int32) (x4 : Int32) (x5 : Int32) (x6 : Int32) (x7 : Int32) (x8 : Int32) : Option Int32 :=
  (if x3 ≤ x8 then (B_Mo_likes_169 k13 k46 s0 x1 x2 x3 x4 x5 x6 x7 x8) else (B_Mo_likes_134 k13 k46 s0 x1 x2 x3 x4 x5 x6 x7 x8))
def B_Mo_likes_121 (k13 : Int32 × Int32 × Int32 × Int32 × Int32 → Option Int32) (k46 : Int32 × Int32 × Int32 × Int32 × Int32 × Int32 × Int32 × Int32 → Option Int32) (s0 : S_Mo) (x1 : Int32) (x2 : Int32) (x3 : Int32) (x4 : Int32) (x5 : Int32) (x6 : Int32) (x7 : Int32) (x8 : Int32) : Option Int32 :=
  (if x6 = (42 : Int32) then (B_Mo_likes_169 k13 k46 s0 x1 x2 x3 x4 x5 x6 x7 x8) else (B_Mo_likes_128 k13 k46 s0 x1 x2 x3 x4 x5 x6 x7 x8))
def B_Mo_likes_116 (k13 : Int32 × Int32 × Int32 × Int32 × Int32 → Option Int32) (k46 : Int32 × Int32 × Int32 × Int32 × Int32 × Int32 × Int32 × Int32 → Option Int32) (s0 : S_Mo) (x1 : Int32) (x2 : Int32) (x3 : Int32) (x4 : Int32) (x5 : Int32) (x6 : Int32) (x7 : Int32) (x8 : Int32) (x9 : Int32) : Option Int32 :=
  (if x9 = 0 then (B_Mo_likes_169 k13 k46 s0 x1 x2 x3 x4 x5 x6 x7 x8) else (B_Mo_likes_121 k13 k46 s0 x1 x2 x3 x4 x5 x6 x7 x8))
def B_Mo_likes_107 (k13 : Int32 × Int32 × Int32 × Int32 × Int32 → Option Int32) (k46 : Int32 × Int32 × Int32 × Int32 × Int32 × Int32 × Int32 × Int32 → Option Int32) (s0 : S_Mo) (x1 : Int32) (x2 : Int32) (x3 : Int32) (x4 : Int32) (x5 : Int32) (x6 : Int32) (x7 : Int32) (x8 : Int32) (x9 : Int32) : Option Int32 :=
  (B_Mo_likes_116 k13 k46 s0 x1 x2 x3 x4 x5 x6 (x7 ||| ((1 : Int32) <<< (x8 &&& 31))) x8 x9)
def B_Mo_likes_100 (k13 : Int32 × Int32 × Int32 × Int32 × Int32 → Option Int32) (k46 : Int32 × Int32 × Int32 × Int32 × Int32 × Int32 × Int32 × Int32 → Option Int32) (s0 : S_Mo) (x1 : Int32) (x2 : Int32) (x3 : Int32) (x4 : Int32) (x5 : Int32) (x6 : Int32) (x7 : Int32) (x8 : Int32) (x9 : Int32) : Option Int32 :=
  (if x6 = (42 : Int32) then (B_Mo_likes_107 k13 k46 s0 x1 x2 x3 x4 x5 x6 x7 x8 x9) else (B_Mo_likes_116 k13 k46 s0 x1 x2 x3 x4 x5 x6 x7 x8 x9))
def B_Mo_likes_93 (k13 : Int32 × Int32 × Int32 × Int32 × Int32 → Option Int32) (k46 : Int32 × Int32 × Int32 × Int32 × Int32 × Int32 × Int32 × Int32 → Option Int32) (s0 : S_Mo) (x1 : Int32) (x2 : Int32) (x3 : Int32) (x4 : Int32) (x5 : Int32) (x6 : Int32) (x7 : Int32) (x8 : Int32) (y0 : Int32) : Option Int32 :=
  (if y0 = 0 then (B_Mo_likes_116 k13 k46 s0 x1 x2 x3 x4 x5 x6 x7 x8 y0) else (B_Mo_likes_100 k13 k46 s0 x1 x2 x3 x4 x5 x6 x7 x8 y0))
def B_Mo_likes_88 (k13 : Int32 × Int32 × Int32 × Int32 × Int32 → Option Int32) (k46 : Int32 × Int32 × Int32 × Int32 × Int32 × Int32 × Int32 × Int32 → Option Int32) (s0 : S_Mo) (x1 : Int32) (x2 : Int32) (x3 : Int32) (x4 : Int32) (x5 : Int32) (x6 : Int32) (x7 : Int32) (x8 : Int32) : Option Int32 :=
  (B_Mo_likes_93 k13 k46 s0 x1 x2 x3 x4 x5 x6 x7 x8 (1 : Int32))
def B_Mo_likes_92 (k13 : Int32 × Int32 × Int32 × Int32 × Int32 → Option Int32) (k46 : Int32 × Int32 × Int32 × Int32 × Int32 × Int32 × Int32 × Int32 → Option Int32) (s0 : S_Mo) (x1 : Int32) (x2 : Int32) (x3 : Int32) (x4 : Int32) (x5 : Int32) (x6 : Int32) (x7 : Int32) (x8 : Int32) : Option Int32 :=
  (B_Mo_likes_93 k13 k46 s0 x1 x2 x3 x4 x5 x6 x7 x8 (0 : Int32))
def B_Mo_likes_75 (k13 : Int32 × Int32 × Int32 × Int32 × Int32 → Option Int32) (k46 : Int32 × Int32 × Int32 × Int32 × Int32 × Int32 × Int32 × Int32 → Option Int32) (s0 : S_Mo) (x1 : Int32) (x2 : Int32) (x3 : Int32) (x4 : Int32) (x5 : Int32) (x6 : Int32) (x7 : Int32) (x8 : Int32) : Option Int32 :=
  (if ((x7 >>> ((x8 - (1 : Int32)) &&& 31)) &&& (1 : Int32)) = (1 : Int32) then (B_Mo_likes_88 k13 k46 s0 x1 x2 x3 x4 x5 x6 x7 x8) else (B_Mo_likes_92 k13 k46 s0 x1 x2 x3 x4 x5 x6 x7 x8))
def B_Mo_likes_70 (k13 : Int32 × Int32 × Int32 × Int32 × Int32 → Option Int32) (k46 : Int32 × Int32 × Int32 × Int32 × Int32 × Int32 × Int32 × Int32 → Option Int32) (s0 : S_Mo) (x1 : Int32) (x2 : Int32) (x3 : Int32) (x4 : Int32) (x5 : Int32) (x6 : Int32) (x7 : Int32) (x8 : Int32) : Option Int32 :=
  (if x8 ≤ 0 then (B_Mo_likes_92 k13 k46 s0 x1 x2 x3 x4 x5 x6 x7 x8) else (B_Mo_likes_75 k13 k46 s0 x1 x2 x3 x4 x5 x6 x7 x8))
def B_Mo_likes_63 (k13 : Int32 × Int32 × Int32 × Int32 × Int32 → Option Int32) (k46 : Int32 × Int32 × Int32 × Int32 × Int32 × Int32 × Int32 × Int32 → Option Int32) (s0 : S_Mo) (x1 : Int32) (x2 : Int32) (x3 : Int32) (x4 : Int32) (x5 : Int32) (x6 : Int32) (x7 : Int32) (x8 : Int32) : Option Int32 :=
  (if x6 = (42 : Int32) then (B_Mo_likes_70 k13 k46 s0 x1 x2 x3 x4 x5 x6 x7 x8) else (B_Mo_likes_92 k13 k46 s0 x1 x2 x3 x4 x5 x6 x7 x8))
def B_Mo_likes_52 (k13 : Int32 × Int32 × Int32 × Int32 × Int32 → Option Int32) (k46 : Int32 × Int32 × Int32 × Int32 × Int32 × Int32 × Int32 × Int32 → Option Int32) (s0 : S_Mo) (x1 : Int32) (x2 : Int32) (x3 : Int32) (x4 : Int32) (x5 : Int32) (x6 : Int32) (x7 : Int32) (x8 : Int32) : Option Int32 :=
  (if ((x4 >>> (x8 &&& 31)) &&& (1 : Int32)) = (1 : Int32) then (B_Mo_likes_88 k13 k46 s0 x1 x2 x3 x4 x5 x6 x7 x8) else (B_Mo_likes_63 k13 k46 s0 x1 x2 x3 x4 x5 x6 x7 x8))
def B_Mo_likes_46 (k13 : Int32 × Int32 × Int32 × Int32 × Int32 → Option Int32) (k46 : Int32 × Int32 × Int32 × Int32 × Int32 × Int32 × Int32 × Int32 → Option Int32) (s0 : S_Mo) (x1 : Int32) (x2 : Int32) (x3 : Int32) (x4 : Int32) (x5 : Int32) (x6 : Int32) (x7 : Int32) (x8 : Int32) : Option Int32 :=
  (if x3 < x8 then (B_Mo_likes_175 k13 s0 x1 x2 x3 x5 x7) else (B_Mo_likes_52 k13 k46 s0 x1 x2 x3 x4 x5 x6 x7 x8))
def L_Mo_likes_46 (k13 : Int32 × Int32 × Int32 × Int32 × Int32 → Option Int32) (s0 : S_Mo) (v : Int32 × Int32 × Int32 × Int32 × Int32 × Int32 × Int32 × Int32) : Option Int32 := lp (fun k46 v => B_Mo_likes_46 k13 k46 s0 v.1 v.2.1 v.2.2.1 v.2.2.2.1 v.2.2.2.2.1 v.2.2.2.2.2.1 v.2.2.2.2.2.2.1 v.2.2.2.2.2.2.2) FU v
def B_Mo_likes_24 (k13 : Int32 × Int32 × Int32 × Int32 × Int32 → Option Int32) (s0 : S_Mo) (x1 : Int32) (x2 : Int32) (x3 : Int32) (x4 : Int32) (x5 : Int32) : Option Int32 :=
  (if (x1 < 0 ∨ 260 ≤ x1.toNatClampNeg) then none else (if ((((Mo_letters s0) x1.toNatClampNeg) + x5) < 0 ∨ 480 ≤ (((Mo_letters s0) x1.toNatClampNeg) + x5).toNatClampNeg) then none else (L_Mo_likes_46 k13 s0 (x1, x2, x3, x4, x5, ((Mo_chars s0) (((Mo_letters s0) x1.toNatClampNeg) + x5).toNatClampNeg), (0 : Int32), (0 : Int32)))))
def B_Mo_likes_13 (k13 : Int32 × Int32 × Int32 × Int32 × Int32 → Option Int32) (s0 : S_Mo) (x1 : Int32) (x2 : Int32) (x3 : Int32) (x4 : Int32) (x5 : Int32) : Option Int32 :=
  (if (x1 < 0 ∨ 260 ≤ x1.toNatClampNeg) then none else (if ((Mo_value s0) x1.toNatClampNeg) ≤ x5 then (B_Mo_likes_185 s0 x3 x4) else (B_Mo_likes_24 k13 s0 x1 x2 x3 x4 x5)))
def L_Mo_likes_13 (s0 : S_Mo) (v : Int32 × Int32 × Int32 × Int32 × Int32) : Option Int32 := lp (fun k13 v => B_Mo_likes_13  k13 s0 v.1 v.2.1 v.2.2.1 v.2.2.2.1 v.2.2.2.2) FU v
def B_Mo_likes_0 (s0 : S_Mo) (x1 : Int32) (x2 : Int32) : Option Int32 :=
  (if (x2 < 0 ∨ 260 ≤ x2.toNatClampNeg) then none else (L_Mo_likes_13 s0 (x1, x2, ((Mo_value s0) x2.toNatClampNeg), (1 : Int32), (0 : Int32))))
def F_Mo_likes (s0 : S_Mo) (x1 : Int32) (x2 : Int32) : Option Int32 := B_Mo_likes_0 s0 x1 x2
set_option maxRecDepth 100000 in
set_option maxHeartbeats 4000000 in
theorem t_Mo_likes_200 {p : Program} {l : Launch} {e : Env} {s : State} {m : MethodId} {args : Array Value} {below : List Frame} {meth : Method} {c : Code} {D : va_G} {A : Nat → Prop} {g : Nat → ClassId} {rest : va_W} {a0 : Nat → Nat} {ls : Array Slot} {H : Heap} {locs : List Loc} {s0 : S_Mo} {y0 : Int32} {out : Int32} (X : Cx p s m args meth c prog_11_method_54_code 10 ws_Mo_likes R_Mo (some .boolean) D g) (hl : lv_has ls 10 []) (hI : Iw D A (w_Mo g a0 s0 ++ (rest)) H) (hS : va_S A s.heap H locs) (h : B_Mo_likes_200  s0 y0 = some out) : W p l e (headSpec ws_Mo_likes { frames := 0, cells := 0, slots := 0, locals := 0 }).room s m args below meth c H locs 0 0 (MQ below (QcI D A g out (fun (_ : Unit) => w_Mo g a0 s0 ++ (rest))) args s 0 0 A) (F0 m 200 ls [.int y0]) := by
  have X1 := X
  obtain ⟨hx, hb, hml, hown, hts, hr, hlocks, hKK⟩ := X1
  have ht : ∀ w ∈ TB, w.before args s = true := fun w h => hts w (List.mem_cons_of_mem _ h)
  have hK := hKK.1
  unfold B_Mo_likes_200 at h
  have hc1 : y0 = 0 ∨ y0 = 1 := by
    by_cases z : y0 = 0 ∨ y0 = 1
    · exact z
    · exact no_s (it_f h z)
  have h := it_t h hc1
  have h9 := Option.some.inj h
  subst h9
  exact W.zret (v := y0) hx hb hr (by rcases hc1 with z | z <;> rw [z] <;> rfl) (fun t ht hW => ⟨⟨_, (), rfl, rfl, ⟨by rw [ht]; exact hI, hKK.moved hW⟩⟩, hS.F ht⟩) hS.2.2 d_Mo_likes_200
set_option maxRecDepth 100000 in
set_option maxHeartbeats 4000000 in
theorem t_Mo_likes_199 {p : Program} {l : Launch} {e : Env} {s : State} {m : MethodId} {args : Array Value} {below : List Frame} {meth : Method} {c : Code} {D : va_G} {A : Nat → Prop} {g : Nat → ClassId} {rest : va_W} {a0 : Nat → Nat} {ls : Array Slot} {H : Heap} {locs : List Loc} {s0 : S_Mo} {out : Int32} (X : Cx p s m args meth c prog_11_method_54_code 10 ws_Mo_likes R_Mo (some .boolean) D g) (hl : lv_has ls 10 []) (hI : Iw D A (w_Mo g a0 s0 ++ (rest)) H) (hS : va_S A s.heap H locs) (h : B_Mo_likes_199  s0 = some out) : W p l e (headSpec ws_Mo_likes { frames := 0, cells := 0, slots := 0, locals := 0 }).room s m args below meth c H locs 0 0 (MQ below (QcI D A g out (fun (_ : Unit) => w_Mo g a0 s0 ++ (rest))) args s 0 0 A) (F0 m 199 ls []) := by
  have X1 := X
  obtain ⟨hx, hb, hml, hown, hts, hr, hlocks, hKK⟩ := X1
  have ht : ∀ w ∈ TB, w.before args s = true := fun w h => hts w (List.mem_cons_of_mem _ h)
  have hK := hKK.1
  unfold B_Mo_likes_199 at h
  refine lv_iconst (v := 0) hx hb d_Mo_likes_199 (by decide) ?_
  exact t_Mo_likes_200 X (lv_sub hl [] rfl) hI hS h
set_option maxRecDepth 100000 in
set_option maxHeartbeats 4000000 in
theorem t_Mo_likes_195 {p : Program} {l : Launch} {e : Env} {s : State} {m : MethodId} {args : Array Value} {below : List Frame} {meth : Method} {c : Code} {D : va_G} {A : Nat → Prop} {g : Nat → ClassId} {rest : va_W} {a0 : Nat → Nat} {ls : Array Slot} {H : Heap} {locs : List Loc} {s0 : S_Mo} {out : Int32} (X : Cx p s m args meth c prog_11_method_54_code 10 ws_Mo_likes R_Mo (some .boolean) D g) (hl : lv_has ls 10 []) (hI : Iw D A (w_Mo g a0 s0 ++ (rest)) H) (hS : va_S A s.heap H locs) (h : B_Mo_likes_195  s0 = some out) : W p l e (headSpec ws_Mo_likes { frames := 0, cells := 0, slots := 0, locals := 0 }).room s m args below meth c H locs 0 0 (MQ below (QcI D A g out (fun (_ : Unit) => w_Mo g a0 s0 ++ (rest))) args s 0 0 A) (F0 m 195 ls []) := by
  have X1 := X
  obtain ⟨hx, hb, hml, hown, hts, hr, hlocks, hKK⟩ := X1
  have ht : ∀ w ∈ TB, w.before args s = true := fun w h => hts w (List.mem_cons_of_mem _ h)
  have hK := hKK.1
  unfold B_Mo_likes_195 at h
  refine lv_iconst (v := 1) hx hb d_Mo_likes_195 (by decide) ?_
  refine lv_goto (tgt := 200) hx hb d_Mo_likes_196 (by decide) ?_
  exact t_Mo_likes_200 X (lv_sub hl [] rfl) hI hS h
set_option maxRecDepth 100000 in
set_option maxHeartbeats 4000000 in
theorem t_Mo_likes_185 {p : Program} {l : Launch} {e : Env} {s : State} {m : MethodId} {args : Array Value} {below : List Frame} {meth : Method} {c : Code} {D : va_G} {A : Nat → Prop} {g : Nat → ClassId} {rest : va_W} {a0 : Nat → Nat} {ls : Array Slot} {H : Heap} {locs : List Loc} {s0 : S_Mo} {x3 : Int32} {x4 : Int32} {out : Int32} (X : Cx p s m args meth c prog_11_method_54_code 10 ws_Mo_likes R_Mo (some .boolean) D g) (hl : lv_has ls 10 [(3, .int x3), (4, .int x4)]) (hI : Iw D A (w_Mo g a0 s0 ++ (rest)) H) (hS : va_S A s.heap H locs) (h : B_Mo_likes_185  s0 x3 x4 = some out) : W p l e (headSpec ws_Mo_likes { frames := 0, cells := 0, slots := 0, locals := 0 }).room s m args below meth c H locs 0 0 (MQ below (QcI D A g out (fun (_ : Unit) => w_Mo g a0 s0 ++ (rest))) args s 0 0 A) (F0 m 185 ls []) := by
  have X1 := X
  obtain ⟨hx, hb, hml, hown, hts, hr, hlocks, hKK⟩ := X1
  have ht : ∀ w ∈ TB, w.before args s = true := fun w h => hts w (List.mem_cons_of_mem _ h)
  have hK := hKK.1
  unfold B_Mo_likes_185 at h
  refine lv_iload hx hb d_Mo_likes_185 (lv_at hl 1 rfl) ?_
  refine lv_iload_n hx hb d_Mo_likes_187 rfl (lv_at hl 0 rfl) ?_
  refine lv_ishr hx hb d_Mo_likes_188 ?_
  refine lv_iconst (v := 1) hx hb d_Mo_likes_189 (by decide) ?_
  refine lv_iand hx hb d_Mo_likes_190 ?_
  refine lv_iconst (v := 1) hx hb d_Mo_likes_191 (by decide) ?_
  refine lv_icmp_ne (tgt := 199) hx hb d_Mo_likes_192 (by decide) (fun hc => ?_) (fun hc => ?_)
  · have h := it_f h hc
    exact t_Mo_likes_199 X (lv_sub hl [] rfl) hI hS h
  · have h := it_t h hc
    exact t_Mo_likes_195 X (lv_sub hl [] rfl) hI hS h
set_option maxRecDepth 100000 in
set_option maxHeartbeats 4000000 in
theorem t_Mo_likes_175 {p : Program} {l : Launch} {e : Env} {s : State} {m : MethodId} {args : Array Value} {below : List Frame} {meth : Method} {c : Code} {D : va_G} {A : Nat → Prop} {g : Nat → ClassId} {rest : va_W} {a0 : Nat → Nat} {ls : Array Slot} {H : Heap} {locs : List Loc} {k13 : Int32 × Int32 × Int32 × Int32 × Int32 → Option Int32} {s0 : S_Mo} {x1 : Int32} {x2 : Int32} {x3 : Int32} {x5 : Int32} {x7 : Int32} {out : Int32} (X : Cx p s m args meth c prog_11_method_54_code 10 ws_Mo_likes R_Mo (some .boolean) D g) (hk13 : ∀ (v : Int32 × Int32 × Int32 × Int32 × Int32) (ls : Array Slot) (H : Heap) (locs : List Loc), lv_has ls 10 [(0, .ref (a0 0)), (1, .int v.1), (2, .int v.2.1), (3, .int v.2.2.1), (4, .int v.2.2.2.1), (5, .int v.2.2.2.2)] → Iw D A (w_Mo g a0 s0 ++ (rest)) H → va_S A s.heap H locs → k13 v = some out → W p l e (headSpec ws_Mo_likes { frames := 0, cells := 0, slots := 0, locals := 0 }).room s m args below meth c H locs 0 0 (MQ below (QcI D A g out (fun (_ : Unit) => w_Mo g a0 s0 ++ (rest))) args s 0 0 A) (F0 m 13 ls [])) (hl : lv_has ls 10 [(0, .ref (a0 0)), (1, .int x1), (2, .int x2), (3, .int x3), (5, .int x5), (7, .int x7)]) (hI : Iw D A (w_Mo g a0 s0 ++ (rest)) H) (hS : va_S A s.heap H locs) (h : B_Mo_likes_175 k13 s0 x1 x2 x3 x5 x7 = some out) : W p l e (headSpec ws_Mo_likes { frames := 0, cells := 0, slots := 0, locals := 0 }).room s m args below meth c H locs 0 0 (MQ below (QcI D A g out (fun (_ : Unit) => w_Mo g a0 s0 ++ (rest))) args s 0 0 A) (F0 m 175 ls []) := by
  have X1 := X
  obtain ⟨hx, hb, hml, hown, hts, hr, hlocks, hKK⟩ := X1
  have ht : ∀ w ∈ TB, w.before args s = true := fun w h => hts w (List.mem_cons_of_mem _ h)
  have hK := hKK.1
  unfold B_Mo_likes_175 at h
  refine lv_iload hx hb d_Mo_likes_175 (lv_at hl 5 rfl) ?_
  refine lv_istore hx hb d_Mo_likes_177 hl (Nat.le_of_ble_eq_true rfl) rfl (fun ls hl => ?_)
  have hl : lv_has ls 10 [(4, .int x7), (0, .ref (a0 0)), (1, .int x1), (2, .int x2), (3, .int x3), (5, .int x5), (7, .int x7)] := hl
  refine lv_iinc (k := 5) (v := (x5 + 1)) hx hb d_Mo_likes_179 hl rfl (congrArg (fun z => x5 + z) (by decide)) (Nat.le_of_ble_eq_true rfl) rfl (fun ls hl => ?_)
  have hl : lv_has ls 10 [(5, .int (x5 + 1)), (4, .int x7), (0, .ref (a0 0)), (1, .int x1), (2, .int x2), (3, .int x3), (7, .int x7)] := hl
  refine lv_goto (tgt := 13) hx hb d_Mo_likes_182 (by decide) ?_
  exact hk13 (x1, x2, x3, x7, (x5 + 1)) _ _ _ (lv_sub hl [2, 3, 4, 5, 1, 0] rfl) hI hS h
set_option maxRecDepth 100000 in
set_option maxHeartbeats 4000000 in
theorem t_Mo_likes_169 {p : Program} {l : Launch} {e : Env} {s : State} {m : MethodId} {args : Array Value} {below : List Frame} {meth : Method} {c : Code} {D : va_G} {A : Nat → Prop} {g : Nat → ClassId} {rest : va_W} {a0 : Nat → Nat} {ls : Array Slot} {H : Heap} {locs : List Loc} {k13 : Int32 × Int32 × Int32 × Int32 × Int32 → Option Int32} {k46 : Int32 × Int32 × Int32 × Int32 × Int32 × Int32 × Int32 × Int32 → Option Int32} {s0 : S_Mo} {x1 : Int32} {x2 : Int32} {x3 : Int32} {x4 : Int32} {x5 : Int32} {x6 : Int32} {x7 : Int32} {x8 : Int32} {out : Int32} (X : Cx p s m args meth c prog_11_method_54_code 10 ws_Mo_likes R_Mo (some .boolean) D g) (hk13 : ∀ (v : Int32 × Int32 × Int32 × Int32 × Int32) (ls : Array Slot) (H : Heap) (locs : List Loc), lv_has ls 10 [(0, .ref (a0 0)), (1, .int v.1), (2, .int v.2.1), (3, .int v.2.2.1), (4, .int v.2.2.2.1), (5, .int v.2.2.2.2)] → Iw D A (w_Mo g a0 s0 ++ (rest)) H → va_S A s.heap H locs → k13 v = some out → W p l e (headSpec ws_Mo_likes { frames := 0, cells := 0, slots := 0, locals := 0 }).room s m args below meth c H locs 0 0 (MQ below (QcI D A g out (fun (_ : Unit) => w_Mo g a0 s0 ++ (rest))) args s 0 0 A) (F0 m 13 ls [])) (hk46 : ∀ (v : Int32 × Int32 × Int32 × Int32 × Int32 × Int32 × Int32 × Int32) (ls : Array Slot) (H : Heap) (locs : List Loc), lv_has ls 10 [(0, .ref (a0 0)), (1, .int v.1), (2, .int v.2.1), (3, .int v.2.2.1), (4, .int v.2.2.2.1), (5, .int v.2.2.2.2.1), (6, .int v.2.2.2.2.2.1), (7, .int v.2.2.2.2.2.2.1), (8, .int v.2.2.2.2.2.2.2)] → Iw D A (w_Mo g a0 s0 ++ (rest)) H → va_S A s.heap H locs → k46 v = some out → W p l e (headSpec ws_Mo_likes { frames := 0, cells := 0, slots := 0, locals := 0 }).room s m args below meth c H locs 0 0 (MQ below (QcI D A g out (fun (_ : Unit) => w_Mo g a0 s0 ++ (rest))) args s 0 0 A) (F0 m 46 ls [])) (hl : lv_has ls 10 [(0, .ref (a0 0)), (1, .int x1), (2, .int x2), (3, .int x3), (4, .int x4), (5, .int x5), (6, .int x6), (7, .int x7), (8, .int x8)]) (hI : Iw D A (w_Mo g a0 s0 ++ (rest)) H) (hS : va_S A s.heap H locs) (h : B_Mo_likes_169 k13 k46 s0 x1 x2 x3 x4 x5 x6 x7 x8 = some out) : W p l e (headSpec ws_Mo_likes { frames := 0, cells := 0, slots := 0, locals := 0 }).room s m args below meth c H locs 0 0 (MQ below (QcI D A g out (fun (_ : Unit) => w_Mo g a0 s0 ++ (rest))) args s 0 0 A) (F0 m 169 ls []) := by
  have X1 := X
  obtain ⟨hx, hb, hml, hown, hts, hr, hlocks, hKK⟩ := X1
  have ht : ∀ w ∈ TB, w.before args s = true := fun w h => hts w (List.mem_cons_of_mem _ h)
  have hK := hKK.1
  unfold B_Mo_likes_169 at h
  refine lv_iinc (k := 8) (v := (x8 + 1)) hx hb d_Mo_likes_169 hl rfl (congrArg (fun z => x8 + z) (by decide)) (Nat.le_of_ble_eq_true rfl) rfl (fun ls hl => ?_)
  have hl : lv_has ls 10 [(8, .int (x8 + 1)), (0, .ref (a0 0)), (1, .int x1), (2, .int x2), (3, .int x3), (4, .int x4), (5, .int x5), (6, .int x6), (7, .int x7)] := hl
  refine lv_goto (tgt := 46) hx hb d_Mo_likes_172 (by decide) ?_
  exact hk46 (x1, x2, x3, x4, x5, x6, x7, (x8 + 1)) _ _ _ (lv_sub hl [1, 2, 3, 4, 5, 6, 7, 8, 0] rfl) hI hS h
set_option maxRecDepth 100000 in
set_option maxHeartbeats 4000000 in
theorem t_Mo_likes_160 {p : Program} {l : Launch} {e : Env} {s : State} {m : MethodId} {args : Array Value} {below : List Frame} {meth : Method} {c : Code} {D : va_G} {A : Nat → Prop} {g : Nat → ClassId} {rest : va_W} {a0 : Nat → Nat} {ls : Array Slot} {H : Heap} {locs : List Loc} {k13 : Int32 × Int32 × Int32 × Int32 × Int32 → Option Int32} {k46 : Int32 × Int32 × Int32 × Int32 × Int32 × Int32 × Int32 × Int32 → Option Int32} {s0 : S_Mo} {x1 : Int32} {x2 : Int32} {x3 : Int32} {x4 : Int32} {x5 : Int32} {x6 : Int32} {x7 : Int32} {x8 : Int32} {out : Int32} (X : Cx p s m args meth c prog_11_method_54_code 10 ws_Mo_likes R_Mo (some .boolean) D g) (hk13 : ∀ (v : Int32 × Int32 × Int32 × Int32 × Int32) (ls : Array Slot) (H : Heap) (locs : List Loc), lv_has ls 10 [(0, .ref (a0 0)), (1, .int v.1), (2, .int v.2.1), (3, .int v.2.2.1), (4, .int v.2.2.2.1), (5, .int v.2.2.2.2)] → Iw D A (w_Mo g a0 s0 ++ (rest)) H → va_S A s.heap H locs → k13 v = some out → W p l e (headSpec ws_Mo_likes { frames := 0, cells := 0, slots := 0, locals := 0 }).room s m args below meth c H locs 0 0 (MQ below (QcI D A g out (fun (_ : Unit) => w_Mo g a0 s0 ++ (rest))) args s 0 0 A) (F0 m 13 ls [])) (hk46 : ∀ (v : Int32 × Int32 × Int32 × Int32 × Int32 × Int32 × Int32 × Int32) (ls : Array Slot) (H : Heap) (locs : List Loc), lv_has ls 10 [(0, .ref (a0 0)), (1, .int v.1), (2, .int v.2.1), (3, .int v.2.2.1), (4, .int v.2.2.2.1), (5, .int v.2.2.2.2.1), (6, .int v.2.2.2.2.2.1), (7, .int v.2.2.2.2.2.2.1), (8, .int v.2.2.2.2.2.2.2)] → Iw D A (w_Mo g a0 s0 ++ (rest)) H → va_S A s.heap H locs → k46 v = some out → W p l e (headSpec ws_Mo_likes { frames := 0, cells := 0, slots := 0, locals := 0 }).room s m args below meth c H locs 0 0 (MQ below (QcI D A g out (fun (_ : Unit) => w_Mo g a0 s0 ++ (rest))) args s 0 0 A) (F0 m 46 ls [])) (hl : lv_has ls 10 [(0, .ref (a0 0)), (1, .int x1), (2, .int x2), (3, .int x3), (4, .int x4), (5, .int x5), (6, .int x6), (7, .int x7), (8, .int x8)]) (hI : Iw D A (w_Mo g a0 s0 ++ (rest)) H) (hS : va_S A s.heap H locs) (h : B_Mo_likes_160 k13 k46 s0 x1 x2 x3 x4 x5 x6 x7 x8 = some out) : W p l e (headSpec ws_Mo_likes { frames := 0, cells := 0, slots := 0, locals := 0 }).room s m args below meth c H locs 0 0 (MQ below (QcI D A g out (fun (_ : Unit) => w_Mo g a0 s0 ++ (rest))) args s 0 0 A) (F0 m 160 ls []) := by
  have X1 := X
  obtain ⟨hx, hb, hml, hown, hts, hr, hlocks, hKK⟩ := X1
  have ht : ∀ w ∈ TB, w.before args s = true := fun w h => hts w (List.mem_cons_of_mem _ h)
  have hK := hKK.1
  unfold B_Mo_likes_160 at h
  refine lv_iload hx hb d_Mo_likes_160 (lv_at hl 7 rfl) ?_
  refine lv_iconst (v := 2) hx hb d_Mo_likes_162 (by decide) ?_
  refine lv_iload hx hb d_Mo_likes_163 (lv_at hl 8 rfl) ?_
  refine lv_ishl hx hb d_Mo_likes_165 ?_
  refine lv_ior hx hb d_Mo_likes_166 ?_
  refine lv_istore hx hb d_Mo_likes_167 hl (Nat.le_of_ble_eq_true rfl) rfl (fun ls hl => ?_)
  have hl : lv_has ls 10 [(7, .int (x7 ||| ((2 : Int32) <<< (x8 &&& 31)))), (0, .ref (a0 0)), (1, .int x1), (2, .int x2), (3, .int x3), (4, .int x4), (5, .int x5), (6, .int x6), (8, .int x8)] := hl
  exact t_Mo_likes_169 X hk13 hk46 (lv_sub hl [1, 2, 3, 4, 5, 6, 7, 0, 8] rfl) hI hS h
set_option maxRecDepth 100000 in
set_option maxHeartbeats 4000000 in
theorem t_Mo_likes_141 {p : Program} {l : Launch} {e : Env} {s : State} {m : MethodId} {args : Array Value} {below : List Frame} {meth : Method} {c : Code} {D : va_G} {A : Nat → Prop} {g : Nat → ClassId} {rest : va_W} {a0 : Nat → Nat} {ls : Array Slot} {H : Heap} {locs : List Loc} {k13 : Int32 × Int32 × Int32 × Int32 × Int32 → Option Int32} {k46 : Int32 × Int32 × Int32 × Int32 × Int32 × Int32 × Int32 × Int32 → Option Int32} {s0 : S_Mo} {x1 : Int32} {x2 : Int32} {x3 : Int32} {x4 : Int32} {x5 : Int32} {x6 : Int32} {x7 : Int32} {x8 : Int32} {out : Int32} (X : Cx p s m args meth c prog_11_method_54_code 10 ws_Mo_likes R_Mo (some .boolean) D g) (hk13 : ∀ (v : Int32 × Int32 × Int32 × Int32 × Int32) (ls : Array Slot) (H : Heap) (locs : List Loc), lv_has ls 10 [(0, .ref (a0 0)), (1, .int v.1), (2, .int v.2.1), (3, .int v.2.2.1), (4, .int v.2.2.2.1), (5, .int v.2.2.2.2)] → Iw D A (w_Mo g a0 s0 ++ (rest)) H → va_S A s.heap H locs → k13 v = some out → W p l e (headSpec ws_Mo_likes { frames := 0, cells := 0, slots := 0, locals := 0 }).room s m args below meth c H locs 0 0 (MQ below (QcI D A g out (fun (_ : Unit) => w_Mo g a0 s0 ++ (rest))) args s 0 0 A) (F0 m 13 ls [])) (hk46 : ∀ (v : Int32 × Int32 × Int32 × Int32 × Int32 × Int32 × Int32 × Int32) (ls : Array Slot) (H : Heap) (locs : List Loc), lv_has ls 10 [(0, .ref (a0 0)), (1, .int v.1), (2, .int v.2.1), (3, .int v.2.2.1), (4, .int v.2.2.2.1), (5, .int v.2.2.2.2.1), (6, .int v.2.2.2.2.2.1), (7, .int v.2.2.2.2.2.2.1), (8, .int v.2.2.2.2.2.2.2)] → Iw D A (w_Mo g a0 s0 ++ (rest)) H → va_S A s.heap H locs → k46 v = some out → W p l e (headSpec ws_Mo_likes { frames := 0, cells := 0, slots := 0, locals := 0 }).room s m args below meth c H locs 0 0 (MQ below (QcI D A g out (fun (_ : Unit) => w_Mo g a0 s0 ++ (rest))) args s 0 0 A) (F0 m 46 ls [])) (hl : lv_has ls 10 [(0, .ref (a0 0)), (1, .int x1), (2, .int x2), (3, .int x3), (4, .int x4), (5, .int x5), (6, .int x6), (7, .int x7), (8, .int x8)]) (hI : Iw D A (w_Mo g a0 s0 ++ (rest)) H) (hS : va_S A s.heap H locs) (h : B_Mo_likes_141 k13 k46 s0 x1 x2 x3 x4 x5 x6 x7 x8 = some out) : W p l e (headSpec ws_Mo_likes { frames := 0, cells := 0, slots := 0, locals := 0 }).room s m args below meth c H locs 0 0 (MQ below (QcI D A g out (fun (_ : Unit) => w_Mo g a0 s0 ++ (rest))) args s 0 0 A) (F0 m 141 ls []) := by
  have X1 := X
  obtain ⟨hx, hb, hml, hown, hts, hr, hlocks, hKK⟩ := X1
  have ht : ∀ w ∈ TB, w.before args s = true := fun w h => hts w (List.mem_cons_of_mem _ h)
  have hK := hKK.1
  unfold B_Mo_likes_141 at h
  refine lv_iload hx hb d_Mo_likes_141 (lv_at hl 6 rfl) ?_
  refine lv_aload_n hx hb d_Mo_likes_143 rfl (lv_at hl 0 rfl) ?_
  refine gt_Mo_chars hx hb ht hown hK hI (ht _ m_834) d_Mo_likes_144 ?_
  refine lv_aload_n hx hb d_Mo_likes_147 rfl (lv_at hl 0 rfl) ?_
  refine gt_Mo_letters hx hb ht hown hK hI (ht _ m_826) d_Mo_likes_148 ?_
  refine lv_iload_n hx hb d_Mo_likes_151 rfl (lv_at hl 2 rfl) ?_
  by_cases hc1 : (x2 < 0 ∨ 260 ≤ x2.toNatClampNeg)
  · exact no_s (it_t h hc1)
  have h := it_f h hc1
  refine al_Mo_letters hx hb hK hI hc1 d_Mo_likes_152 ?_
  refine lv_iload hx hb d_Mo_likes_153 (lv_at hl 8 rfl) ?_
  refine lv_iadd hx hb d_Mo_likes_155 ?_
  by_cases hc2 : ((((Mo_letters s0) x2.toNatClampNeg) + x8) < 0 ∨ 480 ≤ (((Mo_letters s0) x2.toNatClampNeg) + x8).toNatClampNeg)
  · exact no_s (it_t h hc2)
  have h := it_f h hc2
  refine al_Mo_chars hx hb hK hI hc2 d_Mo_likes_156 ?_
  refine lv_icmp_ne (tgt := 169) hx hb d_Mo_likes_157 (by decide) (fun hc => ?_) (fun hc => ?_)
  · have h := it_f h hc
    exact t_Mo_likes_169 X hk13 hk46 (lv_sub hl [0, 1, 2, 3, 4, 5, 6, 7, 8] rfl) hI hS h
  · have h := it_t h hc
    exact t_Mo_likes_160 X hk13 hk46 (lv_sub hl [0, 1, 2, 3, 4, 5, 6, 7, 8] rfl) hI hS h
set_option maxRecDepth 100000 in
set_option maxHeartbeats 4000000 in
theorem t_Mo_likes_134 {p : Program} {l : Launch} {e : Env} {s : State} {m : MethodId} {args : Array Value} {below : List Frame} {meth : Method} {c : Code} {D : va_G} {A : Nat → Prop} {g : Nat → ClassId} {rest : va_W} {a0 : Nat → Nat} {ls : Array Slot} {H : Heap} {locs : List Loc} {k13 : Int32 × Int32 × Int32 × Int32 × Int32 → Option Int32} {k46 : Int32 × Int32 × Int32 × Int32 × Int32 × Int32 × Int32 × Int32 → Option Int32} {s0 : S_Mo} {x1 : Int32} {x2 : Int32} {x3 : Int32} {x4 : Int32} {x5 : Int32} {x6 : Int32} {x7 : Int32} {x8 : Int32} {out : Int32} (X : Cx p s m args meth c prog_11_method_54_code 10 ws_Mo_likes R_Mo (some .boolean) D g) (hk13 : ∀ (v : Int32 × Int32 × Int32 × Int32 × Int32) (ls : Array Slot) (H : Heap) (locs : List Loc), lv_has ls 10 [(0, .ref (a0 0)), (1, .int v.1), (2, .int v.2.1), (3, .int v.2.2.1), (4, .int v.2.2.2.1), (5, .int v.2.2.2.2)] → Iw D A (w_Mo g a0 s0 ++ (rest)) H → va_S A s.heap H locs → k13 v = some out → W p l e (headSpec ws_Mo_likes { frames := 0, cells := 0, slots := 0, locals := 0 }).room s m args below meth c H locs 0 0 (MQ below (QcI D A g out (fun (_ : Unit) => w_Mo g a0 s0 ++ (rest))) args s 0 0 A) (F0 m 13 ls [])) (hk46 : ∀ (v : Int32 × Int32 × Int32 × Int32 × Int32 × Int32 × Int32 × Int32) (ls : Array Slot) (H : Heap) (locs : List Loc), lv_has ls 10 [(0, .ref (a0 0)), (1, .int v.1), (2, .int v.2.1), (3, .int v.2.2.1), (4, .int v.2.2.2.1), (5, .int v.2.2.2.2.1), (6, .int v.2.2.2.2.2.1), (7, .int v.2.2.2.2.2.2.1), (8, .int v.2.2.2.2.2.2.2)] → Iw D A (w_Mo g a0 s0 ++ (rest)) H → va_S A s.heap H locs → k46 v = some out → W p l e (headSpec ws_Mo_likes { frames := 0, cells := 0, slots := 0, locals := 0 }).room s m args below meth c H locs 0 0 (MQ below (QcI D A g out (fun (_ : Unit) => w_Mo g a0 s0 ++ (rest))) args s 0 0 A) (F0 m 46 ls [])) (hl : lv_has ls 10 [(0, .ref (a0 0)), (1, .int x1), (2, .int x2), (3, .int x3), (4, .int x4), (5, .int x5), (6, .int x6), (7, .int x7), (8, .int x8)]) (hI : Iw D A (w_Mo g a0 s0 ++ (rest)) H) (hS : va_S A s.heap H locs) (h : B_Mo_likes_134 k13 k46 s0 x1 x2 x3 x4 x5 x6 x7 x8 = some out) : W p l e (headSpec ws_Mo_likes { frames := 0, cells := 0, slots := 0, locals := 0 }).room s m args below meth c H locs 0 0 (MQ below (QcI D A g out (fun (_ : Unit) => w_Mo g a0 s0 ++ (rest))) args s 0 0 A) (F0 m 134 ls []) := by
  have X1 := X
  obtain ⟨hx, hb, hml, hown, hts, hr, hlocks, hKK⟩ := X1
  have ht : ∀ w ∈ TB, w.before args s = true := fun w h => hts w (List.mem_cons_of_mem _ h)
  have hK := hKK.1
  unfold B_Mo_likes_134 at h
  refine lv_iload hx hb d_Mo_likes_134 (lv_at hl 6 rfl) ?_
  refine lv_bipush (v := 63) hx hb d_Mo_likes_136 (by decide) ?_
  refine lv_icmp_eq (tgt := 160) hx hb d_Mo_likes_138 (by decide) (fun hc => ?_) (fun hc => ?_)
  · have h := it_t h hc
    exact t_Mo_likes_160 X hk13 hk46 (lv_sub hl [0, 1, 2, 3, 4, 5, 6, 7, 8] rfl) hI hS h
  · have h := it_f h hc
    exact t_Mo_likes_141 X hk13 hk46 (lv_sub hl [0, 1, 2, 3, 4, 5, 6, 7, 8] rfl) hI hS h
set_option maxRecDepth 100000 in
set_option maxHeartbeats 4000000 in
theorem t_Mo_likes_128 {p : Program} {l : Launch} {e : Env} {s : State} {m : MethodId} {args : Array Value} {below : List Frame} {meth : Method} {c : Code} {D : va_G} {A : Nat → Prop} {g : Nat → ClassId} {rest : va_W} {a0 : Nat → Nat} {ls : Array Slot} {H : Heap} {locs : List Loc} {k13 : Int32 × Int32 × Int32 × Int32 × Int32 → Option Int32} {k46 : Int32 × Int32 × Int32 × Int32 × Int32 × Int32 × Int32 × Int32 → Option Int32} {s0 : S_Mo} {x1 : Int32} {x2 : Int32} {x3 : Int32} {x4 : Int32} {x5 : Int32} {x6 : Int32} {x7 : Int32} {x8 : Int32} {out : Int32} (X : Cx p s m args meth c prog_11_method_54_code 10 ws_Mo_likes R_Mo (some .boolean) D g) (hk13 : ∀ (v : Int32 × Int32 × Int32 × Int32 × Int32) (ls : Array Slot) (H : Heap) (locs : List Loc), lv_has ls 10 [(0, .ref (a0 0)), (1, .int v.1), (2, .int v.2.1), (3, .int v.2.2.1), (4, .int v.2.2.2.1), (5, .int v.2.2.2.2)] → Iw D A (w_Mo g a0 s0 ++ (rest)) H → va_S A s.heap H locs → k13 v = some out → W p l e (headSpec ws_Mo_likes { frames := 0, cells := 0, slots := 0, locals := 0 }).room s m args below meth c H locs 0 0 (MQ below (QcI D A g out (fun (_ : Unit) => w_Mo g a0 s0 ++ (rest))) args s 0 0 A) (F0 m 13 ls [])) (hk46 : ∀ (v : Int32 × Int32 × Int32 × Int32 × Int32 × Int32 × Int32 × Int32) (ls : Array Slot) (H : Heap) (locs : List Loc), lv_has ls 10 [(0, .ref (a0 0)), (1, .int v.1), (2, .int v.2.1), (3, .int v.2.2.1), (4, .int v.2.2.2.1), (5, .int v.2.2.2.2.1), (6, .int v.2.2.2.2.2.1), (7, .int v.2.2.2.2.2.2.1), (8, .int v.2.2.2.2.2.2.2)] → Iw D A (w_Mo g a0 s0 ++ (rest)) H → va_S A s.heap H locs → k46 v = some out → W p l e (headSpec ws_Mo_likes { frames := 0, cells := 0, slots := 0, locals := 0 }).room s m args below meth c H locs 0 0 (MQ below (QcI D A g out (fun (_ : Unit) => w_Mo g a0 s0 ++ (rest))) args s 0 0 A) (F0 m 46 ls [])) (hl : lv_has ls 10 [(0, .ref (a0 0)), (1, .int x1), (2, .int x2), (3, .int x3), (4, .int x4), (5, .int x5), (6, .int x6), (7, .int x7), (8, .int x8)]) (hI : Iw D A (w_Mo g a0 s0 ++ (rest)) H) (hS : va_S A s.heap H locs) (h : B_Mo_likes_128 k13 k46 s0 x1 x2 x3 x4 x5 x6 x7 x8 = some out) : W p l e (headSpec ws_Mo_likes { frames := 0, cells := 0, slots := 0, locals := 0 }).room s m args below meth c H locs 0 0 (MQ below (QcI D A g out (fun (_ : Unit) => w_Mo g a0 s0 ++ (rest))) args s 0 0 A) (F0 m 128 ls []) := by
  have X1 := X
  obtain ⟨hx, hb, hml, hown, hts, hr, hlocks, hKK⟩ := X1
  have ht : ∀ w ∈ TB, w.before args s = true := fun w h => hts w (List.mem_cons_of_mem _ h)
  have hK := hKK.1
  unfold B_Mo_likes_128 at h
  refine lv_iload hx hb d_Mo_likes_128 (lv_at hl 8 rfl) ?_
  refine lv_iload_n hx hb d_Mo_likes_130 rfl (lv_at hl 3 rfl) ?_
  refine lv_icmp_ge (tgt := 169) hx hb d_Mo_likes_131 (by decide) (fun hc => ?_) (fun hc => ?_)
  · have h := it_t h hc
    exact t_Mo_likes_169 X hk13 hk46 (lv_sub hl [0, 1, 2, 3, 4, 5, 6, 7, 8] rfl) hI hS h
  · have h := it_f h hc
    exact t_Mo_likes_134 X hk13 hk46 (lv_sub hl [0, 1, 2, 3, 4, 5, 6, 7, 8] rfl) hI hS h
set_option maxRecDepth 100000 in
set_option maxHeartbeats 4000000 in
theorem t_Mo_likes_121 {p : Program} {l : Launch} {e : Env} {s : State} {m : MethodId} {args : Array Value} {below : List Frame} {meth : Method} {c : Code} {D : va_G} {A : Nat → Prop} {g : Nat → ClassId} {rest : va_W} {a0 : Nat → Nat} {ls : Array Slot} {H : Heap} {locs : List Loc} {k13 : Int32 × Int32 × Int32 × Int32 × Int32 → Option Int32} {k46 : Int32 × Int32 × Int32 × Int32 × Int32 × Int32 × Int32 × Int32 → Option Int32} {s0 : S_Mo} {x1 : Int32} {x2 : Int32} {x3 : Int32} {x4 : Int32} {x5 : Int32} {x6 : Int32} {x7 : Int32} {x8 : Int32} {out : Int32} (X : Cx p s m args meth c prog_11_method_54_code 10 ws_Mo_likes R_Mo (some .boolean) D g) (hk13 : ∀ (v : Int32 × Int32 × Int32 × Int32 × Int32) (ls : Array Slot) (H : Heap) (locs : List Loc), lv_has ls 10 [(0, .ref (a0 0)), (1, .int v.1), (2, .int v.2.1), (3, .int v.2.2.1), (4, .int v.2.2.2.1), (5, .int v.2.2.2.2)] → Iw D A (w_Mo g a0 s0 ++ (rest)) H → va_S A s.heap H locs → k13 v = some out → W p l e (headSpec ws_Mo_likes { frames := 0, cells := 0, slots := 0, locals := 0 }).room s m args below meth c H locs 0 0 (MQ below (QcI D A g out (fun (_ : Unit) => w_Mo g a0 s0 ++ (rest))) args s 0 0 A) (F0 m 13 ls [])) (hk46 : ∀ (v : Int32 × Int32 × Int32 × Int32 × Int32 × Int32 × Int32 × Int32) (ls : Array Slot) (H : Heap) (locs : List Loc), lv_has ls 10 [(0, .ref (a0 0)), (1, .int v.1), (2, .int v.2.1), (3, .int v.2.2.1), (4, .int v.2.2.2.1), (5, .int v.2.2.2.2.1), (6, .int v.2.2.2.2.2.1), (7, .int v.2.2.2.2.2.2.1), (8, .int v.2.2.2.2.2.2.2)] → Iw D A (w_Mo g a0 s0 ++ (rest)) H → va_S A s.heap H locs → k46 v = some out → W p l e (headSpec ws_Mo_likes { frames := 0, cells := 0, slots := 0, locals := 0 }).room s m args below meth c H locs 0 0 (MQ below (QcI D A g out (fun (_ : Unit) => w_Mo g a0 s0 ++ (rest))) args s 0 0 A) (F0 m 46 ls [])) (hl : lv_has ls 10 [(0, .ref (a0 0)), (1, .int x1), (2, .int x2), (3, .int x3), (4, .int x4), (5, .int x5), (6, .int x6), (7, .int x7), (8, .int x8)]) (hI : Iw D A (w_Mo g a0 s0 ++ (rest)) H) (hS : va_S A s.heap H locs) (h : B_Mo_likes_121 k13 k46 s0 x1 x2 x3 x4 x5 x6 x7 x8 = some out) : W p l e (headSpec ws_Mo_likes { frames := 0, cells := 0, slots := 0, locals := 0 }).room s m args below meth c H locs 0 0 (MQ below (QcI D A g out (fun (_ : Unit) => w_Mo g a0 s0 ++ (rest))) args s 0 0 A) (F0 m 121 ls []) := by
  have X1 := X
  obtain ⟨hx, hb, hml, hown, hts, hr, hlocks, hKK⟩ := X1
  have ht : ∀ w ∈ TB, w.before args s = true := fun w h => hts w (List.mem_cons_of_mem _ h)
  have hK := hKK.1
  unfold B_Mo_likes_121 at h
  refine lv_iload hx hb d_Mo_likes_121 (lv_at hl 6 rfl) ?_
  refine lv_bipush (v := 42) hx hb d_Mo_likes_123 (by decide) ?_
  refine lv_icmp_eq (tgt := 169) hx hb d_Mo_likes_125 (by decide) (fun hc => ?_) (fun hc => ?_)
  · have h := it_t h hc
    exact t_Mo_likes_169 X hk13 hk46 (lv_sub hl [0, 1, 2, 3, 4, 5, 6, 7, 8] rfl) hI hS h
  · have h := it_f h hc
    exact t_Mo_likes_128 X hk13 hk46 (lv_sub hl [0, 1, 2, 3, 4, 5, 6, 7, 8] rfl) hI hS h
set_option maxRecDepth 100000 in
set_option maxHeartbeats 4000000 in
theorem t_Mo_likes_116 {p : Program} {l : Launch} {e : Env} {s : State} {m : MethodId} {args : Array Value} {below : List Frame} {meth : Method} {c : Code} {D : va_G} {A : Nat → Prop} {g : Nat → ClassId} {rest : va_W} {a0 : Nat → Nat} {ls : Array Slot} {H : Heap} {locs : List Loc} {k13 : Int32 × Int32 × Int32 × Int32 × Int32 → Option Int32} {k46 : Int32 × Int32 × Int32 × Int32 × Int32 × Int32 × Int32 × Int32 → Option Int32} {s0 : S_Mo} {x1 : Int32} {x2 : Int32} {x3 : Int32} {x4 : Int32} {x5 : Int32} {x6 : Int32} {x7 : Int32} {x8 : Int32} {x9 : Int32} {out : Int32} (X : Cx p s m args meth c prog_11_method_54_code 10 ws_Mo_likes R_Mo (some .boolean) D g) (hk13 : ∀ (v : Int32 × Int32 × Int32 × Int32 × Int32) (ls : Array Slot) (H : Heap) (locs : List Loc), lv_has ls 10 [(0, .ref (a0 0)), (1, .int v.1), (2, .int v.2.1), (3, .int v.2.2.1), (4, .int v.2.2.2.1), (5, .int v.2.2.2.2)] → Iw D A (w_Mo g a0 s0 ++ (rest)) H → va_S A s.heap H locs → k13 v = some out → W p l e (headSpec ws_Mo_likes { frames := 0, cells := 0, slots := 0, locals := 0 }).room s m args below meth c H locs 0 0 (MQ below (QcI D A g out (fun (_ : Unit) => w_Mo g a0 s0 ++ (rest))) args s 0 0 A) (F0 m 13 ls [])) (hk46 : ∀ (v : Int32 × Int32 × Int32 × Int32 × Int32 × Int32 × Int32 × Int32) (ls : Array Slot) (H : Heap) (locs : List Loc), lv_has ls 10 [(0, .ref (a0 0)), (1, .int v.1), (2, .int v.2.1), (3, .int v.2.2.1), (4, .int v.2.2.2.1), (5, .int v.2.2.2.2.1), (6, .int v.2.2.2.2.2.1), (7, .int v.2.2.2.2.2.2.1), (8, .int v.2.2.2.2.2.2.2)] → Iw D A (w_Mo g a0 s0 ++ (rest)) H → va_S A s.heap H locs → k46 v = some out → W p l e (headSpec ws_Mo_likes { frames := 0, cells := 0, slots := 0, locals := 0 }).room s m args below meth c H locs 0 0 (MQ below (QcI D A g out (fun (_ : Unit) => w_Mo g a0 s0 ++ (rest))) args s 0 0 A) (F0 m 46 ls [])) (hl : lv_has ls 10 [(0, .ref (a0 0)), (1, .int x1), (2, .int x2), (3, .int x3), (4, .int x4), (5, .int x5), (6, .int x6), (7, .int x7), (8, .int x8), (9, .int x9)]) (hI : Iw D A (w_Mo g a0 s0 ++ (rest)) H) (hS : va_S A s.heap H locs) (h : B_Mo_likes_116 k13 k46 s0 x1 x2 x3 x4 x5 x6 x7 x8 x9 = some out) : W p l e (headSpec ws_Mo_likes { frames := 0, cells := 0, slots := 0, locals := 0 }).room s m args below meth c H locs 0 0 (MQ below (QcI D A g out (fun (_ : Unit) => w_Mo g a0 s0 ++ (rest))) args s 0 0 A) (F0 m 116 ls []) := by
  have X1 := X
  obtain ⟨hx, hb, hml, hown, hts, hr, hlocks, hKK⟩ := X1
  have ht : ∀ w ∈ TB, w.before args s = true := fun w h => hts w (List.mem_cons_of_mem _ h)
  have hK := hKK.1
  unfold B_Mo_likes_116 at h
  refine lv_iload hx hb d_Mo_likes_116 (lv_at hl 9 rfl) ?_
  refine lv_if_eq (tgt := 169) hx hb d_Mo_likes_118 (by decide) (fun hc => ?_) (fun hc => ?_)
  · have h := it_t h hc
    exact t_Mo_likes_169 X hk13 hk46 (lv_sub hl [0, 1, 2, 3, 4, 5, 6, 7, 8] rfl) hI hS h
  · have h := it_f h hc
    exact t_Mo_likes_121 X hk13 hk46 (lv_sub hl [0, 1, 2, 3, 4, 5, 6, 7, 8] rfl) hI hS h
set_option maxRecDepth 100000 in
set_option maxHeartbeats 4000000 in
theorem t_Mo_likes_107 {p : Program} {l : Launch} {e : Env} {s : State} {m : MethodId} {args : Array Value} {below : List Frame} {meth : Method} {c : Code} {D : va_G} {A : Nat → Prop} {g : Nat → ClassId} {rest : va_W} {a0 : Nat → Nat} {ls : Array Slot} {H : Heap} {locs : List Loc} {k13 : Int32 × Int32 × Int32 × Int32 × Int32 → Option Int32} {k46 : Int32 × Int32 × Int32 × Int32 × Int32 × Int32 × Int32 × Int32 → Option Int32} {s0 : S_Mo} {x1 : Int32} {x2 : Int32} {x3 : Int32} {x4 : Int32} {x5 : Int32} {x6 : Int32} {x7 : Int32} {x8 : Int32} {x9 : Int32} {out : Int32} (X : Cx p s m args meth c prog_11_method_54_code 10 ws_Mo_likes R_Mo (some .boolean) D g) (hk13 : ∀ (v : Int32 × Int32 × Int32 × Int32 × Int32) (ls : Array Slot) (H : Heap) (locs : List Loc), lv_has ls 10 [(0, .ref (a0 0)), (1, .int v.1), (2, .int v.2.1), (3, .int v.2.2.1), (4, .int v.2.2.2.1), (5, .int v.2.2.2.2)] → Iw D A (w_Mo g a0 s0 ++ (rest)) H → va_S A s.heap H locs → k13 v = some out → W p l e (headSpec ws_Mo_likes { frames := 0, cells := 0, slots := 0, locals := 0 }).room s m args below meth c H locs 0 0 (MQ below (QcI D A g out (fun (_ : Unit) => w_Mo g a0 s0 ++ (rest))) args s 0 0 A) (F0 m 13 ls [])) (hk46 : ∀ (v : Int32 × Int32 × Int32 × Int32 × Int32 × Int32 × Int32 × Int32) (ls : Array Slot) (H : Heap) (locs : List Loc), lv_has ls 10 [(0, .ref (a0 0)), (1, .int v.1), (2, .int v.2.1), (3, .int v.2.2.1), (4, .int v.2.2.2.1), (5, .int v.2.2.2.2.1), (6, .int v.2.2.2.2.2.1), (7, .int v.2.2.2.2.2.2.1), (8, .int v.2.2.2.2.2.2.2)] → Iw D A (w_Mo g a0 s0 ++ (rest)) H → va_S A s.heap H locs → k46 v = some out → W p l e (headSpec ws_Mo_likes { frames := 0, cells := 0, slots := 0, locals := 0 }).room s m args below meth c H locs 0 0 (MQ below (QcI D A g out (fun (_ : Unit) => w_Mo g a0 s0 ++ (rest))) args s 0 0 A) (F0 m 46 ls [])) (hl : lv_has ls 10 [(0, .ref (a0 0)), (1, .int x1), (2, .int x2), (3, .int x3), (4, .int x4), (5, .int x5), (6, .int x6), (7, .int x7), (8, .int x8), (9, .int x9)]) (hI : Iw D A (w_Mo g a0 s0 ++ (rest)) H) (hS : va_S A s.heap H locs) (h : B_Mo_likes_107 k13 k46 s0 x1 x2 x3 x4 x5 x6 x7 x8 x9 = some out) : W p l e (headSpec ws_Mo_likes { frames := 0, cells := 0, slots := 0, locals := 0 }).room s m args below meth c H locs 0 0 (MQ below (QcI D A g out (fun (_ : Unit) => w_Mo g a0 s0 ++ (rest))) args s 0 0 A) (F0 m 107 ls []) := by
  have X1 := X
  obtain ⟨hx, hb, hml, hown, hts, hr, hlocks, hKK⟩ := X1
  have ht : ∀ w ∈ TB, w.before args s = true := fun w h => hts w (List.mem_cons_of_mem _ h)
  have hK := hKK.1
  unfold B_Mo_likes_107 at h
  refine lv_iload hx hb d_Mo_likes_107 (lv_at hl 7 rfl) ?_
  refine lv_iconst (v := 1) hx hb d_Mo_likes_109 (by decide) ?_
  refine lv_iload hx hb d_Mo_likes_110 (lv_at hl 8 rfl) ?_
  refine lv_ishl hx hb d_Mo_likes_112 ?_
  refine lv_ior hx hb d_Mo_likes_113 ?_
  refine lv_istore hx hb d_Mo_likes_114 hl (Nat.le_of_ble_eq_true rfl) rfl (fun ls hl => ?_)
  have hl : lv_has ls 10 [(7, .int (x7 ||| ((1 : Int32) <<< (x8 &&& 31)))), (0, .ref (a0 0)), (1, .int x1), (2, .int x2), (3, .int x3), (4, .int x4), (5, .int x5), (6, .int x6), (8, .int x8), (9, .int x9)] := hl
  exact t_Mo_likes_116 X hk13 hk46 (lv_sub hl [1, 2, 3, 4, 5, 6, 7, 0, 8, 9] rfl) hI hS h
set_option maxRecDepth 100000 in
set_option maxHeartbeats 4000000 in
theorem t_Mo_likes_100 {p : Program} {l : Launch} {e : Env} {s : State} {m : MethodId} {args : Array Value} {below : List Frame} {meth : Method} {c : Code} {D : va_G} {A : Nat → Prop} {g : Nat → ClassId} {rest : va_W} {a0 : Nat → Nat} {ls : Array Slot} {H : Heap} {locs : List Loc} {k13 : Int32 × Int32 × Int32 × Int32 × Int32 → Option Int32} {k46 : Int32 × Int32 × Int32 × Int32 × Int32 × Int32 × Int32 × Int32 → Option Int32} {s0 : S_Mo} {x1 : Int32} {x2 : Int32} {x3 : Int32} {x4 : Int32} {x5 : Int32} {x6 : Int32} {x7 : Int32} {x8 : Int32} {x9 : Int32} {out : Int32} (X : Cx p s m args meth c prog_11_method_54_code 10 ws_Mo_likes R_Mo (some .boolean) D g) (hk13 : ∀ (v : Int32 × Int32 × Int32 × Int32 × Int32) (ls : Array Slot) (H : Heap) (locs : List Loc), lv_has ls 10 [(0, .ref (a0 0)), (1, .int v.1), (2, .int v.2.1), (3, .int v.2.2.1), (4, .int v.2.2.2.1), (5, .int v.2.2.2.2)] → Iw D A (w_Mo g a0 s0 ++ (rest)) H → va_S A s.heap H locs → k13 v = some out → W p l e (headSpec ws_Mo_likes { frames := 0, cells := 0, slots := 0, locals := 0 }).room s m args below meth c H locs 0 0 (MQ below (QcI D A g out (fun (_ : Unit) => w_Mo g a0 s0 ++ (rest))) args s 0 0 A) (F0 m 13 ls [])) (hk46 : ∀ (v : Int32 × Int32 × Int32 × Int32 × Int32 × Int32 × Int32 × Int32) (ls : Array Slot) (H : Heap) (locs : List Loc), lv_has ls 10 [(0, .ref (a0 0)), (1, .int v.1), (2, .int v.2.1), (3, .int v.2.2.1), (4, .int v.2.2.2.1), (5, .int v.2.2.2.2.1), (6, .int v.2.2.2.2.2.1), (7, .int v.2.2.2.2.2.2.1), (8, .int v.2.2.2.2.2.2.2)] → Iw D A (w_Mo g a0 s0 ++ (rest)) H → va_S A s.heap H locs → k46 v = some out → W p l e (headSpec ws_Mo_likes { frames := 0, cells := 0, slots := 0, locals := 0 }).room s m args below meth c H locs 0 0 (MQ below (QcI D A g out (fun (_ : Unit) => w_Mo g a0 s0 ++ (rest))) args s 0 0 A) (F0 m 46 ls [])) (hl : lv_has ls 10 [(0, .ref (a0 0)), (1, .int x1), (2, .int x2), (3, .int x3), (4, .int x4), (5, .int x5), (6, .int x6), (7, .int x7), (8, .int x8), (9, .int x9)]) (hI : Iw D A (w_Mo g a0 s0 ++ (rest)) H) (hS : va_S A s.heap H locs) (h : B_Mo_likes_100 k13 k46 s0 x1 x2 x3 x4 x5 x6 x7 x8 x9 = some out) : W p l e (headSpec ws_Mo_likes { frames := 0, cells := 0, slots := 0, locals := 0 }).room s m args below meth c H locs 0 0 (MQ below (QcI D A g out (fun (_ : Unit) => w_Mo g a0 s0 ++ (rest))) args s 0 0 A) (F0 m 100 ls []) := by
  have X1 := X
  obtain ⟨hx, hb, hml, hown, hts, hr, hlocks, hKK⟩ := X1
  have ht : ∀ w ∈ TB, w.before args s = true := fun w h => hts w (List.mem_cons_of_mem _ h)
  have hK := hKK.1
  unfold B_Mo_likes_100 at h
  refine lv_iload hx hb d_Mo_likes_100 (lv_at hl 6 rfl) ?_
  refine lv_bipush (v := 42) hx hb d_Mo_likes_102 (by decide) ?_
  refine lv_icmp_ne (tgt := 116) hx hb d_Mo_likes_104 (by decide) (fun hc => ?_) (fun hc => ?_)
  · have h := it_f h hc
    exact t_Mo_likes_116 X hk13 hk46 (lv_sub hl [0, 1, 2, 3, 4, 5, 6, 7, 8, 9] rfl) hI hS h
  · have h := it_t h hc
    exact t_Mo_likes_107 X hk13 hk46 (lv_sub hl [0, 1, 2, 3, 4, 5, 6, 7, 8, 9] rfl) hI hS h
set_option maxRecDepth 100000 in
set_option maxHeartbeats 4000000 in
theorem t_Mo_likes_93 {p : Program} {l : Launch} {e : Env} {s : State} {m : MethodId} {args : Array Value} {below : List Frame} {meth : Method} {c : Code} {D : va_G} {A : Nat → Prop} {g : Nat → ClassId} {rest : va_W} {a0 : Nat → Nat} {ls : Array Slot} {H : Heap} {locs : List Loc} {k13 : Int32 × Int32 × Int32 × Int32 × Int32 → Option Int32} {k46 : Int32 × Int32 × Int32 × Int32 × Int32 × Int32 × Int32 × Int32 → Option Int32} {s0 : S_Mo} {x1 : Int32} {x2 : Int32} {x3 : Int32} {x4 : Int32} {x5 : Int32} {x6 : Int32} {x7 : Int32} {x8 : Int32} {y0 : Int32} {out : Int32} (X : Cx p s m args meth c prog_11_method_54_code 10 ws_Mo_likes R_Mo (some .boolean) D g) (hk13 : ∀ (v : Int32 × Int32 × Int32 × Int32 × Int32) (ls : Array Slot) (H : Heap) (locs : List Loc), lv_has ls 10 [(0, .ref (a0 0)), (1, .int v.1), (2, .int v.2.1), (3, .int v.2.2.1), (4, .int v.2.2.2.1), (5, .int v.2.2.2.2)] → Iw D A (w_Mo g a0 s0 ++ (rest)) H → va_S A s.heap H locs → k13 v = some out → W p l e (headSpec ws_Mo_likes { frames := 0, cells := 0, slots := 0, locals := 0 }).room s m args below meth c H locs 0 0 (MQ below (QcI D A g out (fun (_ : Unit) => w_Mo g a0 s0 ++ (rest))) args s 0 0 A) (F0 m 13 ls [])) (hk46 : ∀ (v : Int32 × Int32 × Int32 × Int32 × Int32 × Int32 × Int32 × Int32) (ls : Array Slot) (H : Heap) (locs : List Loc), lv_has ls 10 [(0, .ref (a0 0)), (1, .int v.1), (2, .int v.2.1), (3, .int v.2.2.1), (4, .int v.2.2.2.1), (5, .int v.2.2.2.2.1), (6, .int v.2.2.2.2.2.1), (7, .int v.2.2.2.2.2.2.1), (8, .int v.2.2.2.2.2.2.2)] → Iw D A (w_Mo g a0 s0 ++ (rest)) H → va_S A s.heap H locs → k46 v = some out → W p l e (headSpec ws_Mo_likes { frames := 0, cells := 0, slots := 0, locals := 0 }).room s m args below meth c H locs 0 0 (MQ below (QcI D A g out (fun (_ : Unit) => w_Mo g a0 s0 ++ (rest))) args s 0 0 A) (F0 m 46 ls [])) (hl : lv_has ls 10 [(0, .ref (a0 0)), (1, .int x1), (2, .int x2), (3, .int x3), (4, .int x4), (5, .int x5), (6, .int x6), (7, .int x7), (8, .int x8)]) (hI : Iw D A (w_Mo g a0 s0 ++ (rest)) H) (hS : va_S A s.heap H locs) (h : B_Mo_likes_93 k13 k46 s0 x1 x2 x3 x4 x5 x6 x7 x8 y0 = some out) : W p l e (headSpec ws_Mo_likes { frames := 0, cells := 0, slots := 0, locals := 0 }).room s m args below meth c H locs 0 0 (MQ below (QcI D A g out (fun (_ : Unit) => w_Mo g a0 s0 ++ (rest))) args s 0 0 A) (F0 m 93 ls [.int y0]) := by
  have X1 := X
  obtain ⟨hx, hb, hml, hown, hts, hr, hlocks, hKK⟩ := X1
  have ht : ∀ w ∈ TB, w.before args s = true := fun w h => hts w (List.mem_cons_of_mem _ h)
  have hK := hKK.1
  unfold B_Mo_likes_93 at h
  refine lv_istore hx hb d_Mo_likes_93 hl (Nat.le_of_ble_eq_true rfl) rfl (fun ls hl => ?_)
  have hl : lv_has ls 10 [(9, .int y0), (0, .ref (a0 0)), (1, .int x1), (2, .int x2), (3, .int x3), (4, .int x4), (5, .int x5), (6, .int x6), (7, .int x7), (8, .int x8)] := hl
  refine lv_iload hx hb d_Mo_likes_95 (lv_at hl 0 rfl) ?_
  refine lv_if_eq (tgt := 116) hx hb d_Mo_likes_97 (by decide) (fun hc => ?_) (fun hc => ?_)
  · have h := it_t h hc
    exact t_Mo_likes_116 X hk13 hk46 (lv_sub hl [1, 2, 3, 4, 5, 6, 7, 8, 9, 0] rfl) hI hS h
  · have h := it_f h hc
    exact t_Mo_likes_100 X hk13 hk46 (lv_sub hl [1, 2, 3, 4, 5, 6, 7, 8, 9, 0] rfl) hI hS h
set_option maxRecDepth 100000 in
set_option maxHeartbeats 4000000 in
theorem t_Mo_likes_88 {p : Program} {l : Launch} {e : Env} {s : State} {m : MethodId} {args : Array Value} {below : List Frame} {meth : Method} {c : Code} {D : va_G} {A : Nat → Prop} {g : Nat → ClassId} {rest : va_W} {a0 : Nat → Nat} {ls : Array Slot} {H : Heap} {locs : List Loc} {k13 : Int32 × Int32 × Int32 × Int32 × Int32 → Option Int32} {k46 : Int32 × Int32 × Int32 × Int32 × Int32 × Int32 × Int32 × Int32 → Option Int32} {s0 : S_Mo} {x1 : Int32} {x2 : Int32} {x3 : Int32} {x4 : Int32} {x5 : Int32} {x6 : Int32} {x7 : Int32} {x8 : Int32} {out : Int32} (X : Cx p s m args meth c prog_11_method_54_code 10 ws_Mo_likes R_Mo (some .boolean) D g) (hk13 : ∀ (v : Int32 × Int32 × Int32 × Int32 × Int32) (ls : Array Slot) (H : Heap) (locs : List Loc), lv_has ls 10 [(0, .ref (a0 0)), (1, .int v.1), (2, .int v.2.1), (3, .int v.2.2.1), (4, .int v.2.2.2.1), (5, .int v.2.2.2.2)] → Iw D A (w_Mo g a0 s0 ++ (rest)) H → va_S A s.heap H locs → k13 v = some out → W p l e (headSpec ws_Mo_likes { frames := 0, cells := 0, slots := 0, locals := 0 }).room s m args below meth c H locs 0 0 (MQ below (QcI D A g out (fun (_ : Unit) => w_Mo g a0 s0 ++ (rest))) args s 0 0 A) (F0 m 13 ls [])) (hk46 : ∀ (v : Int32 × Int32 × Int32 × Int32 × Int32 × Int32 × Int32 × Int32) (ls : Array Slot) (H : Heap) (locs : List Loc), lv_has ls 10 [(0, .ref (a0 0)), (1, .int v.1), (2, .int v.2.1), (3, .int v.2.2.1), (4, .int v.2.2.2.1), (5, .int v.2.2.2.2.1), (6, .int v.2.2.2.2.2.1), (7, .int v.2.2.2.2.2.2.1), (8, .int v.2.2.2.2.2.2.2)] → Iw D A (w_Mo g a0 s0 ++ (rest)) H → va_S A s.heap H locs → k46 v = some out → W p l e (headSpec ws_Mo_likes { frames := 0, cells := 0, slots := 0, locals := 0 }).room s m args below meth c H locs 0 0 (MQ below (QcI D A g out (fun (_ : Unit) => w_Mo g a0 s0 ++ (rest))) args s 0 0 A) (F0 m 46 ls [])) (hl : lv_has ls 10 [(0, .ref (a0 0)), (1, .int x1), (2, .int x2), (3, .int x3), (4, .int x4), (5, .int x5), (6, .int x6), (7, .int x7), (8, .int x8)]) (hI : Iw D A (w_Mo g a0 s0 ++ (rest)) H) (hS : va_S A s.heap H locs) (h : B_Mo_likes_88 k13 k46 s0 x1 x2 x3 x4 x5 x6 x7 x8 = some out) : W p l e (headSpec ws_Mo_likes { frames := 0, cells := 0, slots := 0, locals := 0 }).room s m args below meth c H locs 0 0 (MQ below (QcI D A g out (fun (_ : Unit) => w_Mo g a0 s0 ++ (rest))) args s 0 0 A) (F0 m 88 ls []) := by
  have X1 := X
  obtain ⟨hx, hb, hml, hown, hts, hr, hlocks, hKK⟩ := X1
  have ht : ∀ w ∈ TB, w.before args s = true := fun w h => hts w (List.mem_cons_of_mem _ h)
  have hK := hKK.1
  unfold B_Mo_likes_88 at h
  refine lv_iconst (v := 1) hx hb d_Mo_likes_88 (by decide) ?_
  refine lv_goto (tgt := 93) hx hb d_Mo_likes_89 (by decide) ?_
  exact t_Mo_likes_93 X hk13 hk46 (lv_sub hl [0, 1, 2, 3, 4, 5, 6, 7, 8] rfl) hI hS h
set_option maxRecDepth 100000 in
set_option maxHeartbeats 4000000 in
theorem t_Mo_likes_92 {p : Program} {l : Launch} {e : Env} {s : State} {m : MethodId} {args : Array Value} {below : List Frame} {meth : Method} {c : Code} {D : va_G} {A : Nat → Prop} {g : Nat → ClassId} {rest : va_W} {a0 : Nat → Nat} {ls : Array Slot} {H : Heap} {locs : List Loc} {k13 : Int32 × Int32 × Int32 × Int32 × Int32 → Option Int32} {k46 : Int32 × Int32 × Int32 × Int32 × Int32 × Int32 × Int32 × Int32 → Option Int32} {s0 : S_Mo} {x1 : Int32} {x2 : Int32} {x3 : Int32} {x4 : Int32} {x5 : Int32} {x6 : Int32} {x7 : Int32} {x8 : Int32} {out : Int32} (X : Cx p s m args meth c prog_11_method_54_code 10 ws_Mo_likes R_Mo (some .boolean) D g) (hk13 : ∀ (v : Int32 × Int32 × Int32 × Int32 × Int32) (ls : Array Slot) (H : Heap) (locs : List Loc), lv_has ls 10 [(0, .ref (a0 0)), (1, .int v.1), (2, .int v.2.1), (3, .int v.2.2.1), (4, .int v.2.2.2.1), (5, .int v.2.2.2.2)] → Iw D A (w_Mo g a0 s0 ++ (rest)) H → va_S A s.heap H locs → k13 v = some out → W p l e (headSpec ws_Mo_likes { frames := 0, cells := 0, slots := 0, locals := 0 }).room s m args below meth c H locs 0 0 (MQ below (QcI D A g out (fun (_ : Unit) => w_Mo g a0 s0 ++ (rest))) args s 0 0 A) (F0 m 13 ls [])) (hk46 : ∀ (v : Int32 × Int32 × Int32 × Int32 × Int32 × Int32 × Int32 × Int32) (ls : Array Slot) (H : Heap) (locs : List Loc), lv_has ls 10 [(0, .ref (a0 0)), (1, .int v.1), (2, .int v.2.1), (3, .int v.2.2.1), (4, .int v.2.2.2.1), (5, .int v.2.2.2.2.1), (6, .int v.2.2.2.2.2.1), (7, .int v.2.2.2.2.2.2.1), (8, .int v.2.2.2.2.2.2.2)] → Iw D A (w_Mo g a0 s0 ++ (rest)) H → va_S A s.heap H locs → k46 v = some out → W p l e (headSpec ws_Mo_likes { frames := 0, cells := 0, slots := 0, locals := 0 }).room s m args below meth c H locs 0 0 (MQ below (QcI D A g out (fun (_ : Unit) => w_Mo g a0 s0 ++ (rest))) args s 0 0 A) (F0 m 46 ls [])) (hl : lv_has ls 10 [(0, .ref (a0 0)), (1, .int x1), (2, .int x2), (3, .int x3), (4, .int x4), (5, .int x5), (6, .int x6), (7, .int x7), (8, .int x8)]) (hI : Iw D A (w_Mo g a0 s0 ++ (rest)) H) (hS : va_S A s.heap H locs) (h : B_Mo_likes_92 k13 k46 s0 x1 x2 x3 x4 x5 x6 x7 x8 = some out) : W p l e (headSpec ws_Mo_likes { frames := 0, cells := 0, slots := 0, locals := 0 }).room s m args below meth c H locs 0 0 (MQ below (QcI D A g out (fun (_ : Unit) => w_Mo g a0 s0 ++ (rest))) args s 0 0 A) (F0 m 92 ls []) := by
  have X1 := X
  obtain ⟨hx, hb, hml, hown, hts, hr, hlocks, hKK⟩ := X1
  have ht : ∀ w ∈ TB, w.before args s = true := fun w h => hts w (List.mem_cons_of_mem _ h)
  have hK := hKK.1
  unfold B_Mo_likes_92 at h
  refine lv_iconst (v := 0) hx hb d_Mo_likes_92 (by decide) ?_
  exact t_Mo_likes_93 X hk13 hk46 (lv_sub hl [0, 1, 2, 3, 4, 5, 6, 7, 8] rfl) hI hS h
set_option maxRecDepth 100000 in
set_option maxHeartbeats 4000000 in
theorem t_Mo_likes_75 {p : Program} {l : Launch} {e : Env} {s : State} {m : MethodId} {args : Array Value} {below : List Frame} {meth : Method} {c : Code} {D : va_G} {A : Nat → Prop} {g : Nat → ClassId} {rest : va_W} {a0 : Nat → Nat} {ls : Array Slot} {H : Heap} {locs : List Loc} {k13 : Int32 × Int32 × Int32 × Int32 × Int32 → Option Int32} {k46 : Int32 × Int32 × Int32 × Int32 × Int32 × Int32 × Int32 × Int32 → Option Int32} {s0 : S_Mo} {x1 : Int32} {x2 : Int32} {x3 : Int32} {x4 : Int32} {x5 : Int32} {x6 : Int32} {x7 : Int32} {x8 : Int32} {out : Int32} (X : Cx p s m args meth c prog_11_method_54_code 10 ws_Mo_likes R_Mo (some .boolean) D g) (hk13 : ∀ (v : Int32 × Int32 × Int32 × Int32 × Int32) (ls : Array Slot) (H : Heap) (locs : List Loc), lv_has ls 10 [(0, .ref (a0 0)), (1, .int v.1), (2, .int v.2.1), (3, .int v.2.2.1), (4, .int v.2.2.2.1), (5, .int v.2.2.2.2)] → Iw D A (w_Mo g a0 s0 ++ (rest)) H → va_S A s.heap H locs → k13 v = some out → W p l e (headSpec ws_Mo_likes { frames := 0, cells := 0, slots := 0, locals := 0 }).room s m args below meth c H locs 0 0 (MQ below (QcI D A g out (fun (_ : Unit) => w_Mo g a0 s0 ++ (rest))) args s 0 0 A) (F0 m 13 ls [])) (hk46 : ∀ (v : Int32 × Int32 × Int32 × Int32 × Int32 × Int32 × Int32 × Int32) (ls : Array Slot) (H : Heap) (locs : List Loc), lv_has ls 10 [(0, .ref (a0 0)), (1, .int v.1), (2, .int v.2.1), (3, .int v.2.2.1), (4, .int v.2.2.2.1), (5, .int v.2.2.2.2.1), (6, .int v.2.2.2.2.2.1), (7, .int v.2.2.2.2.2.2.1), (8, .int v.2.2.2.2.2.2.2)] → Iw D A (w_Mo g a0 s0 ++ (rest)) H → va_S A s.heap H locs → k46 v = some out → W p l e (headSpec ws_Mo_likes { frames := 0, cells := 0, slots := 0, locals := 0 }).room s m args below meth c H locs 0 0 (MQ below (QcI D A g out (fun (_ : Unit) => w_Mo g a0 s0 ++ (rest))) args s 0 0 A) (F0 m 46 ls [])) (hl : lv_has ls 10 [(0, .ref (a0 0)), (1, .int x1), (2, .int x2), (3, .int x3), (4, .int x4), (5, .int x5), (6, .int x6), (7, .int x7), (8, .int x8)]) (hI : Iw D A (w_Mo g a0 s0 ++ (rest)) H) (hS : va_S A s.heap H locs) (h : B_Mo_likes_75 k13 k46 s0 x1 x2 x3 x4 x5 x6 x7 x8 = some out) : W p l e (headSpec ws_Mo_likes { frames := 0, cells := 0, slots := 0, locals := 0 }).room s m args below meth c H locs 0 0 (MQ below (QcI D A g out (fun (_ : Unit) => w_Mo g a0 s0 ++ (rest))) args s 0 0 A) (F0 m 75 ls []) := by
  have X1 := X
  obtain ⟨hx, hb, hml, hown, hts, hr, hlocks, hKK⟩ := X1
  have ht : ∀ w ∈ TB, w.before args s = true := fun w h => hts w (List.mem_cons_of_mem _ h)
  have hK := hKK.1
  unfold B_Mo_likes_75 at h
  refine lv_iload hx hb d_Mo_likes_75 (lv_at hl 7 rfl) ?_
  refine lv_iload hx hb d_Mo_likes_77 (lv_at hl 8 rfl) ?_
  refine lv_iconst (v := 1) hx hb d_Mo_likes_79 (by decide) ?_
  refine lv_isub hx hb d_Mo_likes_80 ?_
  refine lv_ishr hx hb d_Mo_likes_81 ?_
  refine lv_iconst (v := 1) hx hb d_Mo_likes_82 (by decide) ?_
  refine lv_iand hx hb d_Mo_likes_83 ?_
  refine lv_iconst (v := 1) hx hb d_Mo_likes_84 (by decide) ?_
  refine lv_icmp_ne (tgt := 92) hx hb d_Mo_likes_85 (by decide) (fun hc => ?_) (fun hc => ?_)
  · have h := it_f h hc
    exact t_Mo_likes_92 X hk13 hk46 (lv_sub hl [0, 1, 2, 3, 4, 5, 6, 7, 8] rfl) hI hS h
  · have h := it_t h hc
    exact t_Mo_likes_88 X hk13 hk46 (lv_sub hl [0, 1, 2, 3, 4, 5, 6, 7, 8] rfl) hI hS h
set_option maxRecDepth 100000 in
set_option maxHeartbeats 4000000 in
theorem t_Mo_likes_70 {p : Program} {l : Launch} {e : Env} {s : State} {m : MethodId} {args : Array Value} {below : List Frame} {meth : Method} {c : Code} {D : va_G} {A : Nat → Prop} {g : Nat → ClassId} {rest : va_W} {a0 : Nat → Nat} {ls : Array Slot} {H : Heap} {locs : List Loc} {k13 : Int32 × Int32 × Int32 × Int32 × Int32 → Option Int32} {k46 : Int32 × Int32 × Int32 × Int32 × Int32 × Int32 × Int32 × Int32 → Option Int32} {s0 : S_Mo} {x1 : Int32} {x2 : Int32} {x3 : Int32} {x4 : Int32} {x5 : Int32} {x6 : Int32} {x7 : Int32} {x8 : Int32} {out : Int32} (X : Cx p s m args meth c prog_11_method_54_code 10 ws_Mo_likes R_Mo (some .boolean) D g) (hk13 : ∀ (v : Int32 × Int32 × Int32 × Int32 × Int32) (ls : Array Slot) (H : Heap) (locs : List Loc), lv_has ls 10 [(0, .ref (a0 0)), (1, .int v.1), (2, .int v.2.1), (3, .int v.2.2.1), (4, .int v.2.2.2.1), (5, .int v.2.2.2.2)] → Iw D A (w_Mo g a0 s0 ++ (rest)) H → va_S A s.heap H locs → k13 v = some out → W p l e (headSpec ws_Mo_likes { frames := 0, cells := 0, slots := 0, locals := 0 }).room s m args below meth c H locs 0 0 (MQ below (QcI D A g out (fun (_ : Unit) => w_Mo g a0 s0 ++ (rest))) args s 0 0 A) (F0 m 13 ls [])) (hk46 : ∀ (v : Int32 × Int32 × Int32 × Int32 × Int32 × Int32 × Int32 × Int32) (ls : Array Slot) (H : Heap) (locs : List Loc), lv_has ls 10 [(0, .ref (a0 0)), (1, .int v.1), (2, .int v.2.1), (3, .int v.2.2.1), (4, .int v.2.2.2.1), (5, .int v.2.2.2.2.1), (6, .int v.2.2.2.2.2.1), (7, .int v.2.2.2.2.2.2.1), (8, .int v.2.2.2.2.2.2.2)] → Iw D A (w_Mo g a0 s0 ++ (rest)) H → va_S A s.heap H locs → k46 v = some out → W p l e (headSpec ws_Mo_likes { frames := 0, cells := 0, slots := 0, locals := 0 }).room s m args below meth c H locs 0 0 (MQ below (QcI D A g out (fun (_ : Unit) => w_Mo g a0 s0 ++ (rest))) args s 0 0 A) (F0 m 46 ls [])) (hl : lv_has ls 10 [(0, .ref (a0 0)), (1, .int x1), (2, .int x2), (3, .int x3), (4, .int x4), (5, .int x5), (6, .int x6), (7, .int x7), (8, .int x8)]) (hI : Iw D A (w_Mo g a0 s0 ++ (rest)) H) (hS : va_S A s.heap H locs) (h : B_Mo_likes_70 k13 k46 s0 x1 x2 x3 x4 x5 x6 x7 x8 = some out) : W p l e (headSpec ws_Mo_likes { frames := 0, cells := 0, slots := 0, locals := 0 }).room s m args below meth c H locs 0 0 (MQ below (QcI D A g out (fun (_ : Unit) => w_Mo g a0 s0 ++ (rest))) args s 0 0 A) (F0 m 70 ls []) := by
  have X1 := X
  obtain ⟨hx, hb, hml, hown, hts, hr, hlocks, hKK⟩ := X1
  have ht : ∀ w ∈ TB, w.before args s = true := fun w h => hts w (List.mem_cons_of_mem _ h)
  have hK := hKK.1
  unfold B_Mo_likes_70 at h
  refine lv_iload hx hb d_Mo_likes_70 (lv_at hl 8 rfl) ?_
  refine lv_if_le (tgt := 92) hx hb d_Mo_likes_72 (by decide) (fun hc => ?_) (fun hc => ?_)
  · have h := it_t h hc
    exact t_Mo_likes_92 X hk13 hk46 (lv_sub hl [0, 1, 2, 3, 4, 5, 6, 7, 8] rfl) hI hS h
  · have h := it_f h hc
    exact t_Mo_likes_75 X hk13 hk46 (lv_sub hl [0, 1, 2, 3, 4, 5, 6, 7, 8] rfl) hI hS h
set_option maxRecDepth 100000 in
set_option maxHeartbeats 4000000 in
theorem t_Mo_likes_63 {p : Program} {l : Launch} {e : Env} {s : State} {m : MethodId} {args : Array Value} {below : List Frame} {meth : Method} {c : Code} {D : va_G} {A : Nat → Prop} {g : Nat → ClassId} {rest : va_W} {a0 : Nat → Nat} {ls : Array Slot} {H : Heap} {locs : List Loc} {k13 : Int32 × Int32 × Int32 × Int32 × Int32 → Option Int32} {k46 : Int32 × Int32 × Int32 × Int32 × Int32 × Int32 × Int32 × Int32 → Option Int32} {s0 : S_Mo} {x1 : Int32} {x2 : Int32} {x3 : Int32} {x4 : Int32} {x5 : Int32} {x6 : Int32} {x7 : Int32} {x8 : Int32} {out : Int32} (X : Cx p s m args meth c prog_11_method_54_code 10 ws_Mo_likes R_Mo (some .boolean) D g) (hk13 : ∀ (v : Int32 × Int32 × Int32 × Int32 × Int32) (ls : Array Slot) (H : Heap) (locs : List Loc), lv_has ls 10 [(0, .ref (a0 0)), (1, .int v.1), (2, .int v.2.1), (3, .int v.2.2.1), (4, .int v.2.2.2.1), (5, .int v.2.2.2.2)] → Iw D A (w_Mo g a0 s0 ++ (rest)) H → va_S A s.heap H locs → k13 v = some out → W p l e (headSpec ws_Mo_likes { frames := 0, cells := 0, slots := 0, locals := 0 }).room s m args below meth c H locs 0 0 (MQ below (QcI D A g out (fun (_ : Unit) => w_Mo g a0 s0 ++ (rest))) args s 0 0 A) (F0 m 13 ls [])) (hk46 : ∀ (v : Int32 × Int32 × Int32 × Int32 × Int32 × Int32 × Int32 × Int32) (ls : Array Slot) (H : Heap) (locs : List Loc), lv_has ls 10 [(0, .ref (a0 0)), (1, .int v.1), (2, .int v.2.1), (3, .int v.2.2.1), (4, .int v.2.2.2.1), (5, .int v.2.2.2.2.1), (6, .int v.2.2.2.2.2.1), (7, .int v.2.2.2.2.2.2.1), (8, .int v.2.2.2.2.2.2.2)] → Iw D A (w_Mo g a0 s0 ++ (rest)) H → va_S A s.heap H locs → k46 v = some out → W p l e (headSpec ws_Mo_likes { frames := 0, cells := 0, slots := 0, locals := 0 }).room s m args below meth c H locs 0 0 (MQ below (QcI D A g out (fun (_ : Unit) => w_Mo g a0 s0 ++ (rest))) args s 0 0 A) (F0 m 46 ls [])) (hl : lv_has ls 10 [(0, .ref (a0 0)), (1, .int x1), (2, .int x2), (3, .int x3), (4, .int x4), (5, .int x5), (6, .int x6), (7, .int x7), (8, .int x8)]) (hI : Iw D A (w_Mo g a0 s0 ++ (rest)) H) (hS : va_S A s.heap H locs) (h : B_Mo_likes_63 k13 k46 s0 x1 x2 x3 x4 x5 x6 x7 x8 = some out) : W p l e (headSpec ws_Mo_likes { frames := 0, cells := 0, slots := 0, locals := 0 }).room s m args below meth c H locs 0 0 (MQ below (QcI D A g out (fun (_ : Unit) => w_Mo g a0 s0 ++ (rest))) args s 0 0 A) (F0 m 63 ls []) := by
  have X1 := X
  obtain ⟨hx, hb, hml, hown, hts, hr, hlocks, hKK⟩ := X1
  have ht : ∀ w ∈ TB, w.before args s = true := fun w h => hts w (List.mem_cons_of_mem _ h)
  have hK := hKK.1
  unfold B_Mo_likes_63 at h
  refine lv_iload hx hb d_Mo_likes_63 (lv_at hl 6 rfl) ?_
  refine lv_bipush (v := 42) hx hb d_Mo_likes_65 (by decide) ?_
  refine lv_icmp_ne (tgt := 92) hx hb d_Mo_likes_67 (by decide) (fun hc => ?_) (fun hc => ?_)
  · have h := it_f h hc
    exact t_Mo_likes_92 X hk13 hk46 (lv_sub hl [0, 1, 2, 3, 4, 5, 6, 7, 8] rfl) hI hS h
  · have h := it_t h hc
    exact t_Mo_likes_70 X hk13 hk46 (lv_sub hl [0, 1, 2, 3, 4, 5, 6, 7, 8] rfl) hI hS h
set_option maxRecDepth 100000 in
set_option maxHeartbeats 4000000 in
theorem t_Mo_likes_52 {p : Program} {l : Launch} {e : Env} {s : State} {m : MethodId} {args : Array Value} {below : List Frame} {meth : Method} {c : Code} {D : va_G} {A : Nat → Prop} {g : Nat → ClassId} {rest : va_W} {a0 : Nat → Nat} {ls : Array Slot} {H : Heap} {locs : List Loc} {k13 : Int32 × Int32 × Int32 × Int32 × Int32 → Option Int32} {k46 : Int32 × Int32 × Int32 × Int32 × Int32 × Int32 × Int32 × Int32 → Option Int32} {s0 : S_Mo} {x1 : Int32} {x2 : Int32} {x3 : Int32} {x4 : Int32} {x5 : Int32} {x6 : Int32} {x7 : Int32} {x8 : Int32} {out : Int32} (X : Cx p s m args meth c prog_11_method_54_code 10 ws_Mo_likes R_Mo (some .boolean) D g) (hk13 : ∀ (v : Int32 × Int32 × Int32 × Int32 × Int32) (ls : Array Slot) (H : Heap) (locs : List Loc), lv_has ls 10 [(0, .ref (a0 0)), (1, .int v.1), (2, .int v.2.1), (3, .int v.2.2.1), (4, .int v.2.2.2.1), (5, .int v.2.2.2.2)] → Iw D A (w_Mo g a0 s0 ++ (rest)) H → va_S A s.heap H locs → k13 v = some out → W p l e (headSpec ws_Mo_likes { frames := 0, cells := 0, slots := 0, locals := 0 }).room s m args below meth c H locs 0 0 (MQ below (QcI D A g out (fun (_ : Unit) => w_Mo g a0 s0 ++ (rest))) args s 0 0 A) (F0 m 13 ls [])) (hk46 : ∀ (v : Int32 × Int32 × Int32 × Int32 × Int32 × Int32 × Int32 × Int32) (ls : Array Slot) (H : Heap) (locs : List Loc), lv_has ls 10 [(0, .ref (a0 0)), (1, .int v.1), (2, .int v.2.1), (3, .int v.2.2.1), (4, .int v.2.2.2.1), (5, .int v.2.2.2.2.1), (6, .int v.2.2.2.2.2.1), (7, .int v.2.2.2.2.2.2.1), (8, .int v.2.2.2.2.2.2.2)] → Iw D A (w_Mo g a0 s0 ++ (rest)) H → va_S A s.heap H locs → k46 v = some out → W p l e (headSpec ws_Mo_likes { frames := 0, cells := 0, slots := 0, locals := 0 }).room s m args below meth c H locs 0 0 (MQ below (QcI D A g out (fun (_ : Unit) => w_Mo g a0 s0 ++ (rest))) args s 0 0 A) (F0 m 46 ls [])) (hl : lv_has ls 10 [(0, .ref (a0 0)), (1, .int x1), (2, .int x2), (3, .int x3), (4, .int x4), (5, .int x5), (6, .int x6), (7, .int x7), (8, .int x8)]) (hI : Iw D A (w_Mo g a0 s0 ++ (rest)) H) (hS : va_S A s.heap H locs) (h : B_Mo_likes_52 k13 k46 s0 x1 x2 x3 x4 x5 x6 x7 x8 = some out) : W p l e (headSpec ws_Mo_likes { frames := 0, cells := 0, slots := 0, locals := 0 }).room s m args below meth c H locs 0 0 (MQ below (QcI D A g out (fun (_ : Unit) => w_Mo g a0 s0 ++ (rest))) args s 0 0 A) (F0 m 52 ls []) := by
  have X1 := X
  obtain ⟨hx, hb, hml, hown, hts, hr, hlocks, hKK⟩ := X1
  have ht : ∀ w ∈ TB, w.before args s = true := fun w h => hts w (List.mem_cons_of_mem _ h)
  have hK := hKK.1
  unfold B_Mo_likes_52 at h
  refine lv_iload hx hb d_Mo_likes_52 (lv_at hl 4 rfl) ?_
  refine lv_iload hx hb d_Mo_likes_54 (lv_at hl 8 rfl) ?_
  refine lv_ishr hx hb d_Mo_likes_56 ?_
  refine lv_iconst (v := 1) hx hb d_Mo_likes_57 (by decide) ?_
  refine lv_iand hx hb d_Mo_likes_58 ?_
  refine lv_iconst (v := 1) hx hb d_Mo_likes_59 (by decide) ?_
  refine lv_icmp_eq (tgt := 88) hx hb d_Mo_likes_60 (by decide) (fun hc => ?_) (fun hc => ?_)
  · have h := it_t h hc
    exact t_Mo_likes_88 X hk13 hk46 (lv_sub hl [0, 1, 2, 3, 4, 5, 6, 7, 8] rfl) hI hS h
  · have h := it_f h hc
    exact t_Mo_likes_63 X hk13 hk46 (lv_sub hl [0, 1, 2, 3, 4, 5, 6, 7, 8] rfl) hI hS h
set_option maxRecDepth 100000 in
set_option maxHeartbeats 4000000 in
theorem t_Mo_likes_46 {p : Program} {l : Launch} {e : Env} {s : State} {m : MethodId} {args : Array Value} {below : List Frame} {meth : Method} {c : Code} {D : va_G} {A : Nat → Prop} {g : Nat → ClassId} {rest : va_W} {a0 : Nat → Nat} {ls : Array Slot} {H : Heap} {locs : List Loc} {k13 : Int32 × Int32 × Int32 × Int32 × Int32 → Option Int32} {k46 : Int32 × Int32 × Int32 × Int32 × Int32 × Int32 × Int32 × Int32 → Option Int32} {s0 : S_Mo} {x1 : Int32} {x2 : Int32} {x3 : Int32} {x4 : Int32} {x5 : Int32} {x6 : Int32} {x7 : Int32} {x8 : Int32} {out : Int32} (X : Cx p s m args meth c prog_11_method_54_code 10 ws_Mo_likes R_Mo (some .boolean) D g) (hk13 : ∀ (v : Int32 × Int32 × Int32 × Int32 × Int32) (ls : Array Slot) (H : Heap) (locs : List Loc), lv_has ls 10 [(0, .ref (a0 0)), (1, .int v.1), (2, .int v.2.1), (3, .int v.2.2.1), (4, .int v.2.2.2.1), (5, .int v.2.2.2.2)] → Iw D A (w_Mo g a0 s0 ++ (rest)) H → va_S A s.heap H locs → k13 v = some out → W p l e (headSpec ws_Mo_likes { frames := 0, cells := 0, slots := 0, locals := 0 }).room s m args below meth c H locs 0 0 (MQ below (QcI D A g out (fun (_ : Unit) => w_Mo g a0 s0 ++ (rest))) args s 0 0 A) (F0 m 13 ls [])) (hk46 : ∀ (v : Int32 × Int32 × Int32 × Int32 × Int32 × Int32 × Int32 × Int32) (ls : Array Slot) (H : Heap) (locs : List Loc), lv_has ls 10 [(0, .ref (a0 0)), (1, .int v.1), (2, .int v.2.1), (3, .int v.2.2.1), (4, .int v.2.2.2.1), (5, .int v.2.2.2.2.1), (6, .int v.2.2.2.2.2.1), (7, .int v.2.2.2.2.2.2.1), (8, .int v.2.2.2.2.2.2.2)] → Iw D A (w_Mo g a0 s0 ++ (rest)) H → va_S A s.heap H locs → k46 v = some out → W p l e (headSpec ws_Mo_likes { frames := 0, cells := 0, slots := 0, locals := 0 }).room s m args below meth c H locs 0 0 (MQ below (QcI D A g out (fun (_ : Unit) => w_Mo g a0 s0 ++ (rest))) args s 0 0 A) (F0 m 46 ls [])) (hl : lv_has ls 10 [(0, .ref (a0 0)), (1, .int x1), (2, .int x2), (3, .int x3), (4, .int x4), (5, .int x5), (6, .int x6), (7, .int x7), (8, .int x8)]) (hI : Iw D A (w_Mo g a0 s0 ++ (rest)) H) (hS : va_S A s.heap H locs) (h : B_Mo_likes_46 k13 k46 s0 x1 x2 x3 x4 x5 x6 x7 x8 = some out) : W p l e (headSpec ws_Mo_likes { frames := 0, cells := 0, slots := 0, locals := 0 }).room s m args below meth c H locs 0 0 (MQ below (QcI D A g out (fun (_ : Unit) => w_Mo g a0 s0 ++ (rest))) args s 0 0 A) (F0 m 46 ls []) := by
  have X1 := X
  obtain ⟨hx, hb, hml, hown, hts, hr, hlocks, hKK⟩ := X1
  have ht : ∀ w ∈ TB, w.before args s = true := fun w h => hts w (List.mem_cons_of_mem _ h)
  have hK := hKK.1
  unfold B_Mo_likes_46 at h
  refine lv_iload hx hb d_Mo_likes_46 (lv_at hl 8 rfl) ?_
  refine lv_iload_n hx hb d_Mo_likes_48 rfl (lv_at hl 3 rfl) ?_
  refine lv_icmp_gt (tgt := 175) hx hb d_Mo_likes_49 (by decide) (fun hc => ?_) (fun hc => ?_)
  · have h := it_t h hc
    exact t_Mo_likes_175 X hk13 (lv_sub hl [0, 1, 2, 3, 5, 7] rfl) hI hS h
  · have h := it_f h hc
    exact t_Mo_likes_52 X hk13 hk46 (lv_sub hl [0, 1, 2, 3, 4, 5, 6, 7, 8] rfl) hI hS h
set_option maxRecDepth 100000 in
set_option maxHeartbeats 4000000 in
theorem T_Mo_likes_46 {p : Program} {l : Launch} {e : Env} {s : State} {m : MethodId} {args : Array Value} {below : List Frame} {meth : Method} {c : Code} {D : va_G} {A : Nat → Prop} {g : Nat → ClassId} {rest : va_W} {a0 : Nat → Nat} {ls : Array Slot} {H : Heap} {locs : List Loc} {k13 : Int32 × Int32 × Int32 × Int32 × Int32 → Option Int32} {s0 : S_Mo} {x1 : Int32} {x2 : Int32} {x3 : Int32} {x4 : Int32} {x5 : Int32} {x6 : Int32} {x7 : Int32} {x8 : Int32} {out : Int32} (X : Cx p s m args meth c prog_11_method_54_code 10 ws_Mo_likes R_Mo (some .boolean) D g) (hk13 : ∀ (v : Int32 × Int32 × Int32 × Int32 × Int32) (ls : Array Slot) (H : Heap) (locs : List Loc), lv_has ls 10 [(0, .ref (a0 0)), (1, .int v.1), (2, .int v.2.1), (3, .int v.2.2.1), (4, .int v.2.2.2.1), (5, .int v.2.2.2.2)] → Iw D A (w_Mo g a0 s0 ++ (rest)) H → va_S A s.heap H locs → k13 v = some out → W p l e (headSpec ws_Mo_likes { frames := 0, cells := 0, slots := 0, locals := 0 }).room s m args below meth c H locs 0 0 (MQ below (QcI D A g out (fun (_ : Unit) => w_Mo g a0 s0 ++ (rest))) args s 0 0 A) (F0 m 13 ls [])) (hl : lv_has ls 10 [(0, .ref (a0 0)), (1, .int x1), (2, .int x2), (3, .int x3), (4, .int x4), (5, .int x5), (6, .int x6), (7, .int x7), (8, .int x8)]) (hI : Iw D A (w_Mo g a0 s0 ++ (rest)) H) (hS : va_S A s.heap H locs) (h : L_Mo_likes_46 k13 s0 (x1, x2, x3, x4, x5, x6, x7, x8) = some out) : W p l e (headSpec ws_Mo_likes { frames := 0, cells := 0, slots := 0, locals := 0 }).room s m args below meth c H locs 0 0 (MQ below (QcI D A g out (fun (_ : Unit) => w_Mo g a0 s0 ++ (rest))) args s 0 0 A) (F0 m 46 ls []) := by
  unfold L_Mo_likes_46 at h
  exact lp_ind (P := fun v => ∀ (ls : Array Slot) (H : Heap) (locs : List Loc), lv_has ls 10 [(0, .ref (a0 0)), (1, .int v.1), (2, .int v.2.1), (3, .int v.2.2.1), (4, .int v.2.2.2.1), (5, .int v.2.2.2.2.1), (6, .int v.2.2.2.2.2.1), (7, .int v.2.2.2.2.2.2.1), (8, .int v.2.2.2.2.2.2.2)] → Iw D A (w_Mo g a0 s0 ++ (rest)) H → va_S A s.heap H locs → W p l e (headSpec ws_Mo_likes { frames := 0, cells := 0, slots := 0, locals := 0 }).room s m args below meth c H locs 0 0 (MQ below (QcI D A g out (fun (_ : Unit) => w_Mo g a0 s0 ++ (rest))) args s 0 0 A) (F0 m 46 ls [])) (fun k v ih hb ls H locs  hl hI hS => t_Mo_likes_46 X hk13 (fun v' ls H locs  hl hI hS h' => ih v' h' ls H locs  hl hI hS) hl hI hS hb) FU _ h ls H locs  hl hI hS
set_option maxRecDepth 100000 in
set_option maxHeartbeats 4000000 in
theorem t_Mo_likes_24 {p : Program} {l : Launch} {e : Env} {s : State} {m : MethodId} {args : Array Value} {below : List Frame} {meth : Method} {c : Code} {D : va_G} {A : Nat → Prop} {g : Nat → ClassId} {rest : va_W} {a0 : Nat → Nat} {ls : Array Slot} {H : Heap} {locs : List Loc} {k13 : Int32 × Int32 × Int32 × Int32 × Int32 → Option Int32} {s0 : S_Mo} {x1 : Int32} {x2 : Int32} {x3 : Int32} {x4 : Int32} {x5 : Int32} {out : Int32} (X : Cx p s m args meth c prog_11_method_54_code 10 ws_Mo_likes R_Mo (some .boolean) D g) (hk13 : ∀ (v : Int32 × Int32 × Int32 × Int32 × Int32) (ls : Array Slot) (H : Heap) (locs : List Loc), lv_has ls 10 [(0, .ref (a0 0)), (1, .int v.1), (2, .int v.2.1), (3, .int v.2.2.1), (4, .int v.2.2.2.1), (5, .int v.2.2.2.2)] → Iw D A (w_Mo g a0 s0 ++ (rest)) H → va_S A s.heap H locs → k13 v = some out → W p l e (headSpec ws_Mo_likes { frames := 0, cells := 0, slots := 0, locals := 0 }).room s m args below meth c H locs 0 0 (MQ below (QcI D A g out (fun (_ : Unit) => w_Mo g a0 s0 ++ (rest))) args s 0 0 A) (F0 m 13 ls [])) (hl : lv_has ls 10 [(0, .ref (a0 0)), (1, .int x1), (2, .int x2), (3, .int x3), (4, .int x4), (5, .int x5)]) (hI : Iw D A (w_Mo g a0 s0 ++ (rest)) H) (hS : va_S A s.heap H locs) (h : B_Mo_likes_24 k13 s0 x1 x2 x3 x4 x5 = some out) : W p l e (headSpec ws_Mo_likes { frames := 0, cells := 0, slots := 0, locals := 0 }).room s m args below meth c H locs 0 0 (MQ below (QcI D A g out (fun (_ : Unit) => w_Mo g a0 s0 ++ (rest))) args s 0 0 A) (F0 m 24 ls []) := by
  have X1 := X
  obtain ⟨hx, hb, hml, hown, hts, hr, hlocks, hKK⟩ := X1
  have ht : ∀ w ∈ TB, w.before args s = true := fun w h => hts w (List.mem_cons_of_mem _ h)
  have hK := hKK.1
  unfold B_Mo_likes_24 at h
  refine lv_aload_n hx hb d_Mo_likes_24 rfl (lv_at hl 0 rfl) ?_
  refine gt_Mo_chars hx hb ht hown hK hI (ht _ m_834) d_Mo_likes_25 ?_
  refine lv_aload_n hx hb d_Mo_likes_28 rfl (lv_at hl 0 rfl) ?_
  refine gt_Mo_letters hx hb ht hown hK hI (ht _ m_826) d_Mo_likes_29 ?_
  refine lv_iload_n hx hb d_Mo_likes_32 rfl (lv_at hl 1 rfl) ?_
  by_cases hc1 : (x1 < 0 ∨ 260 ≤ x1.toNatClampNeg)
  · exact no_s (it_t h hc1)
  have h := it_f h hc1
  refine al_Mo_letters hx hb hK hI hc1 d_Mo_likes_33 ?_
  refine lv_iload hx hb d_Mo_likes_34 (lv_at hl 5 rfl) ?_
  refine lv_iadd hx hb d_Mo_likes_36 ?_
  by_cases hc2 : ((((Mo_letters s0) x1.toNatClampNeg) + x5) < 0 ∨ 480 ≤ (((Mo_letters s0) x1.toNatClampNeg) + x5).toNatClampNeg)
  · exact no_s (it_t h hc2)
  have h := it_f h hc2
  refine al_Mo_chars hx hb hK hI hc2 d_Mo_likes_37 ?_
  refine lv_istore hx hb d_Mo_likes_38 hl (Nat.le_of_ble_eq_true rfl) rfl (fun ls hl => ?_)
  have hl : lv_has ls 10 [(6, .int ((Mo_chars s0) (((Mo_letters s0) x1.toNatClampNeg) + x5).toNatClampNeg)), (0, .ref (a0 0)), (1, .int x1), (2, .int x2), (3, .int x3), (4, .int x4), (5, .int x5)] := hl
  refine lv_iconst (v := 0) hx hb d_Mo_likes_40 (by decide) ?_
  refine lv_istore hx hb d_Mo_likes_41 hl (Nat.le_of_ble_eq_true rfl) rfl (fun ls hl => ?_)
  have hl : lv_has ls 10 [(7, .int (0 : Int32)), (6, .int ((Mo_chars s0) (((Mo_letters s0) x1.toNatClampNeg) + x5).toNatClampNeg)), (0, .ref (a0 0)), (1, .int x1), (2, .int x2), (3, .int x3), (4, .int x4), (5, .int x5)] := hl
  refine lv_iconst (v := 0) hx hb d_Mo_likes_43 (by decide) ?_
  refine lv_istore hx hb d_Mo_likes_44 hl (Nat.le_of_ble_eq_true rfl) rfl (fun ls hl => ?_)
  have hl : lv_has ls 10 [(8, .int (0 : Int32)), (7, .int (0 : Int32)), (6, .int ((Mo_chars s0) (((Mo_letters s0) x1.toNatClampNeg) + x5).toNatClampNeg)), (0, .ref (a0 0)), (1, .int x1), (2, .int x2), (3, .int x3), (4, .int x4), (5, .int x5)] := hl
  exact T_Mo_likes_46 X hk13 (lv_sub hl [3, 4, 5, 6, 7, 8, 2, 1, 0] rfl) hI hS h
set_option maxRecDepth 100000 in
set_option maxHeartbeats 4000000 in
theorem t_Mo_likes_13 {p : Program} {l : Launch} {e : Env} {s : State} {m : MethodId} {args : Array Value} {below : List Frame} {meth : Method} {c : Code} {D : va_G} {A : Nat → Prop} {g : Nat → ClassId} {rest : va_W} {a0 : Nat → Nat} {ls : Array Slot} {H : Heap} {locs : List Loc} {k13 : Int32 × Int32 × Int32 × Int32 × Int32 → Option Int32} {s0 : S_Mo} {x1 : Int32} {x2 : Int32} {x3 : Int32} {x4 : Int32} {x5 : Int32} {out : Int32} (X : Cx p s m args meth c prog_11_method_54_code 10 ws_Mo_likes R_Mo (some .boolean) D g) (hk13 : ∀ (v : Int32 × Int32 × Int32 × Int32 × Int32) (ls : Array Slot) (H : Heap) (locs : List Loc), lv_has ls 10 [(0, .ref (a0 0)), (1, .int v.1), (2, .int v.2.1), (3, .int v.2.2.1), (4, .int v.2.2.2.1), (5, .int v.2.2.2.2)] → Iw D A (w_Mo g a0 s0 ++ (rest)) H → va_S A s.heap H locs → k13 v = some out → W p l e (headSpec ws_Mo_likes { frames := 0, cells := 0, slots := 0, locals := 0 }).room s m args below meth c H locs 0 0 (MQ below (QcI D A g out (fun (_ : Unit) => w_Mo g a0 s0 ++ (rest))) args s 0 0 A) (F0 m 13 ls [])) (hl : lv_has ls 10 [(0, .ref (a0 0)), (1, .int x1), (2, .int x2), (3, .int x3), (4, .int x4), (5, .int x5)]) (hI : Iw D A (w_Mo g a0 s0 ++ (rest)) H) (hS : va_S A s.heap H locs) (h : B_Mo_likes_13 k13 s0 x1 x2 x3 x4 x5 = some out) : W p l e (headSpec ws_Mo_likes { frames := 0, cells := 0, slots := 0, locals := 0 }).room s m args below meth c H locs 0 0 (MQ below (QcI D A g out (fun (_ : Unit) => w_Mo g a0 s0 ++ (rest))) args s 0 0 A) (F0 m 13 ls []) := by
  have X1 := X
  obtain ⟨hx, hb, hml, hown, hts, hr, hlocks, hKK⟩ := X1
  have ht : ∀ w ∈ TB, w.before args s = true := fun w h => hts w (List.mem_cons_of_mem _ h)
  have hK := hKK.1
  unfold B_Mo_likes_13 at h
  refine lv_iload hx hb d_Mo_likes_13 (lv_at hl 5 rfl) ?_
  refine lv_aload_n hx hb d_Mo_likes_15 rfl (lv_at hl 0 rfl) ?_
  refine gt_Mo_value hx hb ht hown hK hI (ht _ m_825) d_Mo_likes_16 ?_
  refine lv_iload_n hx hb d_Mo_likes_19 rfl (lv_at hl 1 rfl) ?_
  by_cases hc1 : (x1 < 0 ∨ 260 ≤ x1.toNatClampNeg)
  · exact no_s (it_t h hc1)
  have h := it_f h hc1
  refine al_Mo_value hx hb hK hI hc1 d_Mo_likes_20 ?_
  refine lv_icmp_ge (tgt := 185) hx hb d_Mo_likes_21 (by decide) (fun hc => ?_) (fun hc => ?_)
  · have h := it_t h hc
    exact t_Mo_likes_185 X (lv_sub hl [3, 4] rfl) hI hS h
  · have h := it_f h hc
    exact t_Mo_likes_24 X hk13 (lv_sub hl [0, 1, 2, 3, 4, 5] rfl) hI hS h
set_option maxRecDepth 100000 in
set_option maxHeartbeats 4000000 in
theorem T_Mo_likes_13 {p : Program} {l : Launch} {e : Env} {s : State} {m : MethodId} {args : Array Value} {below : List Frame} {meth : Method} {c : Code} {D : va_G} {A : Nat → Prop} {g : Nat → ClassId} {rest : va_W} {a0 : Nat → Nat} {ls : Array Slot} {H : Heap} {locs : List Loc} {s0 : S_Mo} {x1 : Int32} {x2 : Int32} {x3 : Int32} {x4 : Int32} {x5 : Int32} {out : Int32} (X : Cx p s m args meth c prog_11_method_54_code 10 ws_Mo_likes R_Mo (some .boolean) D g) (hl : lv_has ls 10 [(0, .ref (a0 0)), (1, .int x1), (2, .int x2), (3, .int x3), (4, .int x4), (5, .int x5)]) (hI : Iw D A (w_Mo g a0 s0 ++ (rest)) H) (hS : va_S A s.heap H locs) (h : L_Mo_likes_13  s0 (x1, x2, x3, x4, x5) = some out) : W p l e (headSpec ws_Mo_likes { frames := 0, cells := 0, slots := 0, locals := 0 }).room s m args below meth c H locs 0 0 (MQ below (QcI D A g out (fun (_ : Unit) => w_Mo g a0 s0 ++ (rest))) args s 0 0 A) (F0 m 13 ls []) := by
  unfold L_Mo_likes_13 at h
  exact lp_ind (P := fun v => ∀ (ls : Array Slot) (H : Heap) (locs : List Loc), lv_has ls 10 [(0, .ref (a0 0)), (1, .int v.1), (2, .int v.2.1), (3, .int v.2.2.1), (4, .int v.2.2.2.1), (5, .int v.2.2.2.2)] → Iw D A (w_Mo g a0 s0 ++ (rest)) H → va_S A s.heap H locs → W p l e (headSpec ws_Mo_likes { frames := 0, cells := 0, slots := 0, locals := 0 }).room s m args below meth c H locs 0 0 (MQ below (QcI D A g out (fun (_ : Unit) => w_Mo g a0 s0 ++ (rest))) args s 0 0 A) (F0 m 13 ls [])) (fun k v ih hb ls H locs  hl hI hS => t_Mo_likes_13 X  (fun v' ls H locs  hl hI hS h' => ih v' h' ls H locs  hl hI hS) hl hI hS hb) FU _ h ls H locs  hl hI hS
set_option maxRecDepth 100000 in
set_option maxHeartbeats 4000000 in
theorem t_Mo_likes_0 {p : Program} {l : Launch} {e : Env} {s : State} {m : MethodId} {args : Array Value} {below : List Frame} {meth : Method} {c : Code} {D : va_G} {A : Nat → Prop} {g : Nat → ClassId} {rest : va_W} {a0 : Nat → Nat} {ls : Array Slot} {H : Heap} {locs : List Loc} {s0 : S_Mo} {x1 : Int32} {x2 : Int32} {out : Int32} (X : Cx p s m args meth c prog_11_method_54_code 10 ws_Mo_likes R_Mo (some .boolean) D g) (hl : lv_has ls 10 [(0, .ref (a0 0)), (1, .int x1), (2, .int x2)]) (hI : Iw D A (w_Mo g a0 s0 ++ (rest)) H) (hS : va_S A s.heap H locs) (h : B_Mo_likes_0  s0 x1 x2 = some out) : W p l e (headSpec ws_Mo_likes { frames := 0, cells := 0, slots := 0, locals := 0 }).room s m args below meth c H locs 0 0 (MQ below (QcI D A g out (fun (_ : Unit) => w_Mo g a0 s0 ++ (rest))) args s 0 0 A) (F0 m 0 ls []) := by
  have X1 := X
  obtain ⟨hx, hb, hml, hown, hts, hr, hlocks, hKK⟩ := X1
  have ht : ∀ w ∈ TB, w.before args s = true := fun w h => hts w (List.mem_cons_of_mem _ h)
  have hK := hKK.1
  unfold B_Mo_likes_0 at h
  refine lv_aload_n hx hb d_Mo_likes_0 rfl (lv_at hl 0 rfl) ?_
  refine gt_Mo_value hx hb ht hown hK hI (ht _ m_825) d_Mo_likes_1 ?_
  refine lv_iload_n hx hb d_Mo_likes_4 rfl (lv_at hl 2 rfl) ?_
  by_cases hc1 : (x2 < 0 ∨ 260 ≤ x2.toNatClampNeg)
  · exact no_s (it_t h hc1)
  have h := it_f h hc1
  refine al_Mo_value hx hb hK hI hc1 d_Mo_likes_5 ?_
  refine lv_istore_n hx hb d_Mo_likes_6 rfl hl (Nat.le_of_ble_eq_true rfl) rfl (fun ls hl => ?_)
  have hl : lv_has ls 10 [(3, .int ((Mo_value s0) x2.toNatClampNeg)), (0, .ref (a0 0)), (1, .int x1), (2, .int x2)] := hl
  refine lv_iconst (v := 1) hx hb d_Mo_likes_7 (by decide) ?_
  refine lv_istore hx hb d_Mo_likes_8 hl (Nat.le_of_ble_eq_true rfl) rfl (fun ls hl => ?_)
  have hl : lv_has ls 10 [(4, .int (1 : Int32)), (3, .int ((Mo_value s0) x2.toNatClampNeg)), (0, .ref (a0 0)), (1, .int x1), (2, .int x2)] := hl
  refine lv_iconst (v := 0) hx hb d_Mo_likes_10 (by decide) ?_
  refine lv_istore hx hb d_Mo_likes_11 hl (Nat.le_of_ble_eq_true rfl) rfl (fun ls hl => ?_)
  have hl : lv_has ls 10 [(5, .int (0 : Int32)), (4, .int (1 : Int32)), (3, .int ((Mo_value s0) x2.toNatClampNeg)), (0, .ref (a0 0)), (1, .int x1), (2, .int x2)] := hl
  exact T_Mo_likes_13 X (lv_sub hl [3, 4, 5, 2, 1, 0] rfl) hI hS h
set_option maxRecDepth 100000 in
set_option maxHeartbeats 4000000 in
theorem c_Mo_likes {l : Launch} {D : va_G} {A : Nat → Prop} {g : Nat → ClassId} {rest : va_W} {a0 : Nat → Nat} {s0 : S_Mo} {x1 : Int32} {x2 : Int32} {out : Int32} (h : F_Mo_likes s0 x1 x2 = some out) : Met l y_Mo_likes ws_Mo_likes { frames := 0, cells := 0, slots := 0, locals := 0 } (PcW D A g [.ref (a0 0), .int x1, .int x2] (w_Mo g a0 s0 ++ (rest))) (QcI D A g out (fun (_ : Unit) => w_Mo g a0 s0 ++ (rest))) 0 0 A := by
  refine Met.ofW (cc := prog_11_method_54_code) (maxL := 10) (ret := (some .boolean)) (by decide) rfl ?_
  intro p e s m args below meth c s₁ B hml hv
  obtain ⟨rfl, hI, hK⟩ := hv
  have hl := lv_entry [.ref (a0 0), .int x1, .int x2] (n := 10) (Nat.le_of_ble_eq_true rfl)
  rw [lg_entry_eq]
  generalize (lg_sl [.ref (a0 0), .int x1, .int x2] ++ List.replicate (10 - (lg_sl [.ref (a0 0), .int x1, .int x2]).length) Slot.unset).toArray = ls at hl ⊢
  have hl : lv_has ls 10 [(0, .ref (a0 0)), (1, .int x1), (2, .int x2)] := hl
  exact t_Mo_likes_0 ⟨B.exec, B.bytes, hml, findClass_of_methodNamed B.named, atoms_spec (ws := ws_Mo_likes) B.pre, B.returns, B.notSynchronized, hK⟩ (lv_sub hl [0, 1, 2] rfl) hI va_S.rf h
def ws_Mo_fitsElement : List Cond := .code y_Mo_fitsElement prog_11_method_53_code 5 (some .boolean) :: TB
def B_Mo_fitsElement_137 (s0 : S_Mo) (x3 : Int32) : Option Int32 :=
  (if x3 = 0 ∨ x3 = 1 then some x3 else none)
def B_Mo_fitsElement_97 (k88 : Int32 × Int32 × Int32 → Option Int32) (s0 : S_Mo) (x1 : Int32) (x4 : Int32) : Option Int32 :=
  (if (x1 < 0 ∨ 260 ≤ x1.toNatClampNeg) then none else (if (((Mo_first s0) x1.toNatClampNeg) < 0 ∨ 260 ≤ ((Mo_first s0) x1.toNatClampNeg).toNatClampNeg) then none else (if (x4 < 0 ∨ 260 ≤ x4.toNatClampNeg) then none else (if ((((90 : Int32) * ((Mo_number s0) ((Mo_first s0) x1.toNatClampNeg).toNatClampNeg)) + ((Mo_number s0) x4.toNatClampNeg)) < 0 ∨ 8100 ≤ (((90 : Int32) * ((Mo_number s0) ((Mo_first s0) x1.toNatClampNeg).toNatClampNeg)) + ((Mo_number s0) x4.toNatClampNeg)).toNatClampNeg) then none else (if (x4 < 0 ∨ 260 ≤ x4.toNatClampNeg) then none else (k88 (x1, ((Mo_fits s0) (((90 : Int32) * ((Mo_number s0) ((Mo_first s0) x1.toNatClampNeg).toNatClampNeg)) + ((Mo_number s0) x4.toNatClampNeg)).toNatClampNeg), ((Mo_next s0) x4.toNatClampNeg))))))))
def B_Mo_fitsElement_93 (k88 : Int32 × Int32 × Int32 → Option Int32) (s0 : S_Mo) (x1 : Int32) (x3 : Int32) (x4 : Int32) : Option Int32 :=
  (if x3 = 0 then (B_Mo_fitsElement_97 k88 s0 x1 x4) else (B_Mo_fitsElement_137 s0 x3))
def B_Mo_fitsElement_88 (k88 : Int32 × Int32 × Int32 → Option Int32) (s0 : S_Mo) (x1 : Int32) (x3 : Int32) (x4 : Int32) : Option Int32 :=
  (if x4 < 0 then (B_Mo_fitsElement_137 s0 x3) else (B_Mo_fitsElement_93 k88 s0 x1 x3 x4))
def L_Mo_fitsElement_88 (s0 : S_Mo) (v : Int32 × Int32 × Int32) : Option Int32 := lp (fun k88 v => B_Mo_fitsElement_88  k88 s0 v.1 v.2.1 v.2.2) FU v
def B_Mo_fitsElement_79 (s0 : S_Mo) (x1 : Int32) (x2 : Int32) (y0 : Int32) : Option Int32 :=
  (if (x2 < 0 ∨ 260 ≤ x2.toNatClampNeg) then none else (L_Mo_fitsElement_88 s0 (x1, y0, ((Mo_first s0) x2.toNatClampNeg))))
def B_Mo_fitsElement_78 (s0 : S_Mo) (x1 : Int32) (x2 : Int32) : Option Int32 :=
  (B_Mo_fitsElement_79 s0 x1 x2 (0 : Int32))
def B_Mo_fitsElement_74 (s0 : S_Mo) (x1 : Int32) (x2 : Int32) : Option Int32 :=
  (B_Mo_fitsElement_79 s0 x1 x2 (1 : Int32))
def B_Mo_fitsElement_65 (s0 : S_Mo) (x1 : Int32) (x2 : Int32) : Option Int32 :=
  (if (x1 < 0 ∨ 260 ≤ x1.toNatClampNeg) then none else (if ((Mo_many s0) x1.toNatClampNeg) = 0 then (B_Mo_fitsElement_74 s0 x1 x2) else (B_Mo_fitsElement_78 s0 x1 x2)))
def B_Mo_fitsElement_64 (s0 : S_Mo) (y0 : Int32) : Option Int32 :=
  (if y0 = 0 ∨ y0 = 1 then some y0 else none)
def B_Mo_fitsElement_59 (s0 : S_Mo) : Option Int32 :=
  (B_Mo_fitsElement_64 s0 (1 : Int32))
def B_Mo_fitsElement_63 (s0 : S_Mo) : Option Int32 :=
  (B_Mo_fitsElement_64 s0 (0 : Int32))
def B_Mo_fitsElement_50 (s0 : S_Mo) (x1 : Int32) (x2 : Int32) : Option Int32 :=
  ((F_Mo_likes s0 x1 x2).bind fun o1 => (if o1 = 0 then (B_Mo_fitsElement_63 s0) else (B_Mo_fitsElement_59 s0)))
def B_Mo_fitsElement_41 (s0 : S_Mo) (x1 : Int32) (x2 : Int32) : Option Int32 :=
  (if (x1 < 0 ∨ 260 ≤ x1.toNatClampNeg) then none else (if ((Mo_value s0) x1.toNatClampNeg) = 0 then (B_Mo_fitsElement_59 s0) else (B_Mo_fitsElement_50 s0 x1 x2)))
def B_Mo_fitsElement_31 (s0 : S_Mo) (x1 : Int32) (x2 : Int32) : Option Int32 :=
  (if (x1 < 0 ∨ 260 ≤ x1.toNatClampNeg) then none else (if ((Mo_kind s0) x1.toNatClampNeg) = (2 : Int32) then (B_Mo_fitsElement_41 s0 x1 x2) else (B_Mo_fitsElement_65 s0 x1 x2)))
def B_Mo_fitsElement_30 (s0 : S_Mo) (y0 : Int32) : Option Int32 :=
  (if y0 = 0 ∨ y0 = 1 then some y0 else none)
def B_Mo_fitsElement_29 (s0 : S_Mo) : Option Int32 :=
  (B_Mo_fitsElement_30 s0 (0 : Int32))
def B_Mo_fitsElement_25 (s0 : S_Mo) : Option Int32 :=
  (B_Mo_fitsElement_30 s0 (1 : Int32))
def B_Mo_fitsElement_10 (s0 : S_Mo) (x1 : Int32) (x2 : Int32) : Option Int32 :=
  (if (x1 < 0 ∨ 260 ≤ x1.toNatClampNeg) then none else (if (x2 < 0 ∨ 260 ≤ x2.toNatClampNeg) then none else (if ((Mo_value s0) x1.toNatClampNeg) = ((Mo_value s0) x2.toNatClampNeg) then (B_Mo_fitsElement_25 s0) else (B_Mo_fitsElement_29 s0))))
def B_Mo_fitsElement_0 (s0 : S_Mo) (x1 : Int32) (x2 : Int32) : Option Int32 :=
  (if (x1 < 0 ∨ 260 ≤ x1.toNatClampNeg) then none else (if ((Mo_kind s0) x1.toNatClampNeg) = (1 : Int32) then (B_Mo_fitsElement_10 s0 x1 x2) else (B_Mo_fitsElement_31 s0 x1 x2)))
def F_Mo_fitsElement (s0 : S_Mo) (x1 : Int32) (x2 : Int32) : Option Int32 := B_Mo_fitsElement_0 s0 x1 x2
set_option maxRecDepth 100000 in
set_option maxHeartbeats 4000000 in
theorem t_Mo_fitsElement_137 {p : Program} {l : Launch} {e : Env} {s : State} {m : MethodId} {args : Array Value} {below : List Frame} {meth : Method} {c : Code} {D : va_G} {A : Nat → Prop} {g : Nat → ClassId} {rest : va_W} {a0 : Nat → Nat} {ls : Array Slot} {H : Heap} {locs : List Loc} {s0 : S_Mo} {x3 : Int32} {out : Int32} (X : Cx p s m args meth c prog_11_method_53_code 5 ws_Mo_fitsElement R_Mo (some .boolean) D g) (hl : lv_has ls 5 [(3, .int x3)]) (hI : Iw D A (w_Mo g a0 s0 ++ (rest)) H) (hS : va_S A s.heap H locs) (h : B_Mo_fitsElement_137  s0 x3 = some out) : W p l e (headSpec ws_Mo_fitsElement { frames := 1, cells := 0, slots := 0, locals := 29 }).room s m args below meth c H locs 0 0 (MQ below (QcI D A g out (fun (_ : Unit) => w_Mo g a0 s0 ++ (rest))) args s 0 0 A) (F0 m 137 ls []) := by
  have X1 := X
  obtain ⟨hx, hb, hml, hown, hts, hr, hlocks, hKK⟩ := X1
  have ht : ∀ w ∈ TB, w.before args s = true := fun w h => hts w (List.mem_cons_of_mem _ h)
  have hK := hKK.1
  unfold B_Mo_fitsElement_137 at h
  refine lv_iload_n hx hb d_Mo_fitsElement_137 rfl (lv_at hl 0 rfl) ?_
  have hc1 : x3 = 0 ∨ x3 = 1 := by
    by_cases z : x3 = 0 ∨ x3 = 1
    · exact z
    · exact no_s (it_f h z)
  have h := it_t h hc1
  have h9 := Option.some.inj h
  subst h9
  exact W.zret (v := x3) hx hb hr (by rcases hc1 with z | z <;> rw [z] <;> rfl) (fun t ht hW => ⟨⟨_, (), rfl, rfl, ⟨by rw [ht]; exact hI, hKK.moved hW⟩⟩, hS.F ht⟩) hS.2.2 d_Mo_fitsElement_138
set_option maxRecDepth 100000 in
set_option maxHeartbeats 4000000 in
theorem t_Mo_fitsElement_97 {p : Program} {l : Launch} {e : Env} {s : State} {m : MethodId} {args : Array Value} {below : List Frame} {meth : Method} {c : Code} {D : va_G} {A : Nat → Prop} {g : Nat → ClassId} {rest : va_W} {a0 : Nat → Nat} {ls : Array Slot} {H : Heap} {locs : List Loc} {k88 : Int32 × Int32 × Int32 → Option Int32} {s0 : S_Mo} {x1 : Int32} {x4 : Int32} {out : Int32} (X : Cx p s m args meth c prog_11_method_53_code 5 ws_Mo_fitsElement R_Mo (some .boolean) D g) (hk88 : ∀ (v : Int32 × Int32 × Int32) (ls : Array Slot) (H : Heap) (locs : List Loc), lv_has ls 5 [(0, .ref (a0 0)), (1, .int v.1), (3, .int v.2.1), (4, .int v.2.2)] → Iw D A (w_Mo g a0 s0 ++ (rest)) H → va_S A s.heap H locs → k88 v = some out → W p l e (headSpec ws_Mo_fitsElement { frames := 1, cells := 0, slots := 0, locals := 29 }).room s m args below meth c H locs 0 0 (MQ below (QcI D A g out (fun (_ : Unit) => w_Mo g a0 s0 ++ (rest))) args s 0 0 A) (F0 m 88 ls [])) (hl : lv_has ls 5 [(0, .ref (a0 0)), (1, .int x1), (4, .int x4)]) (hI : Iw D A (w_Mo g a0 s0 ++ (rest)) H) (hS : va_S A s.heap H locs) (h : B_Mo_fitsElement_97 k88 s0 x1 x4 = some out) : W p l e (headSpec ws_Mo_fitsElement { frames := 1, cells := 0, slots := 0, locals := 29 }).room s m args below meth c H locs 0 0 (MQ below (QcI D A g out (fun (_ : Unit) => w_Mo g a0 s0 ++ (rest))) args s 0 0 A) (F0 m 97 ls []) := by
  have X1 := X
  obtain ⟨hx, hb, hml, hown, hts, hr, hlocks, hKK⟩ := X1
  have ht : ∀ w ∈ TB, w.before args s = true := fun w h => hts w (List.mem_cons_of_mem _ h)
  have hK := hKK.1
  unfold B_Mo_fitsElement_97 at h
  refine lv_aload_n hx hb d_Mo_fitsElement_97 rfl (lv_at hl 0 rfl) ?_
  refine gt_Mo_fits hx hb ht hown hK hI (ht _ m_836) d_Mo_fitsElement_98 ?_
  refine lv_bipush (v := 90) hx hb d_Mo_fitsElement_101 (by decide) ?_
  refine lv_aload_n hx hb d_Mo_fitsElement_103 rfl (lv_at hl 0 rfl) ?_
  refine gt_Mo_number hx hb ht hown hK hI (ht _ m_833) d_Mo_fitsElement_104 ?_
  refine lv_aload_n hx hb d_Mo_fitsElement_107 rfl (lv_at hl 0 rfl) ?_
  refine gt_Mo_first hx hb ht hown hK hI (ht _ m_828) d_Mo_fitsElement_108 ?_
  refine lv_iload_n hx hb d_Mo_fitsElement_111 rfl (lv_at hl 1 rfl) ?_
  by_cases hc1 : (x1 < 0 ∨ 260 ≤ x1.toNatClampNeg)
  · exact no_s (it_t h hc1)
  have h := it_f h hc1
  refine al_Mo_first hx hb hK hI hc1 d_Mo_fitsElement_112 ?_
  by_cases hc2 : (((Mo_first s0) x1.toNatClampNeg) < 0 ∨ 260 ≤ ((Mo_first s0) x1.toNatClampNeg).toNatClampNeg)
  · exact no_s (it_t h hc2)
  have h := it_f h hc2
  refine al_Mo_number hx hb hK hI hc2 d_Mo_fitsElement_113 ?_
  refine lv_imul hx hb d_Mo_fitsElement_114 ?_
  refine lv_aload_n hx hb d_Mo_fitsElement_115 rfl (lv_at hl 0 rfl) ?_
  refine gt_Mo_number hx hb ht hown hK hI (ht _ m_833) d_Mo_fitsElement_116 ?_
  refine lv_iload hx hb d_Mo_fitsElement_119 (lv_at hl 2 rfl) ?_
  by_cases hc3 : (x4 < 0 ∨ 260 ≤ x4.toNatClampNeg)
  · exact no_s (it_t h hc3)
  have h := it_f h hc3
  refine al_Mo_number hx hb hK hI hc3 d_Mo_fitsElement_121 ?_
  refine lv_iadd hx hb d_Mo_fitsElement_122 ?_
  by_cases hc4 : ((((90 : Int32) * ((Mo_number s0) ((Mo_first s0) x1.toNatClampNeg).toNatClampNeg)) + ((Mo_number s0) x4.toNatClampNeg)) < 0 ∨ 8100 ≤ (((90 : Int32) * ((Mo_number s0) ((Mo_first s0) x1.toNatClampNeg).toNatClampNeg)) + ((Mo_number s0) x4.toNatClampNeg)).toNatClampNeg)
  · exact no_s (it_t h hc4)
  have h := it_f h hc4
  refine al_Mo_fits hx hb hK hI hc4 d_Mo_fitsElement_123 ?_
  refine lv_istore_n hx hb d_Mo_fitsElement_124 rfl hl (Nat.le_of_ble_eq_true rfl) rfl (fun ls hl => ?_)
  have hl : lv_has ls 5 [(3, .int ((Mo_fits s0) (((90 : Int32) * ((Mo_number s0) ((Mo_first s0) x1.toNatClampNeg).toNatClampNeg)) + ((Mo_number s0) x4.toNatClampNeg)).toNatClampNeg)), (0, .ref (a0 0)), (1, .int x1), (4, .int x4)] := hl
  refine lv_aload_n hx hb d_Mo_fitsElement_125 rfl (lv_at hl 1 rfl) ?_
  refine gt_Mo_next hx hb ht hown hK hI (ht _ m_829) d_Mo_fitsElement_126 ?_
  refine lv_iload hx hb d_Mo_fitsElement_129 (lv_at hl 3 rfl) ?_
  by_cases hc5 : (x4 < 0 ∨ 260 ≤ x4.toNatClampNeg)
  · exact no_s (it_t h hc5)
  have h := it_f h hc5
  refine al_Mo_next hx hb hK hI hc5 d_Mo_fitsElement_131 ?_
  refine lv_istore hx hb d_Mo_fitsElement_132 hl (Nat.le_of_ble_eq_true rfl) rfl (fun ls hl => ?_)
  have hl : lv_has ls 5 [(4, .int ((Mo_next s0) x4.toNatClampNeg)), (3, .int ((Mo_fits s0) (((90 : Int32) * ((Mo_number s0) ((Mo_first s0) x1.toNatClampNeg).toNatClampNeg)) + ((Mo_number s0) x4.toNatClampNeg)).toNatClampNeg)), (0, .ref (a0 0)), (1, .int x1)] := hl
  refine lv_goto (tgt := 88) hx hb d_Mo_fitsElement_134 (by decide) ?_
  exact hk88 (x1, ((Mo_fits s0) (((90 : Int32) * ((Mo_number s0) ((Mo_first s0) x1.toNatClampNeg).toNatClampNeg)) + ((Mo_number s0) x4.toNatClampNeg)).toNatClampNeg), ((Mo_next s0) x4.toNatClampNeg)) _ _ _ (lv_sub hl [2, 3, 1, 0] rfl) hI hS h
set_option maxRecDepth 100000 in
set_option maxHeartbeats 4000000 in
theorem t_Mo_fitsElement_93 {p : Program} {l : Launch} {e : Env} {s : State} {m : MethodId} {args : Array Value} {below : List Frame} {meth : Method} {c : Code} {D : va_G} {A : Nat → Prop} {g : Nat → ClassId} {rest : va_W} {a0 : Nat → Nat} {ls : Array Slot} {H : Heap} {locs : List Loc} {k88 : Int32 × Int32 × Int32 → Option Int32} {s0 : S_Mo} {x1 : Int32} {x3 : Int32} {x4 : Int32} {out : Int32} (X : Cx p s m args meth c prog_11_method_53_code 5 ws_Mo_fitsElement R_Mo (some .boolean) D g) (hk88 : ∀ (v : Int32 × Int32 × Int32) (ls : Array Slot) (H : Heap) (locs : List Loc), lv_has ls 5 [(0, .ref (a0 0)), (1, .int v.1), (3, .int v.2.1), (4, .int v.2.2)] → Iw D A (w_Mo g a0 s0 ++ (rest)) H → va_S A s.heap H locs → k88 v = some out → W p l e (headSpec ws_Mo_fitsElement { frames := 1, cells := 0, slots := 0, locals := 29 }).room s m args below meth c H locs 0 0 (MQ below (QcI D A g out (fun (_ : Unit) => w_Mo g a0 s0 ++ (rest))) args s 0 0 A) (F0 m 88 ls [])) (hl : lv_has ls 5 [(0, .ref (a0 0)), (1, .int x1), (3, .int x3), (4, .int x4)]) (hI : Iw D A (w_Mo g a0 s0 ++ (rest)) H) (hS : va_S A s.heap H locs) (h : B_Mo_fitsElement_93 k88 s0 x1 x3 x4 = some out) : W p l e (headSpec ws_Mo_fitsElement { frames := 1, cells := 0, slots := 0, locals := 29 }).room s m args below meth c H locs 0 0 (MQ below (QcI D A g out (fun (_ : Unit) => w_Mo g a0 s0 ++ (rest))) args s 0 0 A) (F0 m 93 ls []) := by
  have X1 := X
  obtain ⟨hx, hb, hml, hown, hts, hr, hlocks, hKK⟩ := X1
  have ht : ∀ w ∈ TB, w.before args s = true := fun w h => hts w (List.mem_cons_of_mem _ h)
  have hK := hKK.1
  unfold B_Mo_fitsElement_93 at h
  refine lv_iload_n hx hb d_Mo_fitsElement_93 rfl (lv_at hl 2 rfl) ?_
  refine lv_if_ne (tgt := 137) hx hb d_Mo_fitsElement_94 (by decide) (fun hc => ?_) (fun hc => ?_)
  · have h := it_f h hc
    exact t_Mo_fitsElement_137 X (lv_sub hl [2] rfl) hI hS h
  · have h := it_t h hc
    exact t_Mo_fitsElement_97 X hk88 (lv_sub hl [0, 1, 3] rfl) hI hS h
set_option maxRecDepth 100000 in
set_option maxHeartbeats 4000000 in
theorem t_Mo_fitsElement_88 {p : Program} {l : Launch} {e : Env} {s : State} {m : MethodId} {args : Array Value} {below : List Frame} {meth : Method} {c : Code} {D : va_G} {A : Nat → Prop} {g : Nat → ClassId} {rest : va_W} {a0 : Nat → Nat} {ls : Array Slot} {H : Heap} {locs : List Loc} {k88 : Int32 × Int32 × Int32 → Option Int32} {s0 : S_Mo} {x1 : Int32} {x3 : Int32} {x4 : Int32} {out : Int32} (X : Cx p s m args meth c prog_11_method_53_code 5 ws_Mo_fitsElement R_Mo (some .boolean) D g) (hk88 : ∀ (v : Int32 × Int32 × Int32) (ls : Array Slot) (H : Heap) (locs : List Loc), lv_has ls 5 [(0, .ref (a0 0)), (1, .int v.1), (3, .int v.2.1), (4, .int v.2.2)] → Iw D A (w_Mo g a0 s0 ++ (rest)) H → va_S A s.heap H locs → k88 v = some out → W p l e (headSpec ws_Mo_fitsElement { frames := 1, cells := 0, slots := 0, locals := 29 }).room s m args below meth c H locs 0 0 (MQ below (QcI D A g out (fun (_ : Unit) => w_Mo g a0 s0 ++ (rest))) args s 0 0 A) (F0 m 88 ls [])) (hl : lv_has ls 5 [(0, .ref (a0 0)), (1, .int x1), (3, .int x3), (4, .int x4)]) (hI : Iw D A (w_Mo g a0 s0 ++ (rest)) H) (hS : va_S A s.heap H locs) (h : B_Mo_fitsElement_88 k88 s0 x1 x3 x4 = some out) : W p l e (headSpec ws_Mo_fitsElement { frames := 1, cells := 0, slots := 0, locals := 29 }).room s m args below meth c H locs 0 0 (MQ below (QcI D A g out (fun (_ : Unit) => w_Mo g a0 s0 ++ (rest))) args s 0 0 A) (F0 m 88 ls []) := by
  have X1 := X
  obtain ⟨hx, hb, hml, hown, hts, hr, hlocks, hKK⟩ := X1
  have ht : ∀ w ∈ TB, w.before args s = true := fun w h => hts w (List.mem_cons_of_mem _ h)
  have hK := hKK.1
  unfold B_Mo_fitsElement_88 at h
  refine lv_iload hx hb d_Mo_fitsElement_88 (lv_at hl 3 rfl) ?_
  refine lv_if_lt (tgt := 137) hx hb d_Mo_fitsElement_90 (by decide) (fun hc => ?_) (fun hc => ?_)
  · have h := it_t h hc
    exact t_Mo_fitsElement_137 X (lv_sub hl [2] rfl) hI hS h
  · have h := it_f h hc
    exact t_Mo_fitsElement_93 X hk88 (lv_sub hl [0, 1, 2, 3] rfl) hI hS h
set_option maxRecDepth 100000 in
set_option maxHeartbeats 4000000 in
theorem T_Mo_fitsElement_88 {p : Program} {l : Launch} {e : Env} {s : State} {m : MethodId} {args : Array Value} {below : List Frame} {meth : Method} {c : Code} {D : va_G} {A : Nat → Prop} {g : Nat → ClassId} {rest : va_W} {a0 : Nat → Nat} {ls : Array Slot} {H : Heap} {locs : List Loc} {s0 : S_Mo} {x1 : Int32} {x3 : Int32} {x4 : Int32} {out : Int32} (X : Cx p s m args meth c prog_11_method_53_code 5 ws_Mo_fitsElement R_Mo (some .boolean) D g) (hl : lv_has ls 5 [(0, .ref (a0 0)), (1, .int x1), (3, .int x3), (4, .int x4)]) (hI : Iw D A (w_Mo g a0 s0 ++ (rest)) H) (hS : va_S A s.heap H locs) (h : L_Mo_fitsElement_88  s0 (x1, x3, x4) = some out) : W p l e (headSpec ws_Mo_fitsElement { frames := 1, cells := 0, slots := 0, locals := 29 }).room s m args below meth c H locs 0 0 (MQ below (QcI D A g out (fun (_ : Unit) => w_Mo g a0 s0 ++ (rest))) args s 0 0 A) (F0 m 88 ls []) := by
  unfold L_Mo_fitsElement_88 at h
  exact lp_ind (P := fun v => ∀ (ls : Array Slot) (H : Heap) (locs : List Loc), lv_has ls 5 [(0, .ref (a0 0)), (1, .int v.1), (3, .int v.2.1), (4, .int v.2.2)] → Iw D A (w_Mo g a0 s0 ++ (rest)) H → va_S A s.heap H locs → W p l e (headSpec ws_Mo_fitsElement { frames := 1, cells := 0, slots := 0, locals := 29 }).room s m args below meth c H locs 0 0 (MQ below (QcI D A g out (fun (_ : Unit) => w_Mo g a0 s0 ++ (rest))) args s 0 0 A) (F0 m 88 ls [])) (fun k v ih hb ls H locs  hl hI hS => t_Mo_fitsElement_88 X  (fun v' ls H locs  hl hI hS h' => ih v' h' ls H locs  hl hI hS) hl hI hS hb) FU _ h ls H locs  hl hI hS
set_option maxRecDepth 100000 in
set_option maxHeartbeats 4000000 in
theorem t_Mo_fitsElement_79 {p : Program} {l : Launch} {e : Env} {s : State} {m : MethodId} {args : Array Value} {below : List Frame} {meth : Method} {c : Code} {D : va_G} {A : Nat → Prop} {g : Nat → ClassId} {rest : va_W} {a0 : Nat → Nat} {ls : Array Slot} {H : Heap} {locs : List Loc} {s0 : S_Mo} {x1 : Int32} {x2 : Int32} {y0 : Int32} {out : Int32} (X : Cx p s m args meth c prog_11_method_53_code 5 ws_Mo_fitsElement R_Mo (some .boolean) D g) (hl : lv_has ls 5 [(0, .ref (a0 0)), (1, .int x1), (2, .int x2)]) (hI : Iw D A (w_Mo g a0 s0 ++ (rest)) H) (hS : va_S A s.heap H locs) (h : B_Mo_fitsElement_79  s0 x1 x2 y0 = some out) : W p l e (headSpec ws_Mo_fitsElement { frames := 1, cells := 0, slots := 0, locals := 29 }).room s m args below meth c H locs 0 0 (MQ below (QcI D A g out (fun (_ : Unit) => w_Mo g a0 s0 ++ (rest))) args s 0 0 A) (F0 m 79 ls [.int y0]) := by
  have X1 := X
  obtain ⟨hx, hb, hml, hown, hts, hr, hlocks, hKK⟩ := X1
  have ht : ∀ w ∈ TB, w.before args s = true := fun w h => hts w (List.mem_cons_of_mem _ h)
  have hK := hKK.1
  unfold B_Mo_fitsElement_79 at h
  refine lv_istore_n hx hb d_Mo_fitsElement_79 rfl hl (Nat.le_of_ble_eq_true rfl) rfl (fun ls hl => ?_)
  have hl : lv_has ls 5 [(3, .int y0), (0, .ref (a0 0)), (1, .int x1), (2, .int x2)] := hl
  refine lv_aload_n hx hb d_Mo_fitsElement_80 rfl (lv_at hl 1 rfl) ?_
  refine gt_Mo_first hx hb ht hown hK hI (ht _ m_828) d_Mo_fitsElement_81 ?_
  refine lv_iload_n hx hb d_Mo_fitsElement_84 rfl (lv_at hl 3 rfl) ?_
  by_cases hc1 : (x2 < 0 ∨ 260 ≤ x2.toNatClampNeg)
  · exact no_s (it_t h hc1)
  have h := it_f h hc1
  refine al_Mo_first hx hb hK hI hc1 d_Mo_fitsElement_85 ?_
  refine lv_istore hx hb d_Mo_fitsElement_86 hl (Nat.le_of_ble_eq_true rfl) rfl (fun ls hl => ?_)
  have hl : lv_has ls 5 [(4, .int ((Mo_first s0) x2.toNatClampNeg)), (3, .int y0), (0, .ref (a0 0)), (1, .int x1), (2, .int x2)] := hl
  exact T_Mo_fitsElement_88 X (lv_sub hl [2, 3, 1, 0] rfl) hI hS h
set_option maxRecDepth 100000 in
set_option maxHeartbeats 4000000 in
theorem t_Mo_fitsElement_78 {p : Program} {l : Launch} {e : Env} {s : State} {m : MethodId} {args : Array Value} {below : List Frame} {meth : Method} {c : Code} {D : va_G} {A : Nat → Prop} {g : Nat → ClassId} {rest : va_W} {a0 : Nat → Nat} {ls : Array Slot} {H : Heap} {locs : List Loc} {s0 : S_Mo} {x1 : Int32} {x2 : Int32} {out : Int32} (X : Cx p s m args meth c prog_11_method_53_code 5 ws_Mo_fitsElement R_Mo (some .boolean) D g) (hl : lv_has ls 5 [(0, .ref (a0 0)), (1, .int x1), (2, .int x2)]) (hI : Iw D A (w_Mo g a0 s0 ++ (rest)) H) (hS : va_S A s.heap H locs) (h : B_Mo_fitsElement_78  s0 x1 x2 = some out) : W p l e (headSpec ws_Mo_fitsElement { frames := 1, cells := 0, slots := 0, locals := 29 }).room s m args below meth c H locs 0 0 (MQ below (QcI D A g out (fun (_ : Unit) => w_Mo g a0 s0 ++ (rest))) args s 0 0 A) (F0 m 78 ls []) := by
  have X1 := X
  obtain ⟨hx, hb, hml, hown, hts, hr, hlocks, hKK⟩ := X1
  have ht : ∀ w ∈ TB, w.before args s = true := fun w h => hts w (List.mem_cons_of_mem _ h)
  have hK := hKK.1
  unfold B_Mo_fitsElement_78 at h
  refine lv_iconst (v := 0) hx hb d_Mo_fitsElement_78 (by decide) ?_
  exact t_Mo_fitsElement_79 X (lv_sub hl [0, 1, 2] rfl) hI hS h
set_option maxRecDepth 100000 in
set_option maxHeartbeats 4000000 in
theorem t_Mo_fitsElement_74 {p : Program} {l : Launch} {e : Env} {s : State} {m : MethodId} {args : Array Value} {below : List Frame} {meth : Method} {c : Code} {D : va_G} {A : Nat → Prop} {g : Nat → ClassId} {rest : va_W} {a0 : Nat → Nat} {ls : Array Slot} {H : Heap} {locs : List Loc} {s0 : S_Mo} {x1 : Int32} {x2 : Int32} {out : Int32} (X : Cx p s m args meth c prog_11_method_53_code 5 ws_Mo_fitsElement R_Mo (some .boolean) D g) (hl : lv_has ls 5 [(0, .ref (a0 0)), (1, .int x1), (2, .int x2)]) (hI : Iw D A (w_Mo g a0 s0 ++ (rest)) H) (hS : va_S A s.heap H locs) (h : B_Mo_fitsElement_74  s0 x1 x2 = some out) : W p l e (headSpec ws_Mo_fitsElement { frames := 1, cells := 0, slots := 0, locals := 29 }).room s m args below meth c H locs 0 0 (MQ below (QcI D A g out (fun (_ : Unit) => w_Mo g a0 s0 ++ (rest))) args s 0 0 A) (F0 m 74 ls []) := by
  have X1 := X
  obtain ⟨hx, hb, hml, hown, hts, hr, hlocks, hKK⟩ := X1
  have ht : ∀ w ∈ TB, w.before args s = true := fun w h => hts w (List.mem_cons_of_mem _ h)
  have hK := hKK.1
  unfold B_Mo_fitsElement_74 at h
  refine lv_iconst (v := 1) hx hb d_Mo_fitsElement_74 (by decide) ?_
  refine lv_goto (tgt := 79) hx hb d_Mo_fitsElement_75 (by decide) ?_
  exact t_Mo_fitsElement_79 X (lv_sub hl [0, 1, 2] rfl) hI hS h
set_option maxRecDepth 100000 in
set_option maxHeartbeats 4000000 in
theorem t_Mo_fitsElement_65 {p : Program} {l : Launch} {e : Env} {s : State} {m : MethodId} {args : Array Value} {below : List Frame} {meth : Method} {c : Code} {D : va_G} {A : Nat → Prop} {g : Nat → ClassId} {rest : va_W} {a0 : Nat → Nat} {ls : Array Slot} {H : Heap} {locs : List Loc} {s0 : S_Mo} {x1 : Int32} {x2 : Int32} {out : Int32} (X : Cx p s m args meth c prog_11_method_53_code 5 ws_Mo_fitsElement R_Mo (some .boolean) D g) (hl : lv_has ls 5 [(0, .ref (a0 0)), (1, .int x1), (2, .int x2)]) (hI : Iw D A (w_Mo g a0 s0 ++ (rest)) H) (hS : va_S A s.heap H locs) (h : B_Mo_fitsElement_65  s0 x1 x2 = some out) : W p l e (headSpec ws_Mo_fitsElement { frames := 1, cells := 0, slots := 0, locals := 29 }).room s m args below meth c H locs 0 0 (MQ below (QcI D A g out (fun (_ : Unit) => w_Mo g a0 s0 ++ (rest))) args s 0 0 A) (F0 m 65 ls []) := by
  have X1 := X
  obtain ⟨hx, hb, hml, hown, hts, hr, hlocks, hKK⟩ := X1
  have ht : ∀ w ∈ TB, w.before args s = true := fun w h => hts w (List.mem_cons_of_mem _ h)
  have hK := hKK.1
  unfold B_Mo_fitsElement_65 at h
  refine lv_aload_n hx hb d_Mo_fitsElement_65 rfl (lv_at hl 0 rfl) ?_
  refine gt_Mo_many hx hb ht hown hK hI (ht _ m_831) d_Mo_fitsElement_66 ?_
  refine lv_iload_n hx hb d_Mo_fitsElement_69 rfl (lv_at hl 1 rfl) ?_
  by_cases hc1 : (x1 < 0 ∨ 260 ≤ x1.toNatClampNeg)
  · exact no_s (it_t h hc1)
  have h := it_f h hc1
  refine al_Mo_many hx hb hK hI hc1 d_Mo_fitsElement_70 ?_
  refine lv_if_ne (tgt := 78) hx hb d_Mo_fitsElement_71 (by decide) (fun hc => ?_) (fun hc => ?_)
  · have h := it_f h hc
    exact t_Mo_fitsElement_78 X (lv_sub hl [0, 1, 2] rfl) hI hS h
  · have h := it_t h hc
    exact t_Mo_fitsElement_74 X (lv_sub hl [0, 1, 2] rfl) hI hS h
set_option maxRecDepth 100000 in
set_option maxHeartbeats 4000000 in
theorem t_Mo_fitsElement_64 {p : Program} {l : Launch} {e : Env} {s : State} {m : MethodId} {args : Array Value} {below : List Frame} {meth : Method} {c : Code} {D : va_G} {A : Nat → Prop} {g : Nat → ClassId} {rest : va_W} {a0 : Nat → Nat} {ls : Array Slot} {H : Heap} {locs : List Loc} {s0 : S_Mo} {y0 : Int32} {out : Int32} (X : Cx p s m args meth c prog_11_method_53_code 5 ws_Mo_fitsElement R_Mo (some .boolean) D g) (hl : lv_has ls 5 []) (hI : Iw D A (w_Mo g a0 s0 ++ (rest)) H) (hS : va_S A s.heap H locs) (h : B_Mo_fitsElement_64  s0 y0 = some out) : W p l e (headSpec ws_Mo_fitsElement { frames := 1, cells := 0, slots := 0, locals := 29 }).room s m args below meth c H locs 0 0 (MQ below (QcI D A g out (fun (_ : Unit) => w_Mo g a0 s0 ++ (rest))) args s 0 0 A) (F0 m 64 ls [.int y0]) := by
  have X1 := X
  obtain ⟨hx, hb, hml, hown, hts, hr, hlocks, hKK⟩ := X1
  have ht : ∀ w ∈ TB, w.before args s = true := fun w h => hts w (List.mem_cons_of_mem _ h)
  have hK := hKK.1
  unfold B_Mo_fitsElement_64 at h
  have hc1 : y0 = 0 ∨ y0 = 1 := by
    by_cases z : y0 = 0 ∨ y0 = 1
    · exact z
    · exact no_s (it_f h z)
  have h := it_t h hc1
  have h9 := Option.some.inj h
  subst h9
  exact W.zret (v := y0) hx hb hr (by rcases hc1 with z | z <;> rw [z] <;> rfl) (fun t ht hW => ⟨⟨_, (), rfl, rfl, ⟨by rw [ht]; exact hI, hKK.moved hW⟩⟩, hS.F ht⟩) hS.2.2 d_Mo_fitsElement_64
set_option maxRecDepth 100000 in
set_option maxHeartbeats 4000000 in
theorem t_Mo_fitsElement_59 {p : Program} {l : Launch} {e : Env} {s : State} {m : MethodId} {args : Array Value} {below : List Frame} {meth : Method} {c : Code} {D : va_G} {A : Nat → Prop} {g : Nat → ClassId} {rest : va_W} {a0 : Nat → Nat} {ls : Array Slot} {H : Heap} {locs : List Loc} {s0 : S_Mo} {out : Int32} (X : Cx p s m args meth c prog_11_method_53_code 5 ws_Mo_fitsElement R_Mo (some .boolean) D g) (hl : lv_has ls 5 []) (hI : Iw D A (w_Mo g a0 s0 ++ (rest)) H) (hS : va_S A s.heap H locs) (h : B_Mo_fitsElement_59  s0 = some out) : W p l e (headSpec ws_Mo_fitsElement { frames := 1, cells := 0, slots := 0, locals := 29 }).room s m args below meth c H locs 0 0 (MQ below (QcI D A g out (fun (_ : Unit) => w_Mo g a0 s0 ++ (rest))) args s 0 0 A) (F0 m 59 ls []) := by
  have X1 := X
  obtain ⟨hx, hb, hml, hown, hts, hr, hlocks, hKK⟩ := X1
  have ht : ∀ w ∈ TB, w.before args s = true := fun w h => hts w (List.mem_cons_of_mem _ h)
  have hK := hKK.1
  unfold B_Mo_fitsElement_59 at h
  refine lv_iconst (v := 1) hx hb d_Mo_fitsElement_59 (by decide) ?_
  refine lv_goto (tgt := 64) hx hb d_Mo_fitsElement_60 (by decide) ?_
  exact t_Mo_fitsElement_64 X (lv_sub hl [] rfl) hI hS h
set_option maxRecDepth 100000 in
set_option maxHeartbeats 4000000 in
theorem t_Mo_fitsElement_63 {p : Program} {l : Launch} {e : Env} {s : State} {m : MethodId} {args : Array Value} {below : List Frame} {meth : Method} {c : Code} {D : va_G} {A : Nat → Prop} {g : Nat → ClassId} {rest : va_W} {a0 : Nat → Nat} {ls : Array Slot} {H : Heap} {locs : List Loc} {s0 : S_Mo} {out : Int32} (X : Cx p s m args meth c prog_11_method_53_code 5 ws_Mo_fitsElement R_Mo (some .boolean) D g) (hl : lv_has ls 5 []) (hI : Iw D A (w_Mo g a0 s0 ++ (rest)) H) (hS : va_S A s.heap H locs) (h : B_Mo_fitsElement_63  s0 = some out) : W p l e (headSpec ws_Mo_fitsElement { frames := 1, cells := 0, slots := 0, locals := 29 }).room s m args below meth c H locs 0 0 (MQ below (QcI D A g out (fun (_ : Unit) => w_Mo g a0 s0 ++ (rest))) args s 0 0 A) (F0 m 63 ls []) := by
  have X1 := X
  obtain ⟨hx, hb, hml, hown, hts, hr, hlocks, hKK⟩ := X1
  have ht : ∀ w ∈ TB, w.before args s = true := fun w h => hts w (List.mem_cons_of_mem _ h)
  have hK := hKK.1
  unfold B_Mo_fitsElement_63 at h
  refine lv_iconst (v := 0) hx hb d_Mo_fitsElement_63 (by decide) ?_
  exact t_Mo_fitsElement_64 X (lv_sub hl [] rfl) hI hS h
set_option maxRecDepth 100000 in
set_option maxHeartbeats 4000000 in
theorem t_Mo_fitsElement_50 {p : Program} {l : Launch} {e : Env} {s : State} {m : MethodId} {args : Array Value} {below : List Frame} {meth : Method} {c : Code} {D : va_G} {A : Nat → Prop} {g : Nat → ClassId} {rest : va_W} {a0 : Nat → Nat} {ls : Array Slot} {H : Heap} {locs : List Loc} {s0 : S_Mo} {x1 : Int32} {x2 : Int32} {out : Int32} (X : Cx p s m args meth c prog_11_method_53_code 5 ws_Mo_fitsElement R_Mo (some .boolean) D g) (hl : lv_has ls 5 [(0, .ref (a0 0)), (1, .int x1), (2, .int x2)]) (hI : Iw D A (w_Mo g a0 s0 ++ (rest)) H) (hS : va_S A s.heap H locs) (h : B_Mo_fitsElement_50  s0 x1 x2 = some out) : W p l e (headSpec ws_Mo_fitsElement { frames := 1, cells := 0, slots := 0, locals := 29 }).room s m args below meth c H locs 0 0 (MQ below (QcI D A g out (fun (_ : Unit) => w_Mo g a0 s0 ++ (rest))) args s 0 0 A) (F0 m 50 ls []) := by
  have X1 := X
  obtain ⟨hx, hb, hml, hown, hts, hr, hlocks, hKK⟩ := X1
  have ht : ∀ w ∈ TB, w.before args s = true := fun w h => hts w (List.mem_cons_of_mem _ h)
  have hK := hKK.1
  unfold B_Mo_fitsElement_50 at h
  refine lv_aload_n hx hb d_Mo_fitsElement_50 rfl (lv_at hl 0 rfl) ?_
  refine lv_iload_n hx hb d_Mo_fitsElement_51 rfl (lv_at hl 1 rfl) ?_
  refine lv_iload_n hx hb d_Mo_fitsElement_52 rfl (lv_at hl 2 rfl) ?_
  obtain ⟨o1, ho2, h⟩ := bd_s h
  refine cl_i (W1 := fun (_ : Unit) => w_Mo g a0 s0 ++ (rest)) (va_runV (As := [.int x1, .int x2]) (rest := []) ⟨hx, hb, hml, hown, ht⟩ (c_Mo_likes (l := l) (D := D) (A := A) (g := g) (rest := rest) (a0 := a0) ho2) (cwV 2 ht (gd_V m_1160 m_1162 mp_74 m_11 m_1163) rfl rfl rfl (by decide +kernel) ⟨(Nat.le_of_ble_eq_true rfl), (Nat.le_of_ble_eq_true rfl)⟩) (prV (ci := 9) (q0 := 0) hKK hI (List.Perm.refl _) rfl rfl rfl) rfl rfl hl.1 rfl (lv_room (Nat.le_of_ble_eq_true rfl)) d_Mo_fitsElement_53 ⟨(Nat.le_of_ble_eq_true rfl), (Nat.le_of_ble_eq_true rfl)⟩) hS (fun _ => ((List.Perm.refl _)).symm) (fun _ H locs hI hS => ?_)
  have hI : Iw D A (w_Mo g a0 s0 ++ (rest)) H := hI
  refine lv_if_eq (tgt := 63) hx hb d_Mo_fitsElement_56 (by decide) (fun hc => ?_) (fun hc => ?_)
  · have h := it_t h hc
    exact t_Mo_fitsElement_63 X (lv_sub hl [] rfl) hI hS h
  · have h := it_f h hc
    exact t_Mo_fitsElement_59 X (lv_sub hl [] rfl) hI hS h
set_option maxRecDepth 100000 in
set_option maxHeartbeats 4000000 in
theorem t_Mo_fitsElement_41 {p : Program} {l : Launch} {e : Env} {s : State} {m : MethodId} {args : Array Value} {below : List Frame} {meth : Method} {c : Code} {D : va_G} {A : Nat → Prop} {g : Nat → ClassId} {rest : va_W} {a0 : Nat → Nat} {ls : Array Slot} {H : Heap} {locs : List Loc} {s0 : S_Mo} {x1 : Int32} {x2 : Int32} {out : Int32} (X : Cx p s m args meth c prog_11_method_53_code 5 ws_Mo_fitsElement R_Mo (some .boolean) D g) (hl : lv_has ls 5 [(0, .ref (a0 0)), (1, .int x1), (2, .int x2)]) (hI : Iw D A (w_Mo g a0 s0 ++ (rest)) H) (hS : va_S A s.heap H locs) (h : B_Mo_fitsElement_41  s0 x1 x2 = some out) : W p l e (headSpec ws_Mo_fitsElement { frames := 1, cells := 0, slots := 0, locals := 29 }).room s m args below meth c H locs 0 0 (MQ below (QcI D A g out (fun (_ : Unit) => w_Mo g a0 s0 ++ (rest))) args s 0 0 A) (F0 m 41 ls []) := by
  have X1 := X
  obtain ⟨hx, hb, hml, hown, hts, hr, hlocks, hKK⟩ := X1
  have ht : ∀ w ∈ TB, w.before args s = true := fun w h => hts w (List.mem_cons_of_mem _ h)
  have hK := hKK.1
  unfold B_Mo_fitsElement_41 at h
  refine lv_aload_n hx hb d_Mo_fitsElement_41 rfl (lv_at hl 0 rfl) ?_
  refine gt_Mo_value hx hb ht hown hK hI (ht _ m_825) d_Mo_fitsElement_42 ?_
  refine lv_iload_n hx hb d_Mo_fitsElement_45 rfl (lv_at hl 1 rfl) ?_
  by_cases hc1 : (x1 < 0 ∨ 260 ≤ x1.toNatClampNeg)
  · exact no_s (it_t h hc1)
  have h := it_f h hc1
  refine al_Mo_value hx hb hK hI hc1 d_Mo_fitsElement_46 ?_
  refine lv_if_eq (tgt := 59) hx hb d_Mo_fitsElement_47 (by decide) (fun hc => ?_) (fun hc => ?_)
  · have h := it_t h hc
    exact t_Mo_fitsElement_59 X (lv_sub hl [] rfl) hI hS h
  · have h := it_f h hc
    exact t_Mo_fitsElement_50 X (lv_sub hl [0, 1, 2] rfl) hI hS h
set_option maxRecDepth 100000 in
set_option maxHeartbeats 4000000 in
theorem t_Mo_fitsElement_31 {p : Program} {l : Launch} {e : Env} {s : State} {m : MethodId} {args : Array Value} {below : List Frame} {meth : Method} {c : Code} {D : va_G} {A : Nat → Prop} {g : Nat → ClassId} {rest : va_W} {a0 : Nat → Nat} {ls : Array Slot} {H : Heap} {locs : List Loc} {s0 : S_Mo} {x1 : Int32} {x2 : Int32} {out : Int32} (X : Cx p s m args meth c prog_11_method_53_code 5 ws_Mo_fitsElement R_Mo (some .boolean) D g) (hl : lv_has ls 5 [(0, .ref (a0 0)), (1, .int x1), (2, .int x2)]) (hI : Iw D A (w_Mo g a0 s0 ++ (rest)) H) (hS : va_S A s.heap H locs) (h : B_Mo_fitsElement_31  s0 x1 x2 = some out) : W p l e (headSpec ws_Mo_fitsElement { frames := 1, cells := 0, slots := 0, locals := 29 }).room s m args below meth c H locs 0 0 (MQ below (QcI D A g out (fun (_ : Unit) => w_Mo g a0 s0 ++ (rest))) args s 0 0 A) (F0 m 31 ls []) := by
  have X1 := X
  obtain ⟨hx, hb, hml, hown, hts, hr, hlocks, hKK⟩ := X1
  have ht : ∀ w ∈ TB, w.before args s = true := fun w h => hts w (List.mem_cons_of_mem _ h)
  have hK := hKK.1
  unfold B_Mo_fitsElement_31 at h
  refine lv_aload_n hx hb d_Mo_fitsElement_31 rfl (lv_at hl 0 rfl) ?_
  refine gt_Mo_kind hx hb ht hown hK hI (ht _ m_823) d_Mo_fitsElement_32 ?_
  refine lv_iload_n hx hb d_Mo_fitsElement_35 rfl (lv_at hl 1 rfl) ?_
  by_cases hc1 : (x1 < 0 ∨ 260 ≤ x1.toNatClampNeg)
  · exact no_s (it_t h hc1)
  have h := it_f h hc1
  refine al_Mo_kind hx hb hK hI hc1 d_Mo_fitsElement_36 ?_
  refine lv_iconst (v := 2) hx hb d_Mo_fitsElement_37 (by decide) ?_
  refine lv_icmp_ne (tgt := 65) hx hb d_Mo_fitsElement_38 (by decide) (fun hc => ?_) (fun hc => ?_)
  · have h := it_f h hc
    exact t_Mo_fitsElement_65 X (lv_sub hl [0, 1, 2] rfl) hI hS h
  · have h := it_t h hc
    exact t_Mo_fitsElement_41 X (lv_sub hl [0, 1, 2] rfl) hI hS h
set_option maxRecDepth 100000 in
set_option maxHeartbeats 4000000 in
theorem t_Mo_fitsElement_30 {p : Program} {l : Launch} {e : Env} {s : State} {m : MethodId} {args : Array Value} {below : List Frame} {meth : Method} {c : Code} {D : va_G} {A : Nat → Prop} {g : Nat → ClassId} {rest : va_W} {a0 : Nat → Nat} {ls : Array Slot} {H : Heap} {locs : List Loc} {s0 : S_Mo} {y0 : Int32} {out : Int32} (X : Cx p s m args meth c prog_11_method_53_code 5 ws_Mo_fitsElement R_Mo (some .boolean) D g) (hl : lv_has ls 5 []) (hI : Iw D A (w_Mo g a0 s0 ++ (rest)) H) (hS : va_S A s.heap H locs) (h : B_Mo_fitsElement_30  s0 y0 = some out) : W p l e (headSpec ws_Mo_fitsElement { frames := 1, cells := 0, slots := 0, locals := 29 }).room s m args below meth c H locs 0 0 (MQ below (QcI D A g out (fun (_ : Unit) => w_Mo g a0 s0 ++ (rest))) args s 0 0 A) (F0 m 30 ls [.int y0]) := by
  have X1 := X
  obtain ⟨hx, hb, hml, hown, hts, hr, hlocks, hKK⟩ := X1
  have ht : ∀ w ∈ TB, w.before args s = true := fun w h => hts w (List.mem_cons_of_mem _ h)
  have hK := hKK.1
  unfold B_Mo_fitsElement_30 at h
  have hc1 : y0 = 0 ∨ y0 = 1 := by
    by_cases z : y0 = 0 ∨ y0 = 1
    · exact z
    · exact no_s (it_f h z)
  have h := it_t h hc1
  have h9 := Option.some.inj h
  subst h9
  exact W.zret (v := y0) hx hb hr (by rcases hc1 with z | z <;> rw [z] <;> rfl) (fun t ht hW => ⟨⟨_, (), rfl, rfl, ⟨by rw [ht]; exact hI, hKK.moved hW⟩⟩, hS.F ht⟩) hS.2.2 d_Mo_fitsElement_30
set_option maxRecDepth 100000 in
set_option maxHeartbeats 4000000 in
theorem t_Mo_fitsElement_29 {p : Program} {l : Launch} {e : Env} {s : State} {m : MethodId} {args : Array Value} {below : List Frame} {meth : Method} {c : Code} {D : va_G} {A : Nat → Prop} {g : Nat → ClassId} {rest : va_W} {a0 : Nat → Nat} {ls : Array Slot} {H : Heap} {locs : List Loc} {s0 : S_Mo} {out : Int32} (X : Cx p s m args meth c prog_11_method_53_code 5 ws_Mo_fitsElement R_Mo (some .boolean) D g) (hl : lv_has ls 5 []) (hI : Iw D A (w_Mo g a0 s0 ++ (rest)) H) (hS : va_S A s.heap H locs) (h : B_Mo_fitsElement_29  s0 = some out) : W p l e (headSpec ws_Mo_fitsElement { frames := 1, cells := 0, slots := 0, locals := 29 }).room s m args below meth c H locs 0 0 (MQ below (QcI D A g out (fun (_ : Unit) => w_Mo g a0 s0 ++ (rest))) args s 0 0 A) (F0 m 29 ls []) := by
  have X1 := X
  obtain ⟨hx, hb, hml, hown, hts, hr, hlocks, hKK⟩ := X1
  have ht : ∀ w ∈ TB, w.before args s = true := fun w h => hts w (List.mem_cons_of_mem _ h)
  have hK := hKK.1
  unfold B_Mo_fitsElement_29 at h
  refine lv_iconst (v := 0) hx hb d_Mo_fitsElement_29 (by decide) ?_
  exact t_Mo_fitsElement_30 X (lv_sub hl [] rfl) hI hS h
set_option maxRecDepth 100000 in
set_option maxHeartbeats 4000000 in
theorem t_Mo_fitsElement_25 {p : Program} {l : Launch} {e : Env} {s : State} {m : MethodId} {args : Array Value} {below : List Frame} {meth : Method} {c : Code} {D : va_G} {A : Nat → Prop} {g : Nat → ClassId} {rest : va_W} {a0 : Nat → Nat} {ls : Array Slot} {H : Heap} {locs : List Loc} {s0 : S_Mo} {out : Int32} (X : Cx p s m args meth c prog_11_method_53_code 5 ws_Mo_fitsElement R_Mo (some .boolean) D g) (hl : lv_has ls 5 []) (hI : Iw D A (w_Mo g a0 s0 ++ (rest)) H) (hS : va_S A s.heap H locs) (h : B_Mo_fitsElement_25  s0 = some out) : W p l e (headSpec ws_Mo_fitsElement { frames := 1, cells := 0, slots := 0, locals := 29 }).room s m args below meth c H locs 0 0 (MQ below (QcI D A g out (fun (_ : Unit) => w_Mo g a0 s0 ++ (rest))) args s 0 0 A) (F0 m 25 ls []) := by
  have X1 := X
  obtain ⟨hx, hb, hml, hown, hts, hr, hlocks, hKK⟩ := X1
  have ht : ∀ w ∈ TB, w.before args s = true := fun w h => hts w (List.mem_cons_of_mem _ h)
  have hK := hKK.1
  unfold B_Mo_fitsElement_25 at h
  refine lv_iconst (v := 1) hx hb d_Mo_fitsElement_25 (by decide) ?_
  refine lv_goto (tgt := 30) hx hb d_Mo_fitsElement_26 (by decide) ?_
  exact t_Mo_fitsElement_30 X (lv_sub hl [] rfl) hI hS h
set_option maxRecDepth 100000 in
set_option maxHeartbeats 4000000 in
theorem t_Mo_fitsElement_10 {p : Program} {l : Launch} {e : Env} {s : State} {m : MethodId} {args : Array Value} {below : List Frame} {meth : Method} {c : Code} {D : va_G} {A : Nat → Prop} {g : Nat → ClassId} {rest : va_W} {a0 : Nat → Nat} {ls : Array Slot} {H : Heap} {locs : List Loc} {s0 : S_Mo} {x1 : Int32} {x2 : Int32} {out : Int32} (X : Cx p s m args meth c prog_11_method_53_code 5 ws_Mo_fitsElement R_Mo (some .boolean) D g) (hl : lv_has ls 5 [(0, .ref (a0 0)), (1, .int x1), (2, .int x2)]) (hI : Iw D A (w_Mo g a0 s0 ++ (rest)) H) (hS : va_S A s.heap H locs) (h : B_Mo_fitsElement_10  s0 x1 x2 = some out) : W p l e (headSpec ws_Mo_fitsElement { frames := 1, cells := 0, slots := 0, locals := 29 }).room s m args below meth c H locs 0 0 (MQ below (QcI D A g out (fun (_ : Unit) => w_Mo g a0 s0 ++ (rest))) args s 0 0 A) (F0 m 10 ls []) := by
  have X1 := X
  obtain ⟨hx, hb, hml, hown, hts, hr, hlocks, hKK⟩ := X1
  have ht : ∀ w ∈ TB, w.before args s = true := fun w h => hts w (List.mem_cons_of_mem _ h)
  have hK := hKK.1
  unfold B_Mo_fitsElement_10 at h
  refine lv_aload_n hx hb d_Mo_fitsElement_10 rfl (lv_at hl 0 rfl) ?_
  refine gt_Mo_value hx hb ht hown hK hI (ht _ m_825) d_Mo_fitsElement_11 ?_
  refine lv_iload_n hx hb d_Mo_fitsElement_14 rfl (lv_at hl 1 rfl) ?_
  by_cases hc1 : (x1 < 0 ∨ 260 ≤ x1.toNatClampNeg)
  · exact no_s (it_t h hc1)
  have h := it_f h hc1
  refine al_Mo_value hx hb hK hI hc1 d_Mo_fitsElement_15 ?_
  refine lv_aload_n hx hb d_Mo_fitsElement_16 rfl (lv_at hl 0 rfl) ?_
  refine gt_Mo_value hx hb ht hown hK hI (ht _ m_825) d_Mo_fitsElement_17 ?_
  refine lv_iload_n hx hb d_Mo_fitsElement_20 rfl (lv_at hl 2 rfl) ?_
  by_cases hc2 : (x2 < 0 ∨ 260 ≤ x2.toNatClampNeg)
  · exact no_s (it_t h hc2)
  have h := it_f h hc2
  refine al_Mo_value hx hb hK hI hc2 d_Mo_fitsElement_21 ?_
  refine lv_icmp_ne (tgt := 29) hx hb d_Mo_fitsElement_22 (by decide) (fun hc => ?_) (fun hc => ?_)
  · have h := it_f h hc
    exact t_Mo_fitsElement_29 X (lv_sub hl [] rfl) hI hS h
  · have h := it_t h hc
    exact t_Mo_fitsElement_25 X (lv_sub hl [] rfl) hI hS h
set_option maxRecDepth 100000 in
set_option maxHeartbeats 4000000 in
theorem t_Mo_fitsElement_0 {p : Program} {l : Launch} {e : Env} {s : State} {m : MethodId} {args : Array Value} {below : List Frame} {meth : Method} {c : Code} {D : va_G} {A : Nat → Prop} {g : Nat → ClassId} {rest : va_W} {a0 : Nat → Nat} {ls : Array Slot} {H : Heap} {locs : List Loc} {s0 : S_Mo} {x1 : Int32} {x2 : Int32} {out : Int32} (X : Cx p s m args meth c prog_11_method_53_code 5 ws_Mo_fitsElement R_Mo (some .boolean) D g) (hl : lv_has ls 5 [(0, .ref (a0 0)), (1, .int x1), (2, .int x2)]) (hI : Iw D A (w_Mo g a0 s0 ++ (rest)) H) (hS : va_S A s.heap H locs) (h : B_Mo_fitsElement_0  s0 x1 x2 = some out) : W p l e (headSpec ws_Mo_fitsElement { frames := 1, cells := 0, slots := 0, locals := 29 }).room s m args below meth c H locs 0 0 (MQ below (QcI D A g out (fun (_ : Unit) => w_Mo g a0 s0 ++ (rest))) args s 0 0 A) (F0 m 0 ls []) := by
  have X1 := X
  obtain ⟨hx, hb, hml, hown, hts, hr, hlocks, hKK⟩ := X1
  have ht : ∀ w ∈ TB, w.before args s = true := fun w h => hts w (List.mem_cons_of_mem _ h)
  have hK := hKK.1
  unfold B_Mo_fitsElement_0 at h
  refine lv_aload_n hx hb d_Mo_fitsElement_0 rfl (lv_at hl 0 rfl) ?_
  refine gt_Mo_kind hx hb ht hown hK hI (ht _ m_823) d_Mo_fitsElement_1 ?_
  refine lv_iload_n hx hb d_Mo_fitsElement_4 rfl (lv_at hl 1 rfl) ?_
  by_cases hc1 : (x1 < 0 ∨ 260 ≤ x1.toNatClampNeg)
  · exact no_s (it_t h hc1)
  have h := it_f h hc1
  refine al_Mo_kind hx hb hK hI hc1 d_Mo_fitsElement_5 ?_
  refine lv_iconst (v := 1) hx hb d_Mo_fitsElement_6 (by decide) ?_
  refine lv_icmp_ne (tgt := 31) hx hb d_Mo_fitsElement_7 (by decide) (fun hc => ?_) (fun hc => ?_)
  · have h := it_f h hc
    exact t_Mo_fitsElement_31 X (lv_sub hl [0, 1, 2] rfl) hI hS h
  · have h := it_t h hc
    exact t_Mo_fitsElement_10 X (lv_sub hl [0, 1, 2] rfl) hI hS h
set_option maxRecDepth 100000 in
set_option maxHeartbeats 4000000 in
theorem c_Mo_fitsElement {l : Launch} {D : va_G} {A : Nat → Prop} {g : Nat → ClassId} {rest : va_W} {a0 : Nat → Nat} {s0 : S_Mo} {x1 : Int32} {x2 : Int32} {out : Int32} (h : F_Mo_fitsElement s0 x1 x2 = some out) : Met l y_Mo_fitsElement ws_Mo_fitsElement { frames := 1, cells := 0, slots := 0, locals := 29 } (PcW D A g [.ref (a0 0), .int x1, .int x2] (w_Mo g a0 s0 ++ (rest))) (QcI D A g out (fun (_ : Unit) => w_Mo g a0 s0 ++ (rest))) 0 0 A := by
  refine Met.ofW (cc := prog_11_method_53_code) (maxL := 5) (ret := (some .boolean)) (by decide) rfl ?_
  intro p e s m args below meth c s₁ B hml hv
  obtain ⟨rfl, hI, hK⟩ := hv
  have hl := lv_entry [.ref (a0 0), .int x1, .int x2] (n := 5) (Nat.le_of_ble_eq_true rfl)
  rw [lg_entry_eq]
  generalize (lg_sl [.ref (a0 0), .int x1, .int x2] ++ List.replicate (5 - (lg_sl [.ref (a0 0), .int x1, .int x2]).length) Slot.unset).toArray = ls at hl ⊢
  have hl : lv_has ls 5 [(0, .ref (a0 0)), (1, .int x1), (2, .int x2)] := hl
  exact t_Mo_fitsElement_0 ⟨B.exec, B.bytes, hml, findClass_of_methodNamed B.named, atoms_spec (ws := ws_Mo_fitsElement) B.pre, B.returns, B.notSynchronized, hK⟩ (lv_sub hl [0, 1, 2] rfl) hI va_S.rf h
def ws_Mo_fitsSet : List Cond := .code y_Mo_fitsSet prog_11_method_52_code 7 (some .boolean) :: TB
def B_Mo_fitsSet_102 (s0 : S_Mo) (x3 : Int32) : Option Int32 :=
  (if x3 = 0 ∨ x3 = 1 then some x3 else none)
def B_Mo_fitsSet_87 (k10 : Int32 × Int32 × Int32 → Option Int32) (s0 : S_Mo) (x2 : Int32) (x4 : Int32) (x5 : Int32) : Option Int32 :=
  (if (x4 < 0 ∨ 260 ≤ x4.toNatClampNeg) then none else (k10 (x2, x5, ((Mo_next s0) x4.toNatClampNeg))))
def B_Mo_fitsSet_73 (k10 : Int32 × Int32 × Int32 → Option Int32) (k30 : Int32 × Int32 × Int32 × Int32 → Option Int32) (s0 : S_Mo) (x2 : Int32) (x4 : Int32) (x6 : Int32) (y0 : Int32) : Option Int32 :=
  (if (x6 < 0 ∨ 260 ≤ x6.toNatClampNeg) then none else (k30 (x2, x4, y0, ((Mo_next s0) x6.toNatClampNeg))))
def B_Mo_fitsSet_68 (k10 : Int32 × Int32 × Int32 → Option Int32) (k30 : Int32 × Int32 × Int32 × Int32 → Option Int32) (s0 : S_Mo) (x2 : Int32) (x4 : Int32) (x6 : Int32) : Option Int32 :=
  (B_Mo_fitsSet_73 k10 k30 s0 x2 x4 x6 (1 : Int32))
def B_Mo_fitsSet_72 (k10 : Int32 × Int32 × Int32 → Option Int32) (k30 : Int32 × Int32 × Int32 × Int32 → Option Int32) (s0 : S_Mo) (x2 : Int32) (x4 : Int32) (x6 : Int32) : Option Int32 :=
  (B_Mo_fitsSet_73 k10 k30 s0 x2 x4 x6 (0 : Int32))
def B_Mo_fitsSet_57 (k10 : Int32 × Int32 × Int32 → Option Int32) (k30 : Int32 × Int32 × Int32 × Int32 → Option Int32) (s0 : S_Mo) (x2 : Int32) (x4 : Int32) (x6 : Int32) : Option Int32 :=
  ((F_Mo_fitsElement s0 x4 x6).bind fun o1 => (if o1 = 0 then (B_Mo_fitsSet_72 k10 k30 s0 x2 x4 x6) else (B_Mo_fitsSet_68 k10 k30 s0 x2 x4 x6)))
def B_Mo_fitsSet_40 (k10 : Int32 × Int32 × Int32 → Option Int32) (k30 : Int32 × Int32 × Int32 × Int32 → Option Int32) (s0 : S_Mo) (x2 : Int32) (x4 : Int32) (x6 : Int32) : Option Int32 :=
  (if (x6 < 0 ∨ 260 ≤ x6.toNatClampNeg) then none else (if (x4 < 0 ∨ 260 ≤ x4.toNatClampNeg) then none else (if ((Mo_tag s0) x6.toNatClampNeg) = ((Mo_tag s0) x4.toNatClampNeg) then (B_Mo_fitsSet_57 k10 k30 s0 x2 x4 x6) else (B_Mo_fitsSet_72 k10 k30 s0 x2 x4 x6))))
def B_Mo_fitsSet_35 (k10 : Int32 × Int32 × Int32 → Option Int32) (k30 : Int32 × Int32 × Int32 × Int32 → Option Int32) (s0 : S_Mo) (x2 : Int32) (x4 : Int32) (x5 : Int32) (x6 : Int32) : Option Int32 :=
  (if x5 = 0 then (B_Mo_fitsSet_40 k10 k30 s0 x2 x4 x6) else (B_Mo_fitsSet_68 k10 k30 s0 x2 x4 x6))
def B_Mo_fitsSet_30 (k10 : Int32 × Int32 × Int32 → Option Int32) (k30 : Int32 × Int32 × Int32 × Int32 → Option Int32) (s0 : S_Mo) (x2 : Int32) (x4 : Int32) (x5 : Int32) (x6 : Int32) : Option Int32 :=
  (if x6 < 0 then (B_Mo_fitsSet_87 k10 s0 x2 x4 x5) else (B_Mo_fitsSet_35 k10 k30 s0 x2 x4 x5 x6))
def L_Mo_fitsSet_30 (k10 : Int32 × Int32 × Int32 → Option Int32) (s0 : S_Mo) (v : Int32 × Int32 × Int32 × Int32) : Option Int32 := lp (fun k30 v => B_Mo_fitsSet_30 k10 k30 s0 v.1 v.2.1 v.2.2.1 v.2.2.2) FU v
def B_Mo_fitsSet_19 (k10 : Int32 × Int32 × Int32 → Option Int32) (s0 : S_Mo) (x2 : Int32) (x4 : Int32) : Option Int32 :=
  (if (x2 < 0 ∨ 260 ≤ x2.toNatClampNeg) then none else (L_Mo_fitsSet_30 k10 s0 (x2, x4, (0 : Int32), ((Mo_first s0) x2.toNatClampNeg))))
def B_Mo_fitsSet_15 (k10 : Int32 × Int32 × Int32 → Option Int32) (s0 : S_Mo) (x2 : Int32) (x3 : Int32) (x4 : Int32) : Option Int32 :=
  (if x3 = 0 then (B_Mo_fitsSet_102 s0 x3) else (B_Mo_fitsSet_19 k10 s0 x2 x4))
def B_Mo_fitsSet_10 (k10 : Int32 × Int32 × Int32 → Option Int32) (s0 : S_Mo) (x2 : Int32) (x3 : Int32) (x4 : Int32) : Option Int32 :=
  (if x4 < 0 then (B_Mo_fitsSet_102 s0 x3) else (B_Mo_fitsSet_15 k10 s0 x2 x3 x4))
def L_Mo_fitsSet_10 (s0 : S_Mo) (v : Int32 × Int32 × Int32) : Option Int32 := lp (fun k10 v => B_Mo_fitsSet_10  k10 s0 v.1 v.2.1 v.2.2) FU v
def B_Mo_fitsSet_0 (s0 : S_Mo) (x1 : Int32) (x2 : Int32) : Option Int32 :=
  (if (x1 < 0 ∨ 260 ≤ x1.toNatClampNeg) then none else (L_Mo_fitsSet_10 s0 (x2, (1 : Int32), ((Mo_first s0) x1.toNatClampNeg))))
def F_Mo_fitsSet (s0 : S_Mo) (x1 : Int32) (x2 : Int32) : Option Int32 := B_Mo_fitsSet_0 s0 x1 x2
set_option maxRecDepth 100000 in
set_option maxHeartbeats 4000000 in
theorem t_Mo_fitsSet_102 {p : Program} {l : Launch} {e : Env} {s : State} {m : MethodId} {args : Array Value} {below : List Frame} {meth : Method} {c : Code} {D : va_G} {A : Nat → Prop} {g : Nat → ClassId} {rest : va_W} {a0 : Nat → Nat} {ls : Array Slot} {H : Heap} {locs : List Loc} {s0 : S_Mo} {x3 : Int32} {out : Int32} (X : Cx p s m args meth c prog_11_method_52_code 7 ws_Mo_fitsSet R_Mo (some .boolean) D g) (hl : lv_has ls 7 [(3, .int x3)]) (hI : Iw D A (w_Mo g a0 s0 ++ (rest)) H) (hS : va_S A s.heap H locs) (h : B_Mo_fitsSet_102  s0 x3 = some out) : W p l e (headSpec ws_Mo_fitsSet { frames := 2, cells := 0, slots := 0, locals := 53 }).room s m args below meth c H locs 0 0 (MQ below (QcI D A g out (fun (_ : Unit) => w_Mo g a0 s0 ++ (rest))) args s 0 0 A) (F0 m 102 ls []) := by
  have X1 := X
  obtain ⟨hx, hb, hml, hown, hts, hr, hlocks, hKK⟩ := X1
  have ht : ∀ w ∈ TB, w.before args s = true := fun w h => hts w (List.mem_cons_of_mem _ h)
  have hK := hKK.1
  unfold B_Mo_fitsSet_102 at h
  refine lv_iload_n hx hb d_Mo_fitsSet_102 rfl (lv_at hl 0 rfl) ?_
  have hc1 : x3 = 0 ∨ x3 = 1 := by
    by_cases z : x3 = 0 ∨ x3 = 1
    · exact z
    · exact no_s (it_f h z)
  have h := it_t h hc1
  have h9 := Option.some.inj h
  subst h9
  exact W.zret (v := x3) hx hb hr (by rcases hc1 with z | z <;> rw [z] <;> rfl) (fun t ht hW => ⟨⟨_, (), rfl, rfl, ⟨by rw [ht]; exact hI, hKK.moved hW⟩⟩, hS.F ht⟩) hS.2.2 d_Mo_fitsSet_103
set_option maxRecDepth 100000 in
set_option maxHeartbeats 4000000 in
theorem t_Mo_fitsSet_87 {p : Program} {l : Launch} {e : Env} {s : State} {m : MethodId} {args : Array Value} {below : List Frame} {meth : Method} {c : Code} {D : va_G} {A : Nat → Prop} {g : Nat → ClassId} {rest : va_W} {a0 : Nat → Nat} {ls : Array Slot} {H : Heap} {locs : List Loc} {k10 : Int32 × Int32 × Int32 → Option Int32} {s0 : S_Mo} {x2 : Int32} {x4 : Int32} {x5 : Int32} {out : Int32} (X : Cx p s m args meth c prog_11_method_52_code 7 ws_Mo_fitsSet R_Mo (some .boolean) D g) (hk10 : ∀ (v : Int32 × Int32 × Int32) (ls : Array Slot) (H : Heap) (locs : List Loc), lv_has ls 7 [(0, .ref (a0 0)), (2, .int v.1), (3, .int v.2.1), (4, .int v.2.2)] → Iw D A (w_Mo g a0 s0 ++ (rest)) H → va_S A s.heap H locs → k10 v = some out → W p l e (headSpec ws_Mo_fitsSet { frames := 2, cells := 0, slots := 0, locals := 53 }).room s m args below meth c H locs 0 0 (MQ below (QcI D A g out (fun (_ : Unit) => w_Mo g a0 s0 ++ (rest))) args s 0 0 A) (F0 m 10 ls [])) (hl : lv_has ls 7 [(0, .ref (a0 0)), (2, .int x2), (4, .int x4), (5, .int x5)]) (hI : Iw D A (w_Mo g a0 s0 ++ (rest)) H) (hS : va_S A s.heap H locs) (h : B_Mo_fitsSet_87 k10 s0 x2 x4 x5 = some out) : W p l e (headSpec ws_Mo_fitsSet { frames := 2, cells := 0, slots := 0, locals := 53 }).room s m args below meth c H locs 0 0 (MQ below (QcI D A g out (fun (_ : Unit) => w_Mo g a0 s0 ++ (rest))) args s 0 0 A) (F0 m 87 ls []) := by
  have X1 := X
  obtain ⟨hx, hb, hml, hown, hts, hr, hlocks, hKK⟩ := X1
  have ht : ∀ w ∈ TB, w.before args s = true := fun w h => hts w (List.mem_cons_of_mem _ h)
  have hK := hKK.1
  unfold B_Mo_fitsSet_87 at h
  refine lv_iload hx hb d_Mo_fitsSet_87 (lv_at hl 3 rfl) ?_
  refine lv_istore_n hx hb d_Mo_fitsSet_89 rfl hl (Nat.le_of_ble_eq_true rfl) rfl (fun ls hl => ?_)
  have hl : lv_has ls 7 [(3, .int x5), (0, .ref (a0 0)), (2, .int x2), (4, .int x4), (5, .int x5)] := hl
  refine lv_aload_n hx hb d_Mo_fitsSet_90 rfl (lv_at hl 1 rfl) ?_
  refine gt_Mo_next hx hb ht hown hK hI (ht _ m_829) d_Mo_fitsSet_91 ?_
  refine lv_iload hx hb d_Mo_fitsSet_94 (lv_at hl 3 rfl) ?_
  by_cases hc1 : (x4 < 0 ∨ 260 ≤ x4.toNatClampNeg)
  · exact no_s (it_t h hc1)
  have h := it_f h hc1
  refine al_Mo_next hx hb hK hI hc1 d_Mo_fitsSet_96 ?_
  refine lv_istore hx hb d_Mo_fitsSet_97 hl (Nat.le_of_ble_eq_true rfl) rfl (fun ls hl => ?_)
  have hl : lv_has ls 7 [(4, .int ((Mo_next s0) x4.toNatClampNeg)), (3, .int x5), (0, .ref (a0 0)), (2, .int x2), (5, .int x5)] := hl
  refine lv_goto (tgt := 10) hx hb d_Mo_fitsSet_99 (by decide) ?_
  exact hk10 (x2, x5, ((Mo_next s0) x4.toNatClampNeg)) _ _ _ (lv_sub hl [2, 3, 1, 0] rfl) hI hS h
set_option maxRecDepth 100000 in
set_option maxHeartbeats 4000000 in
theorem t_Mo_fitsSet_73 {p : Program} {l : Launch} {e : Env} {s : State} {m : MethodId} {args : Array Value} {below : List Frame} {meth : Method} {c : Code} {D : va_G} {A : Nat → Prop} {g : Nat → ClassId} {rest : va_W} {a0 : Nat → Nat} {ls : Array Slot} {H : Heap} {locs : List Loc} {k10 : Int32 × Int32 × Int32 → Option Int32} {k30 : Int32 × Int32 × Int32 × Int32 → Option Int32} {s0 : S_Mo} {x2 : Int32} {x4 : Int32} {x6 : Int32} {y0 : Int32} {out : Int32} (X : Cx p s m args meth c prog_11_method_52_code 7 ws_Mo_fitsSet R_Mo (some .boolean) D g) (hk10 : ∀ (v : Int32 × Int32 × Int32) (ls : Array Slot) (H : Heap) (locs : List Loc), lv_has ls 7 [(0, .ref (a0 0)), (2, .int v.1), (3, .int v.2.1), (4, .int v.2.2)] → Iw D A (w_Mo g a0 s0 ++ (rest)) H → va_S A s.heap H locs → k10 v = some out → W p l e (headSpec ws_Mo_fitsSet { frames := 2, cells := 0, slots := 0, locals := 53 }).room s m args below meth c H locs 0 0 (MQ below (QcI D A g out (fun (_ : Unit) => w_Mo g a0 s0 ++ (rest))) args s 0 0 A) (F0 m 10 ls [])) (hk30 : ∀ (v : Int32 × Int32 × Int32 × Int32) (ls : Array Slot) (H : Heap) (locs : List Loc), lv_has ls 7 [(0, .ref (a0 0)), (2, .int v.1), (4, .int v.2.1), (5, .int v.2.2.1), (6, .int v.2.2.2)] → Iw D A (w_Mo g a0 s0 ++ (rest)) H → va_S A s.heap H locs → k30 v = some out → W p l e (headSpec ws_Mo_fitsSet { frames := 2, cells := 0, slots := 0, locals := 53 }).room s m args below meth c H locs 0 0 (MQ below (QcI D A g out (fun (_ : Unit) => w_Mo g a0 s0 ++ (rest))) args s 0 0 A) (F0 m 30 ls [])) (hl : lv_has ls 7 [(0, .ref (a0 0)), (2, .int x2), (4, .int x4), (6, .int x6)]) (hI : Iw D A (w_Mo g a0 s0 ++ (rest)) H) (hS : va_S A s.heap H locs) (h : B_Mo_fitsSet_73 k10 k30 s0 x2 x4 x6 y0 = some out) : W p l e (headSpec ws_Mo_fitsSet { frames := 2, cells := 0, slots := 0, locals := 53 }).room s m args below meth c H locs 0 0 (MQ below (QcI D A g out (fun (_ : Unit) => w_Mo g a0 s0 ++ (rest))) args s 0 0 A) (F0 m 73 ls [.int y0]) := by
  have X1 := X
  obtain ⟨hx, hb, hml, hown, hts, hr, hlocks, hKK⟩ := X1
  have ht : ∀ w ∈ TB, w.before args s = true := fun w h => hts w (List.mem_cons_of_mem _ h)
  have hK := hKK.1
  unfold B_Mo_fitsSet_73 at h
  refine lv_istore hx hb d_Mo_fitsSet_73 hl (Nat.le_of_ble_eq_true rfl) rfl (fun ls hl => ?_)
  have hl : lv_has ls 7 [(5, .int y0), (0, .ref (a0 0)), (2, .int x2), (4, .int x4), (6, .int x6)] := hl
  refine lv_aload_n hx hb d_Mo_fitsSet_75 rfl (lv_at hl 1 rfl) ?_
  refine gt_Mo_next hx hb ht hown hK hI (ht _ m_829) d_Mo_fitsSet_76 ?_
  refine lv_iload hx hb d_Mo_fitsSet_79 (lv_at hl 4 rfl) ?_
  by_cases hc1 : (x6 < 0 ∨ 260 ≤ x6.toNatClampNeg)
  · exact no_s (it_t h hc1)
  have h := it_f h hc1
  refine al_Mo_next hx hb hK hI hc1 d_Mo_fitsSet_81 ?_
  refine lv_istore hx hb d_Mo_fitsSet_82 hl (Nat.le_of_ble_eq_true rfl) rfl (fun ls hl => ?_)
  have hl : lv_has ls 7 [(6, .int ((Mo_next s0) x6.toNatClampNeg)), (5, .int y0), (0, .ref (a0 0)), (2, .int x2), (4, .int x4)] := hl
  refine lv_goto (tgt := 30) hx hb d_Mo_fitsSet_84 (by decide) ?_
  exact hk30 (x2, x4, y0, ((Mo_next s0) x6.toNatClampNeg)) _ _ _ (lv_sub hl [2, 3, 4, 1, 0] rfl) hI hS h
set_option maxRecDepth 100000 in
set_option maxHeartbeats 4000000 in
theorem t_Mo_fitsSet_68 {p : Program} {l : Launch} {e : Env} {s : State} {m : MethodId} {args : Array Value} {below : List Frame} {meth : Method} {c : Code} {D : va_G} {A : Nat → Prop} {g : Nat → ClassId} {rest : va_W} {a0 : Nat → Nat} {ls : Array Slot} {H : Heap} {locs : List Loc} {k10 : Int32 × Int32 × Int32 → Option Int32} {k30 : Int32 × Int32 × Int32 × Int32 → Option Int32} {s0 : S_Mo} {x2 : Int32} {x4 : Int32} {x6 : Int32} {out : Int32} (X : Cx p s m args meth c prog_11_method_52_code 7 ws_Mo_fitsSet R_Mo (some .boolean) D g) (hk10 : ∀ (v : Int32 × Int32 × Int32) (ls : Array Slot) (H : Heap) (locs : List Loc), lv_has ls 7 [(0, .ref (a0 0)), (2, .int v.1), (3, .int v.2.1), (4, .int v.2.2)] → Iw D A (w_Mo g a0 s0 ++ (rest)) H → va_S A s.heap H locs → k10 v = some out → W p l e (headSpec ws_Mo_fitsSet { frames := 2, cells := 0, slots := 0, locals := 53 }).room s m args below meth c H locs 0 0 (MQ below (QcI D A g out (fun (_ : Unit) => w_Mo g a0 s0 ++ (rest))) args s 0 0 A) (F0 m 10 ls [])) (hk30 : ∀ (v : Int32 × Int32 × Int32 × Int32) (ls : Array Slot) (H : Heap) (locs : List Loc), lv_has ls 7 [(0, .ref (a0 0)), (2, .int v.1), (4, .int v.2.1), (5, .int v.2.2.1), (6, .int v.2.2.2)] → Iw D A (w_Mo g a0 s0 ++ (rest)) H → va_S A s.heap H locs → k30 v = some out → W p l e (headSpec ws_Mo_fitsSet { frames := 2, cells := 0, slots := 0, locals := 53 }).room s m args below meth c H locs 0 0 (MQ below (QcI D A g out (fun (_ : Unit) => w_Mo g a0 s0 ++ (rest))) args s 0 0 A) (F0 m 30 ls [])) (hl : lv_has ls 7 [(0, .ref (a0 0)), (2, .int x2), (4, .int x4), (6, .int x6)]) (hI : Iw D A (w_Mo g a0 s0 ++ (rest)) H) (hS : va_S A s.heap H locs) (h : B_Mo_fitsSet_68 k10 k30 s0 x2 x4 x6 = some out) : W p l e (headSpec ws_Mo_fitsSet { frames := 2, cells := 0, slots := 0, locals := 53 }).room s m args below meth c H locs 0 0 (MQ below (QcI D A g out (fun (_ : Unit) => w_Mo g a0 s0 ++ (rest))) args s 0 0 A) (F0 m 68 ls []) := by
  have X1 := X
  obtain ⟨hx, hb, hml, hown, hts, hr, hlocks, hKK⟩ := X1
  have ht : ∀ w ∈ TB, w.before args s = true := fun w h => hts w (List.mem_cons_of_mem _ h)
  have hK := hKK.1
  unfold B_Mo_fitsSet_68 at h
  refine lv_iconst (v := 1) hx hb d_Mo_fitsSet_68 (by decide) ?_
  refine lv_goto (tgt := 73) hx hb d_Mo_fitsSet_69 (by decide) ?_
  exact t_Mo_fitsSet_73 X hk10 hk30 (lv_sub hl [0, 1, 2, 3] rfl) hI hS h
set_option maxRecDepth 100000 in
set_option maxHeartbeats 4000000 in
theorem t_Mo_fitsSet_72 {p : Program} {l : Launch} {e : Env} {s : State} {m : MethodId} {args : Array Value} {below : List Frame} {meth : Method} {c : Code} {D : va_G} {A : Nat → Prop} {g : Nat → ClassId} {rest : va_W} {a0 : Nat → Nat} {ls : Array Slot} {H : Heap} {locs : List Loc} {k10 : Int32 × Int32 × Int32 → Option Int32} {k30 : Int32 × Int32 × Int32 × Int32 → Option Int32} {s0 : S_Mo} {x2 : Int32} {x4 : Int32} {x6 : Int32} {out : Int32} (X : Cx p s m args meth c prog_11_method_52_code 7 ws_Mo_fitsSet R_Mo (some .boolean) D g) (hk10 : ∀ (v : Int32 × Int32 × Int32) (ls : Array Slot) (H : Heap) (locs : List Loc), lv_has ls 7 [(0, .ref (a0 0)), (2, .int v.1), (3, .int v.2.1), (4, .int v.2.2)] → Iw D A (w_Mo g a0 s0 ++ (rest)) H → va_S A s.heap H locs → k10 v = some out → W p l e (headSpec ws_Mo_fitsSet { frames := 2, cells := 0, slots := 0, locals := 53 }).room s m args below meth c H locs 0 0 (MQ below (QcI D A g out (fun (_ : Unit) => w_Mo g a0 s0 ++ (rest))) args s 0 0 A) (F0 m 10 ls [])) (hk30 : ∀ (v : Int32 × Int32 × Int32 × Int32) (ls : Array Slot) (H : Heap) (locs : List Loc), lv_has ls 7 [(0, .ref (a0 0)), (2, .int v.1), (4, .int v.2.1), (5, .int v.2.2.1), (6, .int v.2.2.2)] → Iw D A (w_Mo g a0 s0 ++ (rest)) H → va_S A s.heap H locs → k30 v = some out → W p l e (headSpec ws_Mo_fitsSet { frames := 2, cells := 0, slots := 0, locals := 53 }).room s m args below meth c H locs 0 0 (MQ below (QcI D A g out (fun (_ : Unit) => w_Mo g a0 s0 ++ (rest))) args s 0 0 A) (F0 m 30 ls [])) (hl : lv_has ls 7 [(0, .ref (a0 0)), (2, .int x2), (4, .int x4), (6, .int x6)]) (hI : Iw D A (w_Mo g a0 s0 ++ (rest)) H) (hS : va_S A s.heap H locs) (h : B_Mo_fitsSet_72 k10 k30 s0 x2 x4 x6 = some out) : W p l e (headSpec ws_Mo_fitsSet { frames := 2, cells := 0, slots := 0, locals := 53 }).room s m args below meth c H locs 0 0 (MQ below (QcI D A g out (fun (_ : Unit) => w_Mo g a0 s0 ++ (rest))) args s 0 0 A) (F0 m 72 ls []) := by
  have X1 := X
  obtain ⟨hx, hb, hml, hown, hts, hr, hlocks, hKK⟩ := X1
  have ht : ∀ w ∈ TB, w.before args s = true := fun w h => hts w (List.mem_cons_of_mem _ h)
  have hK := hKK.1
  unfold B_Mo_fitsSet_72 at h
  refine lv_iconst (v := 0) hx hb d_Mo_fitsSet_72 (by decide) ?_
  exact t_Mo_fitsSet_73 X hk10 hk30 (lv_sub hl [0, 1, 2, 3] rfl) hI hS h
set_option maxRecDepth 100000 in
set_option maxHeartbeats 4000000 in
theorem t_Mo_fitsSet_57 {p : Program} {l : Launch} {e : Env} {s : State} {m : MethodId} {args : Array Value} {below : List Frame} {meth : Method} {c : Code} {D : va_G} {A : Nat → Prop} {g : Nat → ClassId} {rest : va_W} {a0 : Nat → Nat} {ls : Array Slot} {H : Heap} {locs : List Loc} {k10 : Int32 × Int32 × Int32 → Option Int32} {k30 : Int32 × Int32 × Int32 × Int32 → Option Int32} {s0 : S_Mo} {x2 : Int32} {x4 : Int32} {x6 : Int32} {out : Int32} (X : Cx p s m args meth c prog_11_method_52_code 7 ws_Mo_fitsSet R_Mo (some .boolean) D g) (hk10 : ∀ (v : Int32 × Int32 × Int32) (ls : Array Slot) (H : Heap) (locs : List Loc), lv_has ls 7 [(0, .ref (a0 0)), (2, .int v.1), (3, .int v.2.1), (4, .int v.2.2)] → Iw D A (w_Mo g a0 s0 ++ (rest)) H → va_S A s.heap H locs → k10 v = some out → W p l e (headSpec ws_Mo_fitsSet { frames := 2, cells := 0, slots := 0, locals := 53 }).room s m args below meth c H locs 0 0 (MQ below (QcI D A g out (fun (_ : Unit) => w_Mo g a0 s0 ++ (rest))) args s 0 0 A) (F0 m 10 ls [])) (hk30 : ∀ (v : Int32 × Int32 × Int32 × Int32) (ls : Array Slot) (H : Heap) (locs : List Loc), lv_has ls 7 [(0, .ref (a0 0)), (2, .int v.1), (4, .int v.2.1), (5, .int v.2.2.1), (6, .int v.2.2.2)] → Iw D A (w_Mo g a0 s0 ++ (rest)) H → va_S A s.heap H locs → k30 v = some out → W p l e (headSpec ws_Mo_fitsSet { frames := 2, cells := 0, slots := 0, locals := 53 }).room s m args below meth c H locs 0 0 (MQ below (QcI D A g out (fun (_ : Unit) => w_Mo g a0 s0 ++ (rest))) args s 0 0 A) (F0 m 30 ls [])) (hl : lv_has ls 7 [(0, .ref (a0 0)), (2, .int x2), (4, .int x4), (6, .int x6)]) (hI : Iw D A (w_Mo g a0 s0 ++ (rest)) H) (hS : va_S A s.heap H locs) (h : B_Mo_fitsSet_57 k10 k30 s0 x2 x4 x6 = some out) : W p l e (headSpec ws_Mo_fitsSet { frames := 2, cells := 0, slots := 0, locals := 53 }).room s m args below meth c H locs 0 0 (MQ below (QcI D A g out (fun (_ : Unit) => w_Mo g a0 s0 ++ (rest))) args s 0 0 A) (F0 m 57 ls []) := by
  have X1 := X
  obtain ⟨hx, hb, hml, hown, hts, hr, hlocks, hKK⟩ := X1
  have ht : ∀ w ∈ TB, w.before args s = true := fun w h => hts w (List.mem_cons_of_mem _ h)
  have hK := hKK.1
  unfold B_Mo_fitsSet_57 at h
  refine lv_aload_n hx hb d_Mo_fitsSet_57 rfl (lv_at hl 0 rfl) ?_
  refine lv_iload hx hb d_Mo_fitsSet_58 (lv_at hl 2 rfl) ?_
  refine lv_iload hx hb d_Mo_fitsSet_60 (lv_at hl 3 rfl) ?_
  obtain ⟨o1, ho2, h⟩ := bd_s h
  refine cl_i (W1 := fun (_ : Unit) => w_Mo g a0 s0 ++ (rest)) (va_runV (As := [.int x4, .int x6]) (rest := []) ⟨hx, hb, hml, hown, ht⟩ (c_Mo_fitsElement (l := l) (D := D) (A := A) (g := g) (rest := rest) (a0 := a0) ho2) (cwV 2 ht (gd_V m_1156 m_1158 mp_73 m_11 m_1159) rfl rfl rfl (by decide +kernel) ⟨(Nat.le_of_ble_eq_true rfl), (Nat.le_of_ble_eq_true rfl)⟩) (prV (ci := 9) (q0 := 0) hKK hI (List.Perm.refl _) rfl rfl rfl) rfl rfl hl.1 rfl (lv_room (Nat.le_of_ble_eq_true rfl)) d_Mo_fitsSet_62 ⟨(Nat.le_of_ble_eq_true rfl), (Nat.le_of_ble_eq_true rfl)⟩) hS (fun _ => ((List.Perm.refl _)).symm) (fun _ H locs hI hS => ?_)
  have hI : Iw D A (w_Mo g a0 s0 ++ (rest)) H := hI
  refine lv_if_eq (tgt := 72) hx hb d_Mo_fitsSet_65 (by decide) (fun hc => ?_) (fun hc => ?_)
  · have h := it_t h hc
    exact t_Mo_fitsSet_72 X hk10 hk30 (lv_sub hl [0, 1, 2, 3] rfl) hI hS h
  · have h := it_f h hc
    exact t_Mo_fitsSet_68 X hk10 hk30 (lv_sub hl [0, 1, 2, 3] rfl) hI hS h
set_option maxRecDepth 100000 in
set_option maxHeartbeats 4000000 in
theorem t_Mo_fitsSet_40 {p : Program} {l : Launch} {e : Env} {s : State} {m : MethodId} {args : Array Value} {below : List Frame} {meth : Method} {c : Code} {D : va_G} {A : Nat → Prop} {g : Nat → ClassId} {rest : va_W} {a0 : Nat → Nat} {ls : Array Slot} {H : Heap} {locs : List Loc} {k10 : Int32 × Int32 × Int32 → Option Int32} {k30 : Int32 × Int32 × Int32 × Int32 → Option Int32} {s0 : S_Mo} {x2 : Int32} {x4 : Int32} {x6 : Int32} {out : Int32} (X : Cx p s m args meth c prog_11_method_52_code 7 ws_Mo_fitsSet R_Mo (some .boolean) D g) (hk10 : ∀ (v : Int32 × Int32 × Int32) (ls : Array Slot) (H : Heap) (locs : List Loc), lv_has ls 7 [(0, .ref (a0 0)), (2, .int v.1), (3, .int v.2.1), (4, .int v.2.2)] → Iw D A (w_Mo g a0 s0 ++ (rest)) H → va_S A s.heap H locs → k10 v = some out → W p l e (headSpec ws_Mo_fitsSet { frames := 2, cells := 0, slots := 0, locals := 53 }).room s m args below meth c H locs 0 0 (MQ below (QcI D A g out (fun (_ : Unit) => w_Mo g a0 s0 ++ (rest))) args s 0 0 A) (F0 m 10 ls [])) (hk30 : ∀ (v : Int32 × Int32 × Int32 × Int32) (ls : Array Slot) (H : Heap) (locs : List Loc), lv_has ls 7 [(0, .ref (a0 0)), (2, .int v.1), (4, .int v.2.1), (5, .int v.2.2.1), (6, .int v.2.2.2)] → Iw D A (w_Mo g a0 s0 ++ (rest)) H → va_S A s.heap H locs → k30 v = some out → W p l e (headSpec ws_Mo_fitsSet { frames := 2, cells := 0, slots := 0, locals := 53 }).room s m args below meth c H locs 0 0 (MQ below (QcI D A g out (fun (_ : Unit) => w_Mo g a0 s0 ++ (rest))) args s 0 0 A) (F0 m 30 ls [])) (hl : lv_has ls 7 [(0, .ref (a0 0)), (2, .int x2), (4, .int x4), (6, .int x6)]) (hI : Iw D A (w_Mo g a0 s0 ++ (rest)) H) (hS : va_S A s.heap H locs) (h : B_Mo_fitsSet_40 k10 k30 s0 x2 x4 x6 = some out) : W p l e (headSpec ws_Mo_fitsSet { frames := 2, cells := 0, slots := 0, locals := 53 }).room s m args below meth c H locs 0 0 (MQ below (QcI D A g out (fun (_ : Unit) => w_Mo g a0 s0 ++ (rest))) args s 0 0 A) (F0 m 40 ls []) := by
  have X1 := X
  obtain ⟨hx, hb, hml, hown, hts, hr, hlocks, hKK⟩ := X1
  have ht : ∀ w ∈ TB, w.before args s = true := fun w h => hts w (List.mem_cons_of_mem _ h)
  have hK := hKK.1
  unfold B_Mo_fitsSet_40 at h
  refine lv_aload_n hx hb d_Mo_fitsSet_40 rfl (lv_at hl 0 rfl) ?_
  refine gt_Mo_tag hx hb ht hown hK hI (ht _ m_824) d_Mo_fitsSet_41 ?_
  refine lv_iload hx hb d_Mo_fitsSet_44 (lv_at hl 3 rfl) ?_
  by_cases hc1 : (x6 < 0 ∨ 260 ≤ x6.toNatClampNeg)
  · exact no_s (it_t h hc1)
  have h := it_f h hc1
  refine al_Mo_tag hx hb hK hI hc1 d_Mo_fitsSet_46 ?_
  refine lv_aload_n hx hb d_Mo_fitsSet_47 rfl (lv_at hl 0 rfl) ?_
  refine gt_Mo_tag hx hb ht hown hK hI (ht _ m_824) d_Mo_fitsSet_48 ?_
  refine lv_iload hx hb d_Mo_fitsSet_51 (lv_at hl 2 rfl) ?_
  by_cases hc2 : (x4 < 0 ∨ 260 ≤ x4.toNatClampNeg)
  · exact no_s (it_t h hc2)
  have h := it_f h hc2
  refine al_Mo_tag hx hb hK hI hc2 d_Mo_fitsSet_53 ?_
  refine lv_icmp_ne (tgt := 72) hx hb d_Mo_fitsSet_54 (by decide) (fun hc => ?_) (fun hc => ?_)
  · have h := it_f h hc
    exact t_Mo_fitsSet_72 X hk10 hk30 (lv_sub hl [0, 1, 2, 3] rfl) hI hS h
  · have h := it_t h hc
    exact t_Mo_fitsSet_57 X hk10 hk30 (lv_sub hl [0, 1, 2, 3] rfl) hI hS h
set_option maxRecDepth 100000 in
set_option maxHeartbeats 4000000 in
theorem t_Mo_fitsSet_35 {p : Program} {l : Launch} {e : Env} {s : State} {m : MethodId} {args : Array Value} {below : List Frame} {meth : Method} {c : Code} {D : va_G} {A : Nat → Prop} {g : Nat → ClassId} {rest : va_W} {a0 : Nat → Nat} {ls : Array Slot} {H : Heap} {locs : List Loc} {k10 : Int32 × Int32 × Int32 → Option Int32} {k30 : Int32 × Int32 × Int32 × Int32 → Option Int32} {s0 : S_Mo} {x2 : Int32} {x4 : Int32} {x5 : Int32} {x6 : Int32} {out : Int32} (X : Cx p s m args meth c prog_11_method_52_code 7 ws_Mo_fitsSet R_Mo (some .boolean) D g) (hk10 : ∀ (v : Int32 × Int32 × Int32) (ls : Array Slot) (H : Heap) (locs : List Loc), lv_has ls 7 [(0, .ref (a0 0)), (2, .int v.1), (3, .int v.2.1), (4, .int v.2.2)] → Iw D A (w_Mo g a0 s0 ++ (rest)) H → va_S A s.heap H locs → k10 v = some out → W p l e (headSpec ws_Mo_fitsSet { frames := 2, cells := 0, slots := 0, locals := 53 }).room s m args below meth c H locs 0 0 (MQ below (QcI D A g out (fun (_ : Unit) => w_Mo g a0 s0 ++ (rest))) args s 0 0 A) (F0 m 10 ls [])) (hk30 : ∀ (v : Int32 × Int32 × Int32 × Int32) (ls : Array Slot) (H : Heap) (locs : List Loc), lv_has ls 7 [(0, .ref (a0 0)), (2, .int v.1), (4, .int v.2.1), (5, .int v.2.2.1), (6, .int v.2.2.2)] → Iw D A (w_Mo g a0 s0 ++ (rest)) H → va_S A s.heap H locs → k30 v = some out → W p l e (headSpec ws_Mo_fitsSet { frames := 2, cells := 0, slots := 0, locals := 53 }).room s m args below meth c H locs 0 0 (MQ below (QcI D A g out (fun (_ : Unit) => w_Mo g a0 s0 ++ (rest))) args s 0 0 A) (F0 m 30 ls [])) (hl : lv_has ls 7 [(0, .ref (a0 0)), (2, .int x2), (4, .int x4), (5, .int x5), (6, .int x6)]) (hI : Iw D A (w_Mo g a0 s0 ++ (rest)) H) (hS : va_S A s.heap H locs) (h : B_Mo_fitsSet_35 k10 k30 s0 x2 x4 x5 x6 = some out) : W p l e (headSpec ws_Mo_fitsSet { frames := 2, cells := 0, slots := 0, locals := 53 }).room s m args below meth c H locs 0 0 (MQ below (QcI D A g out (fun (_ : Unit) => w_Mo g a0 s0 ++ (rest))) args s 0 0 A) (F0 m 35 ls []) := by
  have X1 := X
  obtain ⟨hx, hb, hml, hown, hts, hr, hlocks, hKK⟩ := X1
  have ht : ∀ w ∈ TB, w.before args s = true := fun w h => hts w (List.mem_cons_of_mem _ h)
  have hK := hKK.1
  unfold B_Mo_fitsSet_35 at h
  refine lv_iload hx hb d_Mo_fitsSet_35 (lv_at hl 3 rfl) ?_
  refine lv_if_ne (tgt := 68) hx hb d_Mo_fitsSet_37 (by decide) (fun hc => ?_) (fun hc => ?_)
  · have h := it_f h hc
    exact t_Mo_fitsSet_68 X hk10 hk30 (lv_sub hl [0, 1, 2, 4] rfl) hI hS h
  · have h := it_t h hc
    exact t_Mo_fitsSet_40 X hk10 hk30 (lv_sub hl [0, 1, 2, 4] rfl) hI hS h
set_option maxRecDepth 100000 in
set_option maxHeartbeats 4000000 in
theorem t_Mo_fitsSet_30 {p : Program} {l : Launch} {e : Env} {s : State} {m : MethodId} {args : Array Value} {below : List Frame} {meth : Method} {c : Code} {D : va_G} {A : Nat → Prop} {g : Nat → ClassId} {rest : va_W} {a0 : Nat → Nat} {ls : Array Slot} {H : Heap} {locs : List Loc} {k10 : Int32 × Int32 × Int32 → Option Int32} {k30 : Int32 × Int32 × Int32 × Int32 → Option Int32} {s0 : S_Mo} {x2 : Int32} {x4 : Int32} {x5 : Int32} {x6 : Int32} {out : Int32} (X : Cx p s m args meth c prog_11_method_52_code 7 ws_Mo_fitsSet R_Mo (some .boolean) D g) (hk10 : ∀ (v : Int32 × Int32 × Int32) (ls : Array Slot) (H : Heap) (locs : List Loc), lv_has ls 7 [(0, .ref (a0 0)), (2, .int v.1), (3, .int v.2.1), (4, .int v.2.2)] → Iw D A (w_Mo g a0 s0 ++ (rest)) H → va_S A s.heap H locs → k10 v = some out → W p l e (headSpec ws_Mo_fitsSet { frames := 2, cells := 0, slots := 0, locals := 53 }).room s m args below meth c H locs 0 0 (MQ below (QcI D A g out (fun (_ : Unit) => w_Mo g a0 s0 ++ (rest))) args s 0 0 A) (F0 m 10 ls [])) (hk30 : ∀ (v : Int32 × Int32 × Int32 × Int32) (ls : Array Slot) (H : Heap) (locs : List Loc), lv_has ls 7 [(0, .ref (a0 0)), (2, .int v.1), (4, .int v.2.1), (5, .int v.2.2.1), (6, .int v.2.2.2)] → Iw D A (w_Mo g a0 s0 ++ (rest)) H → va_S A s.heap H locs → k30 v = some out → W p l e (headSpec ws_Mo_fitsSet { frames := 2, cells := 0, slots := 0, locals := 53 }).room s m args below meth c H locs 0 0 (MQ below (QcI D A g out (fun (_ : Unit) => w_Mo g a0 s0 ++ (rest))) args s 0 0 A) (F0 m 30 ls [])) (hl : lv_has ls 7 [(0, .ref (a0 0)), (2, .int x2), (4, .int x4), (5, .int x5), (6, .int x6)]) (hI : Iw D A (w_Mo g a0 s0 ++ (rest)) H) (hS : va_S A s.heap H locs) (h : B_Mo_fitsSet_30 k10 k30 s0 x2 x4 x5 x6 = some out) : W p l e (headSpec ws_Mo_fitsSet { frames := 2, cells := 0, slots := 0, locals := 53 }).room s m args below meth c H locs 0 0 (MQ below (QcI D A g out (fun (_ : Unit) => w_Mo g a0 s0 ++ (rest))) args s 0 0 A) (F0 m 30 ls []) := by
  have X1 := X
  obtain ⟨hx, hb, hml, hown, hts, hr, hlocks, hKK⟩ := X1
  have ht : ∀ w ∈ TB, w.before args s = true := fun w h => hts w (List.mem_cons_of_mem _ h)
  have hK := hKK.1
  unfold B_Mo_fitsSet_30 at h
  refine lv_iload hx hb d_Mo_fitsSet_30 (lv_at hl 4 rfl) ?_
  refine lv_if_lt (tgt := 87) hx hb d_Mo_fitsSet_32 (by decide) (fun hc => ?_) (fun hc => ?_)
  · have h := it_t h hc
    exact t_Mo_fitsSet_87 X hk10 (lv_sub hl [0, 1, 2, 3] rfl) hI hS h
  · have h := it_f h hc
    exact t_Mo_fitsSet_35 X hk10 hk30 (lv_sub hl [0, 1, 2, 3, 4] rfl) hI hS h
set_option maxRecDepth 100000 in
set_option maxHeartbeats 4000000 in
theorem T_Mo_fitsSet_30 {p : Program} {l : Launch} {e : Env} {s : State} {m : MethodId} {args : Array Value} {below : List Frame} {meth : Method} {c : Code} {D : va_G} {A : Nat → Prop} {g : Nat → ClassId} {rest : va_W} {a0 : Nat → Nat} {ls : Array Slot} {H : Heap} {locs : List Loc} {k10 : Int32 × Int32 × Int32 → Option Int32} {s0 : S_Mo} {x2 : Int32} {x4 : Int32} {x5 : Int32} {x6 : Int32} {out : Int32} (X : Cx p s m args meth c prog_11_method_52_code 7 ws_Mo_fitsSet R_Mo (some .boolean) D g) (hk10 : ∀ (v : Int32 × Int32 × Int32) (ls : Array Slot) (H : Heap) (locs : List Loc), lv_has ls 7 [(0, .ref (a0 0)), (2, .int v.1), (3, .int v.2.1), (4, .int v.2.2)] → Iw D A (w_Mo g a0 s0 ++ (rest)) H → va_S A s.heap H locs → k10 v = some out → W p l e (headSpec ws_Mo_fitsSet { frames := 2, cells := 0, slots := 0, locals := 53 }).room s m args below meth c H locs 0 0 (MQ below (QcI D A g out (fun (_ : Unit) => w_Mo g a0 s0 ++ (rest))) args s 0 0 A) (F0 m 10 ls [])) (hl : lv_has ls 7 [(0, .ref (a0 0)), (2, .int x2), (4, .int x4), (5, .int x5), (6, .int x6)]) (hI : Iw D A (w_Mo g a0 s0 ++ (rest)) H) (hS : va_S A s.heap H locs) (h : L_Mo_fitsSet_30 k10 s0 (x2, x4, x5, x6) = some out) : W p l e (headSpec ws_Mo_fitsSet { frames := 2, cells := 0, slots := 0, locals := 53 }).room s m args below meth c H locs 0 0 (MQ below (QcI D A g out (fun (_ : Unit) => w_Mo g a0 s0 ++ (rest))) args s 0 0 A) (F0 m 30 ls []) := by
  unfold L_Mo_fitsSet_30 at h
  exact lp_ind (P := fun v => ∀ (ls : Array Slot) (H : Heap) (locs : List Loc), lv_has ls 7 [(0, .ref (a0 0)), (2, .int v.1), (4, .int v.2.1), (5, .int v.2.2.1), (6, .int v.2.2.2)] → Iw D A (w_Mo g a0 s0 ++ (rest)) H → va_S A s.heap H locs → W p l e (headSpec ws_Mo_fitsSet { frames := 2, cells := 0, slots := 0, locals := 53 }).room s m args below meth c H locs 0 0 (MQ below (QcI D A g out (fun (_ : Unit) => w_Mo g a0 s0 ++ (rest))) args s 0 0 A) (F0 m 30 ls [])) (fun k v ih hb ls H locs  hl hI hS => t_Mo_fitsSet_30 X hk10 (fun v' ls H locs  hl hI hS h' => ih v' h' ls H locs  hl hI hS) hl hI hS hb) FU _ h ls H locs  hl hI hS
set_option maxRecDepth 100000 in
set_option maxHeartbeats 4000000 in
theorem t_Mo_fitsSet_19 {p : Program} {l : Launch} {e : Env} {s : State} {m : MethodId} {args : Array Value} {below : List Frame} {meth : Method} {c : Code} {D : va_G} {A : Nat → Prop} {g : Nat → ClassId} {rest : va_W} {a0 : Nat → Nat} {ls : Array Slot} {H : Heap} {locs : List Loc} {k10 : Int32 × Int32 × Int32 → Option Int32} {s0 : S_Mo} {x2 : Int32} {x4 : Int32} {out : Int32} (X : Cx p s m args meth c prog_11_method_52_code 7 ws_Mo_fitsSet R_Mo (some .boolean) D g) (hk10 : ∀ (v : Int32 × Int32 × Int32) (ls : Array Slot) (H : Heap) (locs : List Loc), lv_has ls 7 [(0, .ref (a0 0)), (2, .int v.1), (3, .int v.2.1), (4, .int v.2.2)] → Iw D A (w_Mo g a0 s0 ++ (rest)) H → va_S A s.heap H locs → k10 v = some out → W p l e (headSpec ws_Mo_fitsSet { frames := 2, cells := 0, slots := 0, locals := 53 }).room s m args below meth c H locs 0 0 (MQ below (QcI D A g out (fun (_ : Unit) => w_Mo g a0 s0 ++ (rest))) args s 0 0 A) (F0 m 10 ls [])) (hl : lv_has ls 7 [(0, .ref (a0 0)), (2, .int x2), (4, .int x4)]) (hI : Iw D A (w_Mo g a0 s0 ++ (rest)) H) (hS : va_S A s.heap H locs) (h : B_Mo_fitsSet_19 k10 s0 x2 x4 = some out) : W p l e (headSpec ws_Mo_fitsSet { frames := 2, cells := 0, slots := 0, locals := 53 }).room s m args below meth c H locs 0 0 (MQ below (QcI D A g out (fun (_ : Unit) => w_Mo g a0 s0 ++ (rest))) args s 0 0 A) (F0 m 19 ls []) := by
  have X1 := X
  obtain ⟨hx, hb, hml, hown, hts, hr, hlocks, hKK⟩ := X1
  have ht : ∀ w ∈ TB, w.before args s = true := fun w h => hts w (List.mem_cons_of_mem _ h)
  have hK := hKK.1
  unfold B_Mo_fitsSet_19 at h
  refine lv_iconst (v := 0) hx hb d_Mo_fitsSet_19 (by decide) ?_
  refine lv_istore hx hb d_Mo_fitsSet_20 hl (Nat.le_of_ble_eq_true rfl) rfl (fun ls hl => ?_)
  have hl : lv_has ls 7 [(5, .int (0 : Int32)), (0, .ref (a0 0)), (2, .int x2), (4, .int x4)] := hl
  refine lv_aload_n hx hb d_Mo_fitsSet_22 rfl (lv_at hl 1 rfl) ?_
  refine gt_Mo_first hx hb ht hown hK hI (ht _ m_828) d_Mo_fitsSet_23 ?_
  refine lv_iload_n hx hb d_Mo_fitsSet_26 rfl (lv_at hl 2 rfl) ?_
  by_cases hc1 : (x2 < 0 ∨ 260 ≤ x2.toNatClampNeg)
  · exact no_s (it_t h hc1)
  have h := it_f h hc1
  refine al_Mo_first hx hb hK hI hc1 d_Mo_fitsSet_27 ?_
  refine lv_istore hx hb d_Mo_fitsSet_28 hl (Nat.le_of_ble_eq_true rfl) rfl (fun ls hl => ?_)
  have hl : lv_has ls 7 [(6, .int ((Mo_first s0) x2.toNatClampNeg)), (5, .int (0 : Int32)), (0, .ref (a0 0)), (2, .int x2), (4, .int x4)] := hl
  exact T_Mo_fitsSet_30 X hk10 (lv_sub hl [2, 3, 4, 1, 0] rfl) hI hS h
set_option maxRecDepth 100000 in
set_option maxHeartbeats 4000000 in
theorem t_Mo_fitsSet_15 {p : Program} {l : Launch} {e : Env} {s : State} {m : MethodId} {args : Array Value} {below : List Frame} {meth : Method} {c : Code} {D : va_G} {A : Nat → Prop} {g : Nat → ClassId} {rest : va_W} {a0 : Nat → Nat} {ls : Array Slot} {H : Heap} {locs : List Loc} {k10 : Int32 × Int32 × Int32 → Option Int32} {s0 : S_Mo} {x2 : Int32} {x3 : Int32} {x4 : Int32} {out : Int32} (X : Cx p s m args meth c prog_11_method_52_code 7 ws_Mo_fitsSet R_Mo (some .boolean) D g) (hk10 : ∀ (v : Int32 × Int32 × Int32) (ls : Array Slot) (H : Heap) (locs : List Loc), lv_has ls 7 [(0, .ref (a0 0)), (2, .int v.1), (3, .int v.2.1), (4, .int v.2.2)] → Iw D A (w_Mo g a0 s0 ++ (rest)) H → va_S A s.heap H locs → k10 v = some out → W p l e (headSpec ws_Mo_fitsSet { frames := 2, cells := 0, slots := 0, locals := 53 }).room s m args below meth c H locs 0 0 (MQ below (QcI D A g out (fun (_ : Unit) => w_Mo g a0 s0 ++ (rest))) args s 0 0 A) (F0 m 10 ls [])) (hl : lv_has ls 7 [(0, .ref (a0 0)), (2, .int x2), (3, .int x3), (4, .int x4)]) (hI : Iw D A (w_Mo g a0 s0 ++ (rest)) H) (hS : va_S A s.heap H locs) (h : B_Mo_fitsSet_15 k10 s0 x2 x3 x4 = some out) : W p l e (headSpec ws_Mo_fitsSet { frames := 2, cells := 0, slots := 0, locals := 53 }).room s m args below meth c H locs 0 0 (MQ below (QcI D A g out (fun (_ : Unit) => w_Mo g a0 s0 ++ (rest))) args s 0 0 A) (F0 m 15 ls []) := by
  have X1 := X
  obtain ⟨hx, hb, hml, hown, hts, hr, hlocks, hKK⟩ := X1
  have ht : ∀ w ∈ TB, w.before args s = true := fun w h => hts w (List.mem_cons_of_mem _ h)
  have hK := hKK.1
  unfold B_Mo_fitsSet_15 at h
  refine lv_iload_n hx hb d_Mo_fitsSet_15 rfl (lv_at hl 2 rfl) ?_
  refine lv_if_eq (tgt := 102) hx hb d_Mo_fitsSet_16 (by decide) (fun hc => ?_) (fun hc => ?_)
  · have h := it_t h hc
    exact t_Mo_fitsSet_102 X (lv_sub hl [2] rfl) hI hS h
  · have h := it_f h hc
    exact t_Mo_fitsSet_19 X hk10 (lv_sub hl [0, 1, 3] rfl) hI hS h
set_option maxRecDepth 100000 in
set_option maxHeartbeats 4000000 in
theorem t_Mo_fitsSet_10 {p : Program} {l : Launch} {e : Env} {s : State} {m : MethodId} {args : Array Value} {below : List Frame} {meth : Method} {c : Code} {D : va_G} {A : Nat → Prop} {g : Nat → ClassId} {rest : va_W} {a0 : Nat → Nat} {ls : Array Slot} {H : Heap} {locs : List Loc} {k10 : Int32 × Int32 × Int32 → Option Int32} {s0 : S_Mo} {x2 : Int32} {x3 : Int32} {x4 : Int32} {out : Int32} (X : Cx p s m args meth c prog_11_method_52_code 7 ws_Mo_fitsSet R_Mo (some .boolean) D g) (hk10 : ∀ (v : Int32 × Int32 × Int32) (ls : Array Slot) (H : Heap) (locs : List Loc), lv_has ls 7 [(0, .ref (a0 0)), (2, .int v.1), (3, .int v.2.1), (4, .int v.2.2)] → Iw D A (w_Mo g a0 s0 ++ (rest)) H → va_S A s.heap H locs → k10 v = some out → W p l e (headSpec ws_Mo_fitsSet { frames := 2, cells := 0, slots := 0, locals := 53 }).room s m args below meth c H locs 0 0 (MQ below (QcI D A g out (fun (_ : Unit) => w_Mo g a0 s0 ++ (rest))) args s 0 0 A) (F0 m 10 ls [])) (hl : lv_has ls 7 [(0, .ref (a0 0)), (2, .int x2), (3, .int x3), (4, .int x4)]) (hI : Iw D A (w_Mo g a0 s0 ++ (rest)) H) (hS : va_S A s.heap H locs) (h : B_Mo_fitsSet_10 k10 s0 x2 x3 x4 = some out) : W p l e (headSpec ws_Mo_fitsSet { frames := 2, cells := 0, slots := 0, locals := 53 }).room s m args below meth c H locs 0 0 (MQ below (QcI D A g out (fun (_ : Unit) => w_Mo g a0 s0 ++ (rest))) args s 0 0 A) (F0 m 10 ls []) := by
  have X1 := X
  obtain ⟨hx, hb, hml, hown, hts, hr, hlocks, hKK⟩ := X1
  have ht : ∀ w ∈ TB, w.before args s = true := fun w h => hts w (List.mem_cons_of_mem _ h)
  have hK := hKK.1
  unfold B_Mo_fitsSet_10 at h
  refine lv_iload hx hb d_Mo_fitsSet_10 (lv_at hl 3 rfl) ?_
  refine lv_if_lt (tgt := 102) hx hb d_Mo_fitsSet_12 (by decide) (fun hc => ?_) (fun hc => ?_)
  · have h := it_t h hc
    exact t_Mo_fitsSet_102 X (lv_sub hl [2] rfl) hI hS h
  · have h := it_f h hc
    exact t_Mo_fitsSet_15 X hk10 (lv_sub hl [0, 1, 2, 3] rfl) hI hS h
set_option maxRecDepth 100000 in
set_option maxHeartbeats 4000000 in
theorem T_Mo_fitsSet_10 {p : Program} {l : Launch} {e : Env} {s : State} {m : MethodId} {args : Array Value} {below : List Frame} {meth : Method} {c : Code} {D : va_G} {A : Nat → Prop} {g : Nat → ClassId} {rest : va_W} {a0 : Nat → Nat} {ls : Array Slot} {H : Heap} {locs : List Loc} {s0 : S_Mo} {x2 : Int32} {x3 : Int32} {x4 : Int32} {out : Int32} (X : Cx p s m args meth c prog_11_method_52_code 7 ws_Mo_fitsSet R_Mo (some .boolean) D g) (hl : lv_has ls 7 [(0, .ref (a0 0)), (2, .int x2), (3, .int x3), (4, .int x4)]) (hI : Iw D A (w_Mo g a0 s0 ++ (rest)) H) (hS : va_S A s.heap H locs) (h : L_Mo_fitsSet_10  s0 (x2, x3, x4) = some out) : W p l e (headSpec ws_Mo_fitsSet { frames := 2, cells := 0, slots := 0, locals := 53 }).room s m args below meth c H locs 0 0 (MQ below (QcI D A g out (fun (_ : Unit) => w_Mo g a0 s0 ++ (rest))) args s 0 0 A) (F0 m 10 ls []) := by
  unfold L_Mo_fitsSet_10 at h
  exact lp_ind (P := fun v => ∀ (ls : Array Slot) (H : Heap) (locs : List Loc), lv_has ls 7 [(0, .ref (a0 0)), (2, .int v.1), (3, .int v.2.1), (4, .int v.2.2)] → Iw D A (w_Mo g a0 s0 ++ (rest)) H → va_S A s.heap H locs → W p l e (headSpec ws_Mo_fitsSet { frames := 2, cells := 0, slots := 0, locals := 53 }).room s m args below meth c H locs 0 0 (MQ below (QcI D A g out (fun (_ : Unit) => w_Mo g a0 s0 ++ (rest))) args s 0 0 A) (F0 m 10 ls [])) (fun k v ih hb ls H locs  hl hI hS => t_Mo_fitsSet_10 X  (fun v' ls H locs  hl hI hS h' => ih v' h' ls H locs  hl hI hS) hl hI hS hb) FU _ h ls H locs  hl hI hS
set_option maxRecDepth 100000 in
set_option maxHeartbeats 4000000 in
theorem t_Mo_fitsSet_0 {p : Program} {l : Launch} {e : Env} {s : State} {m : MethodId} {args : Array Value} {below : List Frame} {meth : Method} {c : Code} {D : va_G} {A : Nat → Prop} {g : Nat → ClassId} {rest : va_W} {a0 : Nat → Nat} {ls : Array Slot} {H : Heap} {locs : List Loc} {s0 : S_Mo} {x1 : Int32} {x2 : Int32} {out : Int32} (X : Cx p s m args meth c prog_11_method_52_code 7 ws_Mo_fitsSet R_Mo (some .boolean) D g) (hl : lv_has ls 7 [(0, .ref (a0 0)), (1, .int x1), (2, .int x2)]) (hI : Iw D A (w_Mo g a0 s0 ++ (rest)) H) (hS : va_S A s.heap H locs) (h : B_Mo_fitsSet_0  s0 x1 x2 = some out) : W p l e (headSpec ws_Mo_fitsSet { frames := 2, cells := 0, slots := 0, locals := 53 }).room s m args below meth c H locs 0 0 (MQ below (QcI D A g out (fun (_ : Unit) => w_Mo g a0 s0 ++ (rest))) args s 0 0 A) (F0 m 0 ls []) := by
  have X1 := X
  obtain ⟨hx, hb, hml, hown, hts, hr, hlocks, hKK⟩ := X1
  have ht : ∀ w ∈ TB, w.before args s = true := fun w h => hts w (List.mem_cons_of_mem _ h)
  have hK := hKK.1
  unfold B_Mo_fitsSet_0 at h
  refine lv_iconst (v := 1) hx hb d_Mo_fitsSet_0 (by decide) ?_
  refine lv_istore_n hx hb d_Mo_fitsSet_1 rfl hl (Nat.le_of_ble_eq_true rfl) rfl (fun ls hl => ?_)
  have hl : lv_has ls 7 [(3, .int (1 : Int32)), (0, .ref (a0 0)), (1, .int x1), (2, .int x2)] := hl
  refine lv_aload_n hx hb d_Mo_fitsSet_2 rfl (lv_at hl 1 rfl) ?_
  refine gt_Mo_first hx hb ht hown hK hI (ht _ m_828) d_Mo_fitsSet_3 ?_
  refine lv_iload_n hx hb d_Mo_fitsSet_6 rfl (lv_at hl 2 rfl) ?_
  by_cases hc1 : (x1 < 0 ∨ 260 ≤ x1.toNatClampNeg)
  · exact no_s (it_t h hc1)
  have h := it_f h hc1
  refine al_Mo_first hx hb hK hI hc1 d_Mo_fitsSet_7 ?_
  refine lv_istore hx hb d_Mo_fitsSet_8 hl (Nat.le_of_ble_eq_true rfl) rfl (fun ls hl => ?_)
  have hl : lv_has ls 7 [(4, .int ((Mo_first s0) x1.toNatClampNeg)), (3, .int (1 : Int32)), (0, .ref (a0 0)), (1, .int x1), (2, .int x2)] := hl
  exact T_Mo_fitsSet_10 X (lv_sub hl [2, 4, 1, 0] rfl) hI hS h
set_option maxRecDepth 100000 in
set_option maxHeartbeats 4000000 in
theorem c_Mo_fitsSet {l : Launch} {D : va_G} {A : Nat → Prop} {g : Nat → ClassId} {rest : va_W} {a0 : Nat → Nat} {s0 : S_Mo} {x1 : Int32} {x2 : Int32} {out : Int32} (h : F_Mo_fitsSet s0 x1 x2 = some out) : Met l y_Mo_fitsSet ws_Mo_fitsSet { frames := 2, cells := 0, slots := 0, locals := 53 } (PcW D A g [.ref (a0 0), .int x1, .int x2] (w_Mo g a0 s0 ++ (rest))) (QcI D A g out (fun (_ : Unit) => w_Mo g a0 s0 ++ (rest))) 0 0 A := by
  refine Met.ofW (cc := prog_11_method_52_code) (maxL := 7) (ret := (some .boolean)) (by decide) rfl ?_
  intro p e s m args below meth c s₁ B hml hv
  obtain ⟨rfl, hI, hK⟩ := hv
  have hl := lv_entry [.ref (a0 0), .int x1, .int x2] (n := 7) (Nat.le_of_ble_eq_true rfl)
  rw [lg_entry_eq]
  generalize (lg_sl [.ref (a0 0), .int x1, .int x2] ++ List.replicate (7 - (lg_sl [.ref (a0 0), .int x1, .int x2]).length) Slot.unset).toArray = ls at hl ⊢
  have hl : lv_has ls 7 [(0, .ref (a0 0)), (1, .int x1), (2, .int x2)] := hl
  exact t_Mo_fitsSet_0 ⟨B.exec, B.bytes, hml, findClass_of_methodNamed B.named, atoms_spec (ws := ws_Mo_fitsSet) B.pre, B.returns, B.notSynchronized, hK⟩ (lv_sub hl [0, 1, 2] rfl) hI va_S.rf h
def ws_Mo_sets : List Cond := .code y_Mo_sets prog_11_method_50_code 4 (some .int) :: TB
def B_Mo_sets_54 (s0 : S_Mo) (x2 : Int32) : Option (Int32 × S_Mo) :=
  some (x2, s0)
def B_Mo_sets_46 (k8 : S_Mo × Int32 × Int32 × Int32 → Option (Int32 × S_Mo)) (s0 : S_Mo) (x1 : Int32) (x3 : Int32) (y0 : Int32) (y1 : Int32) : Option (Int32 × S_Mo) :=
  (k8 (s0, x1, (y1 + y0), (x3 + 1)))
def B_Mo_sets_45 (k8 : S_Mo × Int32 × Int32 × Int32 → Option (Int32 × S_Mo)) (s0 : S_Mo) (x1 : Int32) (x3 : Int32) (y0 : Int32) : Option (Int32 × S_Mo) :=
  (B_Mo_sets_46 k8 s0 x1 x3 (0 : Int32) y0)
def B_Mo_sets_41 (k8 : S_Mo × Int32 × Int32 × Int32 → Option (Int32 × S_Mo)) (s0 : S_Mo) (x1 : Int32) (x3 : Int32) (y0 : Int32) : Option (Int32 × S_Mo) :=
  (B_Mo_sets_46 k8 s0 x1 x3 (1 : Int32) y0)
def B_Mo_sets_24 (k8 : S_Mo × Int32 × Int32 × Int32 → Option (Int32 × S_Mo)) (s0 : S_Mo) (x1 : Int32) (x2 : Int32) (x3 : Int32) : Option (Int32 × S_Mo) :=
  (if (x3 < 0 ∨ 260 ≤ x3.toNatClampNeg) then none else (if (x3 < 0 ∨ 260 ≤ x3.toNatClampNeg) then none else (if ((Mo_kind (Mo_set_number s0 (upd (Mo_number s0) x3.toNatClampNeg x2))) x3.toNatClampNeg) = 0 then (B_Mo_sets_41 k8 (Mo_set_number s0 (upd (Mo_number s0) x3.toNatClampNeg x2)) x1 x3 x2) else (B_Mo_sets_45 k8 (Mo_set_number s0 (upd (Mo_number s0) x3.toNatClampNeg x2)) x1 x3 x2))))
def B_Mo_sets_8 (k8 : S_Mo × Int32 × Int32 × Int32 → Option (Int32 × S_Mo)) (s0 : S_Mo) (x1 : Int32) (x2 : Int32) (x3 : Int32) : Option (Int32 × S_Mo) :=
  (if (x1 < 0 ∨ 2 ≤ x1.toNatClampNeg) then none else (if (((130 : Int32) * x1) + ((Mo_count s0) x1.toNatClampNeg)) ≤ x3 then (B_Mo_sets_54 s0 x2) else (B_Mo_sets_24 k8 s0 x1 x2 x3)))
def L_Mo_sets_8 (v : S_Mo × Int32 × Int32 × Int32) : Option (Int32 × S_Mo) := lp (fun k8 v => B_Mo_sets_8  k8  v.1 v.2.1 v.2.2.1 v.2.2.2) FU v
def B_Mo_sets_0 (s0 : S_Mo) (x1 : Int32) : Option (Int32 × S_Mo) :=
  (L_Mo_sets_8 (s0, x1, (0 : Int32), ((130 : Int32) * x1)))
def F_Mo_sets (s0 : S_Mo) (x1 : Int32) : Option (Int32 × S_Mo) := B_Mo_sets_0 s0 x1
set_option maxRecDepth 100000 in
set_option maxHeartbeats 4000000 in
theorem t_Mo_sets_54 {p : Program} {l : Launch} {e : Env} {s : State} {m : MethodId} {args : Array Value} {below : List Frame} {meth : Method} {c : Code} {D : va_G} {A : Nat → Prop} {g : Nat → ClassId} {rest : va_W} {a0 : Nat → Nat} {ls : Array Slot} {H : Heap} {locs : List Loc} {s0 : S_Mo} {x2 : Int32} {out : Int32 × S_Mo} (X : Cx p s m args meth c prog_11_method_50_code 4 ws_Mo_sets R_Mo (some .int) D g) (hl : lv_has ls 4 [(2, .int x2)]) (hI : Iw D A (w_Mo g a0 s0 ++ (rest)) H) (hS : va_S A s.heap H locs) (h : B_Mo_sets_54  s0 x2 = some out) : W p l e (headSpec ws_Mo_sets { frames := 0, cells := 0, slots := 0, locals := 0 }).room s m args below meth c H locs 0 0 (MQ below (QcI D A g out.1 (fun (_ : Unit) => w_Mo g a0 out.2 ++ (rest))) args s 0 0 A) (F0 m 54 ls []) := by
  have X1 := X
  obtain ⟨hx, hb, hml, hown, hts, hr, hlocks, hKK⟩ := X1
  have ht : ∀ w ∈ TB, w.before args s = true := fun w h => hts w (List.mem_cons_of_mem _ h)
  have hK := hKK.1
  unfold B_Mo_sets_54 at h
  refine lv_iload_n hx hb d_Mo_sets_54 rfl (lv_at hl 0 rfl) ?_
  have h9 := Option.some.inj h
  subst h9
  exact W.iret (v := x2) hx hb hr (fun t ht hW => ⟨⟨_, (), rfl, rfl, ⟨by rw [ht]; exact hI, hKK.moved hW⟩⟩, hS.F ht⟩) hS.2.2 d_Mo_sets_55
set_option maxRecDepth 100000 in
set_option maxHeartbeats 4000000 in
theorem t_Mo_sets_46 {p : Program} {l : Launch} {e : Env} {s : State} {m : MethodId} {args : Array Value} {below : List Frame} {meth : Method} {c : Code} {D : va_G} {A : Nat → Prop} {g : Nat → ClassId} {rest : va_W} {a0 : Nat → Nat} {ls : Array Slot} {H : Heap} {locs : List Loc} {k8 : S_Mo × Int32 × Int32 × Int32 → Option (Int32 × S_Mo)} {s0 : S_Mo} {x1 : Int32} {x3 : Int32} {y0 : Int32} {y1 : Int32} {out : Int32 × S_Mo} (X : Cx p s m args meth c prog_11_method_50_code 4 ws_Mo_sets R_Mo (some .int) D g) (hk8 : ∀ (v : S_Mo × Int32 × Int32 × Int32) (ls : Array Slot) (H : Heap) (locs : List Loc), lv_has ls 4 [(0, .ref (a0 0)), (1, .int v.2.1), (2, .int v.2.2.1), (3, .int v.2.2.2)] → Iw D A (w_Mo g a0 v.1 ++ (rest)) H → va_S A s.heap H locs → k8 v = some out → W p l e (headSpec ws_Mo_sets { frames := 0, cells := 0, slots := 0, locals := 0 }).room s m args below meth c H locs 0 0 (MQ below (QcI D A g out.1 (fun (_ : Unit) => w_Mo g a0 out.2 ++ (rest))) args s 0 0 A) (F0 m 8 ls [])) (hl : lv_has ls 4 [(0, .ref (a0 0)), (1, .int x1), (3, .int x3)]) (hI : Iw D A (w_Mo g a0 s0 ++ (rest)) H) (hS : va_S A s.heap H locs) (h : B_Mo_sets_46 k8 s0 x1 x3 y0 y1 = some out) : W p l e (headSpec ws_Mo_sets { frames := 0, cells := 0, slots := 0, locals := 0 }).room s m args below meth c H locs 0 0 (MQ below (QcI D A g out.1 (fun (_ : Unit) => w_Mo g a0 out.2 ++ (rest))) args s 0 0 A) (F0 m 46 ls [.int y0, .int y1]) := by
  have X1 := X
  obtain ⟨hx, hb, hml, hown, hts, hr, hlocks, hKK⟩ := X1
  have ht : ∀ w ∈ TB, w.before args s = true := fun w h => hts w (List.mem_cons_of_mem _ h)
  have hK := hKK.1
  unfold B_Mo_sets_46 at h
  refine lv_iadd hx hb d_Mo_sets_46 ?_
  refine lv_istore_n hx hb d_Mo_sets_47 rfl hl (Nat.le_of_ble_eq_true rfl) rfl (fun ls hl => ?_)
  have hl : lv_has ls 4 [(2, .int (y1 + y0)), (0, .ref (a0 0)), (1, .int x1), (3, .int x3)] := hl
  refine lv_iinc (k := 3) (v := (x3 + 1)) hx hb d_Mo_sets_48 hl rfl (congrArg (fun z => x3 + z) (by decide)) (Nat.le_of_ble_eq_true rfl) rfl (fun ls hl => ?_)
  have hl : lv_has ls 4 [(3, .int (x3 + 1)), (2, .int (y1 + y0)), (0, .ref (a0 0)), (1, .int x1)] := hl
  refine lv_goto (tgt := 8) hx hb d_Mo_sets_51 (by decide) ?_
  exact hk8 (s0, x1, (y1 + y0), (x3 + 1)) _ _ _ (lv_sub hl [2, 3, 1, 0] rfl) hI hS h
set_option maxRecDepth 100000 in
set_option maxHeartbeats 4000000 in
theorem t_Mo_sets_45 {p : Program} {l : Launch} {e : Env} {s : State} {m : MethodId} {args : Array Value} {below : List Frame} {meth : Method} {c : Code} {D : va_G} {A : Nat → Prop} {g : Nat → ClassId} {rest : va_W} {a0 : Nat → Nat} {ls : Array Slot} {H : Heap} {locs : List Loc} {k8 : S_Mo × Int32 × Int32 × Int32 → Option (Int32 × S_Mo)} {s0 : S_Mo} {x1 : Int32} {x3 : Int32} {y0 : Int32} {out : Int32 × S_Mo} (X : Cx p s m args meth c prog_11_method_50_code 4 ws_Mo_sets R_Mo (some .int) D g) (hk8 : ∀ (v : S_Mo × Int32 × Int32 × Int32) (ls : Array Slot) (H : Heap) (locs : List Loc), lv_has ls 4 [(0, .ref (a0 0)), (1, .int v.2.1), (2, .int v.2.2.1), (3, .int v.2.2.2)] → Iw D A (w_Mo g a0 v.1 ++ (rest)) H → va_S A s.heap H locs → k8 v = some out → W p l e (headSpec ws_Mo_sets { frames := 0, cells := 0, slots := 0, locals := 0 }).room s m args below meth c H locs 0 0 (MQ below (QcI D A g out.1 (fun (_ : Unit) => w_Mo g a0 out.2 ++ (rest))) args s 0 0 A) (F0 m 8 ls [])) (hl : lv_has ls 4 [(0, .ref (a0 0)), (1, .int x1), (3, .int x3)]) (hI : Iw D A (w_Mo g a0 s0 ++ (rest)) H) (hS : va_S A s.heap H locs) (h : B_Mo_sets_45 k8 s0 x1 x3 y0 = some out) : W p l e (headSpec ws_Mo_sets { frames := 0, cells := 0, slots := 0, locals := 0 }).room s m args below meth c H locs 0 0 (MQ below (QcI D A g out.1 (fun (_ : Unit) => w_Mo g a0 out.2 ++ (rest))) args s 0 0 A) (F0 m 45 ls [.int y0]) := by
  have X1 := X
  obtain ⟨hx, hb, hml, hown, hts, hr, hlocks, hKK⟩ := X1
  have ht : ∀ w ∈ TB, w.before args s = true := fun w h => hts w (List.mem_cons_of_mem _ h)
  have hK := hKK.1
  unfold B_Mo_sets_45 at h
  refine lv_iconst (v := 0) hx hb d_Mo_sets_45 (by decide) ?_
  exact t_Mo_sets_46 X hk8 (lv_sub hl [0, 1, 2] rfl) hI hS h
set_option maxRecDepth 100000 in
set_option maxHeartbeats 4000000 in
theorem t_Mo_sets_41 {p : Program} {l : Launch} {e : Env} {s : State} {m : MethodId} {args : Array Value} {below : List Frame} {meth : Method} {c : Code} {D : va_G} {A : Nat → Prop} {g : Nat → ClassId} {rest : va_W} {a0 : Nat → Nat} {ls : Array Slot} {H : Heap} {locs : List Loc} {k8 : S_Mo × Int32 × Int32 × Int32 → Option (Int32 × S_Mo)} {s0 : S_Mo} {x1 : Int32} {x3 : Int32} {y0 : Int32} {out : Int32 × S_Mo} (X : Cx p s m args meth c prog_11_method_50_code 4 ws_Mo_sets R_Mo (some .int) D g) (hk8 : ∀ (v : S_Mo × Int32 × Int32 × Int32) (ls : Array Slot) (H : Heap) (locs : List Loc), lv_has ls 4 [(0, .ref (a0 0)), (1, .int v.2.1), (2, .int v.2.2.1), (3, .int v.2.2.2)] → Iw D A (w_Mo g a0 v.1 ++ (rest)) H → va_S A s.heap H locs → k8 v = some out → W p l e (headSpec ws_Mo_sets { frames := 0, cells := 0, slots := 0, locals := 0 }).room s m args below meth c H locs 0 0 (MQ below (QcI D A g out.1 (fun (_ : Unit) => w_Mo g a0 out.2 ++ (rest))) args s 0 0 A) (F0 m 8 ls [])) (hl : lv_has ls 4 [(0, .ref (a0 0)), (1, .int x1), (3, .int x3)]) (hI : Iw D A (w_Mo g a0 s0 ++ (rest)) H) (hS : va_S A s.heap H locs) (h : B_Mo_sets_41 k8 s0 x1 x3 y0 = some out) : W p l e (headSpec ws_Mo_sets { frames := 0, cells := 0, slots := 0, locals := 0 }).room s m args below meth c H locs 0 0 (MQ below (QcI D A g out.1 (fun (_ : Unit) => w_Mo g a0 out.2 ++ (rest))) args s 0 0 A) (F0 m 41 ls [.int y0]) := by
  have X1 := X
  obtain ⟨hx, hb, hml, hown, hts, hr, hlocks, hKK⟩ := X1
  have ht : ∀ w ∈ TB, w.before args s = true := fun w h => hts w (List.mem_cons_of_mem _ h)
  have hK := hKK.1
  unfold B_Mo_sets_41 at h
  refine lv_iconst (v := 1) hx hb d_Mo_sets_41 (by decide) ?_
  refine lv_goto (tgt := 46) hx hb d_Mo_sets_42 (by decide) ?_
  exact t_Mo_sets_46 X hk8 (lv_sub hl [0, 1, 2] rfl) hI hS h
set_option maxRecDepth 100000 in
set_option maxHeartbeats 4000000 in
theorem t_Mo_sets_24 {p : Program} {l : Launch} {e : Env} {s : State} {m : MethodId} {args : Array Value} {below : List Frame} {meth : Method} {c : Code} {D : va_G} {A : Nat → Prop} {g : Nat → ClassId} {rest : va_W} {a0 : Nat → Nat} {ls : Array Slot} {H : Heap} {locs : List Loc} {k8 : S_Mo × Int32 × Int32 × Int32 → Option (Int32 × S_Mo)} {s0 : S_Mo} {x1 : Int32} {x2 : Int32} {x3 : Int32} {out : Int32 × S_Mo} (X : Cx p s m args meth c prog_11_method_50_code 4 ws_Mo_sets R_Mo (some .int) D g) (hk8 : ∀ (v : S_Mo × Int32 × Int32 × Int32) (ls : Array Slot) (H : Heap) (locs : List Loc), lv_has ls 4 [(0, .ref (a0 0)), (1, .int v.2.1), (2, .int v.2.2.1), (3, .int v.2.2.2)] → Iw D A (w_Mo g a0 v.1 ++ (rest)) H → va_S A s.heap H locs → k8 v = some out → W p l e (headSpec ws_Mo_sets { frames := 0, cells := 0, slots := 0, locals := 0 }).room s m args below meth c H locs 0 0 (MQ below (QcI D A g out.1 (fun (_ : Unit) => w_Mo g a0 out.2 ++ (rest))) args s 0 0 A) (F0 m 8 ls [])) (hl : lv_has ls 4 [(0, .ref (a0 0)), (1, .int x1), (2, .int x2), (3, .int x3)]) (hI : Iw D A (w_Mo g a0 s0 ++ (rest)) H) (hS : va_S A s.heap H locs) (h : B_Mo_sets_24 k8 s0 x1 x2 x3 = some out) : W p l e (headSpec ws_Mo_sets { frames := 0, cells := 0, slots := 0, locals := 0 }).room s m args below meth c H locs 0 0 (MQ below (QcI D A g out.1 (fun (_ : Unit) => w_Mo g a0 out.2 ++ (rest))) args s 0 0 A) (F0 m 24 ls []) := by
  have X1 := X
  obtain ⟨hx, hb, hml, hown, hts, hr, hlocks, hKK⟩ := X1
  have ht : ∀ w ∈ TB, w.before args s = true := fun w h => hts w (List.mem_cons_of_mem _ h)
  have hK := hKK.1
  unfold B_Mo_sets_24 at h
  refine lv_aload_n hx hb d_Mo_sets_24 rfl (lv_at hl 0 rfl) ?_
  refine gt_Mo_number hx hb ht hown hK hI (ht _ m_833) d_Mo_sets_25 ?_
  refine lv_iload_n hx hb d_Mo_sets_28 rfl (lv_at hl 3 rfl) ?_
  refine lv_iload_n hx hb d_Mo_sets_29 rfl (lv_at hl 2 rfl) ?_
  by_cases hc1 : (x3 < 0 ∨ 260 ≤ x3.toNatClampNeg)
  · exact no_s (it_t h hc1)
  have h := it_f h hc1
  refine as_Mo_number hx hb hK hI hS hc1 d_Mo_sets_30 (fun H locs hI hS => ?_)
  refine lv_iload_n hx hb d_Mo_sets_31 rfl (lv_at hl 2 rfl) ?_
  refine lv_aload_n hx hb d_Mo_sets_32 rfl (lv_at hl 0 rfl) ?_
  refine gt_Mo_kind hx hb ht hown hK hI (ht _ m_823) d_Mo_sets_33 ?_
  refine lv_iload_n hx hb d_Mo_sets_36 rfl (lv_at hl 3 rfl) ?_
  by_cases hc2 : (x3 < 0 ∨ 260 ≤ x3.toNatClampNeg)
  · exact no_s (it_t h hc2)
  have h := it_f h hc2
  refine al_Mo_kind hx hb hK hI hc2 d_Mo_sets_37 ?_
  refine lv_if_ne (tgt := 45) hx hb d_Mo_sets_38 (by decide) (fun hc => ?_) (fun hc => ?_)
  · have h := it_f h hc
    exact t_Mo_sets_45 X hk8 (lv_sub hl [0, 1, 3] rfl) hI hS h
  · have h := it_t h hc
    exact t_Mo_sets_41 X hk8 (lv_sub hl [0, 1, 3] rfl) hI hS h
set_option maxRecDepth 100000 in
set_option maxHeartbeats 4000000 in
theorem t_Mo_sets_8 {p : Program} {l : Launch} {e : Env} {s : State} {m : MethodId} {args : Array Value} {below : List Frame} {meth : Method} {c : Code} {D : va_G} {A : Nat → Prop} {g : Nat → ClassId} {rest : va_W} {a0 : Nat → Nat} {ls : Array Slot} {H : Heap} {locs : List Loc} {k8 : S_Mo × Int32 × Int32 × Int32 → Option (Int32 × S_Mo)} {s0 : S_Mo} {x1 : Int32} {x2 : Int32} {x3 : Int32} {out : Int32 × S_Mo} (X : Cx p s m args meth c prog_11_method_50_code 4 ws_Mo_sets R_Mo (some .int) D g) (hk8 : ∀ (v : S_Mo × Int32 × Int32 × Int32) (ls : Array Slot) (H : Heap) (locs : List Loc), lv_has ls 4 [(0, .ref (a0 0)), (1, .int v.2.1), (2, .int v.2.2.1), (3, .int v.2.2.2)] → Iw D A (w_Mo g a0 v.1 ++ (rest)) H → va_S A s.heap H locs → k8 v = some out → W p l e (headSpec ws_Mo_sets { frames := 0, cells := 0, slots := 0, locals := 0 }).room s m args below meth c H locs 0 0 (MQ below (QcI D A g out.1 (fun (_ : Unit) => w_Mo g a0 out.2 ++ (rest))) args s 0 0 A) (F0 m 8 ls [])) (hl : lv_has ls 4 [(0, .ref (a0 0)), (1, .int x1), (2, .int x2), (3, .int x3)]) (hI : Iw D A (w_Mo g a0 s0 ++ (rest)) H) (hS : va_S A s.heap H locs) (h : B_Mo_sets_8 k8 s0 x1 x2 x3 = some out) : W p l e (headSpec ws_Mo_sets { frames := 0, cells := 0, slots := 0, locals := 0 }).room s m args below meth c H locs 0 0 (MQ below (QcI D A g out.1 (fun (_ : Unit) => w_Mo g a0 out.2 ++ (rest))) args s 0 0 A) (F0 m 8 ls []) := by
  have X1 := X
  obtain ⟨hx, hb, hml, hown, hts, hr, hlocks, hKK⟩ := X1
  have ht : ∀ w ∈ TB, w.before args s = true := fun w h => hts w (List.mem_cons_of_mem _ h)
  have hK := hKK.1
  unfold B_Mo_sets_8 at h
  refine lv_iload_n hx hb d_Mo_sets_8 rfl (lv_at hl 3 rfl) ?_
  refine lv_sipush (v := 130) hx hb d_Mo_sets_9 (by decide) ?_
  refine lv_iload_n hx hb d_Mo_sets_12 rfl (lv_at hl 1 rfl) ?_
  refine lv_imul hx hb d_Mo_sets_13 ?_
  refine lv_aload_n hx hb d_Mo_sets_14 rfl (lv_at hl 0 rfl) ?_
  refine gt_Mo_count hx hb ht hown hK hI (ht _ m_822) d_Mo_sets_15 ?_
  refine lv_iload_n hx hb d_Mo_sets_18 rfl (lv_at hl 1 rfl) ?_
  by_cases hc1 : (x1 < 0 ∨ 2 ≤ x1.toNatClampNeg)
  · exact no_s (it_t h hc1)
  have h := it_f h hc1
  refine al_Mo_count hx hb hK hI hc1 d_Mo_sets_19 ?_
  refine lv_iadd hx hb d_Mo_sets_20 ?_
  refine lv_icmp_ge (tgt := 54) hx hb d_Mo_sets_21 (by decide) (fun hc => ?_) (fun hc => ?_)
  · have h := it_t h hc
    exact t_Mo_sets_54 X (lv_sub hl [2] rfl) hI hS h
  · have h := it_f h hc
    exact t_Mo_sets_24 X hk8 (lv_sub hl [0, 1, 2, 3] rfl) hI hS h
set_option maxRecDepth 100000 in
set_option maxHeartbeats 4000000 in
theorem T_Mo_sets_8 {p : Program} {l : Launch} {e : Env} {s : State} {m : MethodId} {args : Array Value} {below : List Frame} {meth : Method} {c : Code} {D : va_G} {A : Nat → Prop} {g : Nat → ClassId} {rest : va_W} {a0 : Nat → Nat} {ls : Array Slot} {H : Heap} {locs : List Loc} {s0 : S_Mo} {x1 : Int32} {x2 : Int32} {x3 : Int32} {out : Int32 × S_Mo} (X : Cx p s m args meth c prog_11_method_50_code 4 ws_Mo_sets R_Mo (some .int) D g) (hl : lv_has ls 4 [(0, .ref (a0 0)), (1, .int x1), (2, .int x2), (3, .int x3)]) (hI : Iw D A (w_Mo g a0 s0 ++ (rest)) H) (hS : va_S A s.heap H locs) (h : L_Mo_sets_8   (s0, x1, x2, x3) = some out) : W p l e (headSpec ws_Mo_sets { frames := 0, cells := 0, slots := 0, locals := 0 }).room s m args below meth c H locs 0 0 (MQ below (QcI D A g out.1 (fun (_ : Unit) => w_Mo g a0 out.2 ++ (rest))) args s 0 0 A) (F0 m 8 ls []) := by
  unfold L_Mo_sets_8 at h
  exact lp_ind (P := fun v => ∀ (ls : Array Slot) (H : Heap) (locs : List Loc), lv_has ls 4 [(0, .ref (a0 0)), (1, .int v.2.1), (2, .int v.2.2.1), (3, .int v.2.2.2)] → Iw D A (w_Mo g a0 v.1 ++ (rest)) H → va_S A s.heap H locs → W p l e (headSpec ws_Mo_sets { frames := 0, cells := 0, slots := 0, locals := 0 }).room s m args below meth c H locs 0 0 (MQ below (QcI D A g out.1 (fun (_ : Unit) => w_Mo g a0 out.2 ++ (rest))) args s 0 0 A) (F0 m 8 ls [])) (fun k v ih hb ls H locs  hl hI hS => t_Mo_sets_8 X  (fun v' ls H locs  hl hI hS h' => ih v' h' ls H locs  hl hI hS) hl hI hS hb) FU _ h ls H locs  hl hI hS
set_option maxRecDepth 100000 in
set_option maxHeartbeats 4000000 in
theorem t_Mo_sets_0 {p : Program} {l : Launch} {e : Env} {s : State} {m : MethodId} {args : Array Value} {below : List Frame} {meth : Method} {c : Code} {D : va_G} {A : Nat → Prop} {g : Nat → ClassId} {rest : va_W} {a0 : Nat → Nat} {ls : Array Slot} {H : Heap} {locs : List Loc} {s0 : S_Mo} {x1 : Int32} {out : Int32 × S_Mo} (X : Cx p s m args meth c prog_11_method_50_code 4 ws_Mo_sets R_Mo (some .int) D g) (hl : lv_has ls 4 [(0, .ref (a0 0)), (1, .int x1)]) (hI : Iw D A (w_Mo g a0 s0 ++ (rest)) H) (hS : va_S A s.heap H locs) (h : B_Mo_sets_0  s0 x1 = some out) : W p l e (headSpec ws_Mo_sets { frames := 0, cells := 0, slots := 0, locals := 0 }).room s m args below meth c H locs 0 0 (MQ below (QcI D A g out.1 (fun (_ : Unit) => w_Mo g a0 out.2 ++ (rest))) args s 0 0 A) (F0 m 0 ls []) := by
  have X1 := X
  obtain ⟨hx, hb, hml, hown, hts, hr, hlocks, hKK⟩ := X1
  have ht : ∀ w ∈ TB, w.before args s = true := fun w h => hts w (List.mem_cons_of_mem _ h)
  have hK := hKK.1
  unfold B_Mo_sets_0 at h
  refine lv_iconst (v := 0) hx hb d_Mo_sets_0 (by decide) ?_
  refine lv_istore_n hx hb d_Mo_sets_1 rfl hl (Nat.le_of_ble_eq_true rfl) rfl (fun ls hl => ?_)
  have hl : lv_has ls 4 [(2, .int (0 : Int32)), (0, .ref (a0 0)), (1, .int x1)] := hl
  refine lv_sipush (v := 130) hx hb d_Mo_sets_2 (by decide) ?_
  refine lv_iload_n hx hb d_Mo_sets_5 rfl (lv_at hl 2 rfl) ?_
  refine lv_imul hx hb d_Mo_sets_6 ?_
  refine lv_istore_n hx hb d_Mo_sets_7 rfl hl (Nat.le_of_ble_eq_true rfl) rfl (fun ls hl => ?_)
  have hl : lv_has ls 4 [(3, .int ((130 : Int32) * x1)), (2, .int (0 : Int32)), (0, .ref (a0 0)), (1, .int x1)] := hl
  exact T_Mo_sets_8 X (lv_sub hl [2, 3, 1, 0] rfl) hI hS h
set_option maxRecDepth 100000 in
set_option maxHeartbeats 4000000 in
theorem c_Mo_sets {l : Launch} {D : va_G} {A : Nat → Prop} {g : Nat → ClassId} {rest : va_W} {a0 : Nat → Nat} {s0 : S_Mo} {x1 : Int32} {out : Int32 × S_Mo} (h : F_Mo_sets s0 x1 = some out) : Met l y_Mo_sets ws_Mo_sets { frames := 0, cells := 0, slots := 0, locals := 0 } (PcW D A g [.ref (a0 0), .int x1] (w_Mo g a0 s0 ++ (rest))) (QcI D A g out.1 (fun (_ : Unit) => w_Mo g a0 out.2 ++ (rest))) 0 0 A := by
  refine Met.ofW (cc := prog_11_method_50_code) (maxL := 4) (ret := (some .int)) (by decide) rfl ?_
  intro p e s m args below meth c s₁ B hml hv
  obtain ⟨rfl, hI, hK⟩ := hv
  have hl := lv_entry [.ref (a0 0), .int x1] (n := 4) (Nat.le_of_ble_eq_true rfl)
  rw [lg_entry_eq]
  generalize (lg_sl [.ref (a0 0), .int x1] ++ List.replicate (4 - (lg_sl [.ref (a0 0), .int x1]).length) Slot.unset).toArray = ls at hl ⊢
  have hl : lv_has ls 4 [(0, .ref (a0 0)), (1, .int x1)] := hl
  exact t_Mo_sets_0 ⟨B.exec, B.bytes, hml, findClass_of_methodNamed B.named, atoms_spec (ws := ws_Mo_sets) B.pre, B.returns, B.notSynchronized, hK⟩ (lv_sub hl [0, 1] rfl) hI va_S.rf h
def ws_Mo_matches : List Cond := .code y_Mo_matches prog_11_method_51_code 3 (some .boolean) :: TB
def B_Mo_matches_102 (s0 : S_Mo) : Option (Int32 × S_Mo) :=
  (if ((0 : Int32) < 0 ∨ 8100 ≤ (0 : Int32).toNatClampNeg) then none else (if ((Mo_fits s0) (0 : Int32).toNatClampNeg) = 0 ∨ ((Mo_fits s0) (0 : Int32).toNatClampNeg) = 1 then some (((Mo_fits s0) (0 : Int32).toNatClampNeg), s0) else none))
def B_Mo_matches_96 (k21 : S_Mo × Int32 → Option (Int32 × S_Mo)) (s0 : S_Mo) (x1 : Int32) : Option (Int32 × S_Mo) :=
  (k21 (s0, (x1 + (-1))))
def B_Mo_matches_90 (k21 : S_Mo × Int32 → Option (Int32 × S_Mo)) (k38 : S_Mo × Int32 × Int32 → Option (Int32 × S_Mo)) (s0 : S_Mo) (x1 : Int32) (x2 : Int32) : Option (Int32 × S_Mo) :=
  (k38 (s0, x1, (x2 + (-1))))
def B_Mo_matches_63 (k21 : S_Mo × Int32 → Option (Int32 × S_Mo)) (k38 : S_Mo × Int32 × Int32 → Option (Int32 × S_Mo)) (s0 : S_Mo) (x1 : Int32) (x2 : Int32) : Option (Int32 × S_Mo) :=
  (if (x1 < 0 ∨ 260 ≤ x1.toNatClampNeg) then none else (if (x2 < 0 ∨ 260 ≤ x2.toNatClampNeg) then none else ((F_Mo_fitsSet s0 x1 x2).bind fun o3 => (if ((((90 : Int32) * ((Mo_number s0) x1.toNatClampNeg)) + ((Mo_number s0) x2.toNatClampNeg)) < 0 ∨ 8100 ≤ (((90 : Int32) * ((Mo_number s0) x1.toNatClampNeg)) + ((Mo_number s0) x2.toNatClampNeg)).toNatClampNeg) then none else (B_Mo_matches_90 k21 k38 (Mo_set_fits s0 (upd (Mo_fits s0) (((90 : Int32) * ((Mo_number s0) x1.toNatClampNeg)) + ((Mo_number s0) x2.toNatClampNeg)).toNatClampNeg (vp_nar .boolean o3))) x1 x2)))))
def B_Mo_matches_54 (k21 : S_Mo × Int32 → Option (Int32 × S_Mo)) (k38 : S_Mo × Int32 × Int32 → Option (Int32 × S_Mo)) (s0 : S_Mo) (x1 : Int32) (x2 : Int32) : Option (Int32 × S_Mo) :=
  (if (x2 < 0 ∨ 260 ≤ x2.toNatClampNeg) then none else (if ((Mo_kind s0) x2.toNatClampNeg) = 0 then (B_Mo_matches_63 k21 k38 s0 x1 x2) else (B_Mo_matches_90 k21 k38 s0 x1 x2)))
def B_Mo_matches_45 (k21 : S_Mo × Int32 → Option (Int32 × S_Mo)) (k38 : S_Mo × Int32 × Int32 → Option (Int32 × S_Mo)) (s0 : S_Mo) (x1 : Int32) (x2 : Int32) : Option (Int32 × S_Mo) :=
  (if (x1 < 0 ∨ 260 ≤ x1.toNatClampNeg) then none else (if ((Mo_kind s0) x1.toNatClampNeg) = 0 then (B_Mo_matches_54 k21 k38 s0 x1 x2) else (B_Mo_matches_90 k21 k38 s0 x1 x2)))
def B_Mo_matches_38 (k21 : S_Mo × Int32 → Option (Int32 × S_Mo)) (k38 : S_Mo × Int32 × Int32 → Option (Int32 × S_Mo)) (s0 : S_Mo) (x1 : Int32) (x2 : Int32) : Option (Int32 × S_Mo) :=
  (if x2 < (130 : Int32) then (B_Mo_matches_96 k21 s0 x1) else (B_Mo_matches_45 k21 k38 s0 x1 x2))
def L_Mo_matches_38 (k21 : S_Mo × Int32 → Option (Int32 × S_Mo)) (v : S_Mo × Int32 × Int32) : Option (Int32 × S_Mo) := lp (fun k38 v => B_Mo_matches_38 k21 k38  v.1 v.2.1 v.2.2) FU v
def B_Mo_matches_25 (k21 : S_Mo × Int32 → Option (Int32 × S_Mo)) (s0 : S_Mo) (x1 : Int32) : Option (Int32 × S_Mo) :=
  (if ((1 : Int32) < 0 ∨ 2 ≤ (1 : Int32).toNatClampNeg) then none else (L_Mo_matches_38 k21 (s0, x1, (((130 : Int32) + ((Mo_count s0) (1 : Int32).toNatClampNeg)) - (1 : Int32)))))
def B_Mo_matches_21 (k21 : S_Mo × Int32 → Option (Int32 × S_Mo)) (s0 : S_Mo) (x1 : Int32) : Option (Int32 × S_Mo) :=
  (if x1 < 0 then (B_Mo_matches_102 s0) else (B_Mo_matches_25 k21 s0 x1))
def L_Mo_matches_21 (v : S_Mo × Int32) : Option (Int32 × S_Mo) := lp (fun k21 v => B_Mo_matches_21  k21  v.1 v.2) FU v
def B_Mo_matches_0 (s0 : S_Mo) : Option (Int32 × S_Mo) :=
  ((F_Mo_sets s0 (0 : Int32)).bind fun o1 => ((F_Mo_sets o1.2 (1 : Int32)).bind fun o3 => (if ((0 : Int32) < 0 ∨ 2 ≤ (0 : Int32).toNatClampNeg) then none else (L_Mo_matches_21 (o3.2, (((Mo_count o3.2) (0 : Int32).toNatClampNeg) - (1 : Int32)))))))
def F_Mo_matches (s0 : S_Mo) : Option (Int32 × S_Mo) := B_Mo_matches_0 s0
set_option maxRecDepth 100000 in
set_option maxHeartbeats 4000000 in
theorem t_Mo_matches_102 {p : Program} {l : Launch} {e : Env} {s : State} {m : MethodId} {args : Array Value} {below : List Frame} {meth : Method} {c : Code} {D : va_G} {A : Nat → Prop} {g : Nat → ClassId} {rest : va_W} {a0 : Nat → Nat} {ls : Array Slot} {H : Heap} {locs : List Loc} {s0 : S_Mo} {out : Int32 × S_Mo} (X : Cx p s m args meth c prog_11_method_51_code 3 ws_Mo_matches R_Mo (some .boolean) D g) (hl : lv_has ls 3 [(0, .ref (a0 0))]) (hI : Iw D A (w_Mo g a0 s0 ++ (rest)) H) (hS : va_S A s.heap H locs) (h : B_Mo_matches_102  s0 = some out) : W p l e (headSpec ws_Mo_matches { frames := 3, cells := 0, slots := 0, locals := 79 }).room s m args below meth c H locs 0 0 (MQ below (QcI D A g out.1 (fun (_ : Unit) => w_Mo g a0 out.2 ++ (rest))) args s 0 0 A) (F0 m 102 ls []) := by
  have X1 := X
  obtain ⟨hx, hb, hml, hown, hts, hr, hlocks, hKK⟩ := X1
  have ht : ∀ w ∈ TB, w.before args s = true := fun w h => hts w (List.mem_cons_of_mem _ h)
  have hK := hKK.1
  unfold B_Mo_matches_102 at h
  refine lv_aload_n hx hb d_Mo_matches_102 rfl (lv_at hl 0 rfl) ?_
  refine gt_Mo_fits hx hb ht hown hK hI (ht _ m_836) d_Mo_matches_103 ?_
  refine lv_iconst (v := 0) hx hb d_Mo_matches_106 (by decide) ?_
  by_cases hc1 : ((0 : Int32) < 0 ∨ 8100 ≤ (0 : Int32).toNatClampNeg)
  · exact no_s (it_t h hc1)
  have h := it_f h hc1
  refine al_Mo_fits hx hb hK hI hc1 d_Mo_matches_107 ?_
  have hc2 : ((Mo_fits s0) (0 : Int32).toNatClampNeg) = 0 ∨ ((Mo_fits s0) (0 : Int32).toNatClampNeg) = 1 := by
    by_cases z : ((Mo_fits s0) (0 : Int32).toNatClampNeg) = 0 ∨ ((Mo_fits s0) (0 : Int32).toNatClampNeg) = 1
    · exact z
    · exact no_s (it_f h z)
  have h := it_t h hc2
  have h9 := Option.some.inj h
  subst h9
  exact W.zret (v := ((Mo_fits s0) (0 : Int32).toNatClampNeg)) hx hb hr (by rcases hc2 with z | z <;> rw [z] <;> rfl) (fun t ht hW => ⟨⟨_, (), rfl, rfl, ⟨by rw [ht]; exact hI, hKK.moved hW⟩⟩, hS.F ht⟩) hS.2.2 d_Mo_matches_108
set_option maxRecDepth 100000 in
set_option maxHeartbeats 4000000 in
theorem t_Mo_matches_96 {p : Program} {l : Launch} {e : Env} {s : State} {m : MethodId} {args : Array Value} {below : List Frame} {meth : Method} {c : Code} {D : va_G} {A : Nat → Prop} {g : Nat → ClassId} {rest : va_W} {a0 : Nat → Nat} {ls : Array Slot} {H : Heap} {locs : List Loc} {k21 : S_Mo × Int32 → Option (Int32 × S_Mo)} {s0 : S_Mo} {x1 : Int32} {out : Int32 × S_Mo} (X : Cx p s m args meth c prog_11_method_51_code 3 ws_Mo_matches R_Mo (some .boolean) D g) (hk21 : ∀ (v : S_Mo × Int32) (ls : Array Slot) (H : Heap) (locs : List Loc), lv_has ls 3 [(0, .ref (a0 0)), (1, .int v.2)] → Iw D A (w_Mo g a0 v.1 ++ (rest)) H → va_S A s.heap H locs → k21 v = some out → W p l e (headSpec ws_Mo_matches { frames := 3, cells := 0, slots := 0, locals := 79 }).room s m args below meth c H locs 0 0 (MQ below (QcI D A g out.1 (fun (_ : Unit) => w_Mo g a0 out.2 ++ (rest))) args s 0 0 A) (F0 m 21 ls [])) (hl : lv_has ls 3 [(0, .ref (a0 0)), (1, .int x1)]) (hI : Iw D A (w_Mo g a0 s0 ++ (rest)) H) (hS : va_S A s.heap H locs) (h : B_Mo_matches_96 k21 s0 x1 = some out) : W p l e (headSpec ws_Mo_matches { frames := 3, cells := 0, slots := 0, locals := 79 }).room s m args below meth c H locs 0 0 (MQ below (QcI D A g out.1 (fun (_ : Unit) => w_Mo g a0 out.2 ++ (rest))) args s 0 0 A) (F0 m 96 ls []) := by
  have X1 := X
  obtain ⟨hx, hb, hml, hown, hts, hr, hlocks, hKK⟩ := X1
  have ht : ∀ w ∈ TB, w.before args s = true := fun w h => hts w (List.mem_cons_of_mem _ h)
  have hK := hKK.1
  unfold B_Mo_matches_96 at h
  refine lv_iinc (k := 1) (v := (x1 + (-1))) hx hb d_Mo_matches_96 hl rfl (congrArg (fun z => x1 + z) (by decide)) (Nat.le_of_ble_eq_true rfl) rfl (fun ls hl => ?_)
  have hl : lv_has ls 3 [(1, .int (x1 + (-1))), (0, .ref (a0 0))] := hl
  refine lv_goto (tgt := 21) hx hb d_Mo_matches_99 (by decide) ?_
  exact hk21 (s0, (x1 + (-1))) _ _ _ (lv_sub hl [1, 0] rfl) hI hS h
set_option maxRecDepth 100000 in
set_option maxHeartbeats 4000000 in
theorem t_Mo_matches_90 {p : Program} {l : Launch} {e : Env} {s : State} {m : MethodId} {args : Array Value} {below : List Frame} {meth : Method} {c : Code} {D : va_G} {A : Nat → Prop} {g : Nat → ClassId} {rest : va_W} {a0 : Nat → Nat} {ls : Array Slot} {H : Heap} {locs : List Loc} {k21 : S_Mo × Int32 → Option (Int32 × S_Mo)} {k38 : S_Mo × Int32 × Int32 → Option (Int32 × S_Mo)} {s0 : S_Mo} {x1 : Int32} {x2 : Int32} {out : Int32 × S_Mo} (X : Cx p s m args meth c prog_11_method_51_code 3 ws_Mo_matches R_Mo (some .boolean) D g) (hk21 : ∀ (v : S_Mo × Int32) (ls : Array Slot) (H : Heap) (locs : List Loc), lv_has ls 3 [(0, .ref (a0 0)), (1, .int v.2)] → Iw D A (w_Mo g a0 v.1 ++ (rest)) H → va_S A s.heap H locs → k21 v = some out → W p l e (headSpec ws_Mo_matches { frames := 3, cells := 0, slots := 0, locals := 79 }).room s m args below meth c H locs 0 0 (MQ below (QcI D A g out.1 (fun (_ : Unit) => w_Mo g a0 out.2 ++ (rest))) args s 0 0 A) (F0 m 21 ls [])) (hk38 : ∀ (v : S_Mo × Int32 × Int32) (ls : Array Slot) (H : Heap) (locs : List Loc), lv_has ls 3 [(0, .ref (a0 0)), (1, .int v.2.1), (2, .int v.2.2)] → Iw D A (w_Mo g a0 v.1 ++ (rest)) H → va_S A s.heap H locs → k38 v = some out → W p l e (headSpec ws_Mo_matches { frames := 3, cells := 0, slots := 0, locals := 79 }).room s m args below meth c H locs 0 0 (MQ below (QcI D A g out.1 (fun (_ : Unit) => w_Mo g a0 out.2 ++ (rest))) args s 0 0 A) (F0 m 38 ls [])) (hl : lv_has ls 3 [(0, .ref (a0 0)), (1, .int x1), (2, .int x2)]) (hI : Iw D A (w_Mo g a0 s0 ++ (rest)) H) (hS : va_S A s.heap H locs) (h : B_Mo_matches_90 k21 k38 s0 x1 x2 = some out) : W p l e (headSpec ws_Mo_matches { frames := 3, cells := 0, slots := 0, locals := 79 }).room s m args below meth c H locs 0 0 (MQ below (QcI D A g out.1 (fun (_ : Unit) => w_Mo g a0 out.2 ++ (rest))) args s 0 0 A) (F0 m 90 ls []) := by
  have X1 := X
  obtain ⟨hx, hb, hml, hown, hts, hr, hlocks, hKK⟩ := X1
  have ht : ∀ w ∈ TB, w.before args s = true := fun w h => hts w (List.mem_cons_of_mem _ h)
  have hK := hKK.1
  unfold B_Mo_matches_90 at h
  refine lv_iinc (k := 2) (v := (x2 + (-1))) hx hb d_Mo_matches_90 hl rfl (congrArg (fun z => x2 + z) (by decide)) (Nat.le_of_ble_eq_true rfl) rfl (fun ls hl => ?_)
  have hl : lv_has ls 3 [(2, .int (x2 + (-1))), (0, .ref (a0 0)), (1, .int x1)] := hl
  refine lv_goto (tgt := 38) hx hb d_Mo_matches_93 (by decide) ?_
  exact hk38 (s0, x1, (x2 + (-1))) _ _ _ (lv_sub hl [1, 2, 0] rfl) hI hS h
set_option maxRecDepth 100000 in
set_option maxHeartbeats 4000000 in
theorem t_Mo_matches_63 {p : Program} {l : Launch} {e : Env} {s : State} {m : MethodId} {args : Array Value} {below : List Frame} {meth : Method} {c : Code} {D : va_G} {A : Nat → Prop} {g : Nat → ClassId} {rest : va_W} {a0 : Nat → Nat} {ls : Array Slot} {H : Heap} {locs : List Loc} {k21 : S_Mo × Int32 → Option (Int32 × S_Mo)} {k38 : S_Mo × Int32 × Int32 → Option (Int32 × S_Mo)} {s0 : S_Mo} {x1 : Int32} {x2 : Int32} {out : Int32 × S_Mo} (X : Cx p s m args meth c prog_11_method_51_code 3 ws_Mo_matches R_Mo (some .boolean) D g) (hk21 : ∀ (v : S_Mo × Int32) (ls : Array Slot) (H : Heap) (locs : List Loc), lv_has ls 3 [(0, .ref (a0 0)), (1, .int v.2)] → Iw D A (w_Mo g a0 v.1 ++ (rest)) H → va_S A s.heap H locs → k21 v = some out → W p l e (headSpec ws_Mo_matches { frames := 3, cells := 0, slots := 0, locals := 79 }).room s m args below meth c H locs 0 0 (MQ below (QcI D A g out.1 (fun (_ : Unit) => w_Mo g a0 out.2 ++ (rest))) args s 0 0 A) (F0 m 21 ls [])) (hk38 : ∀ (v : S_Mo × Int32 × Int32) (ls : Array Slot) (H : Heap) (locs : List Loc), lv_has ls 3 [(0, .ref (a0 0)), (1, .int v.2.1), (2, .int v.2.2)] → Iw D A (w_Mo g a0 v.1 ++ (rest)) H → va_S A s.heap H locs → k38 v = some out → W p l e (headSpec ws_Mo_matches { frames := 3, cells := 0, slots := 0, locals := 79 }).room s m args below meth c H locs 0 0 (MQ below (QcI D A g out.1 (fun (_ : Unit) => w_Mo g a0 out.2 ++ (rest))) args s 0 0 A) (F0 m 38 ls [])) (hl : lv_has ls 3 [(0, .ref (a0 0)), (1, .int x1), (2, .int x2)]) (hI : Iw D A (w_Mo g a0 s0 ++ (rest)) H) (hS : va_S A s.heap H locs) (h : B_Mo_matches_63 k21 k38 s0 x1 x2 = some out) : W p l e (headSpec ws_Mo_matches { frames := 3, cells := 0, slots := 0, locals := 79 }).room s m args below meth c H locs 0 0 (MQ below (QcI D A g out.1 (fun (_ : Unit) => w_Mo g a0 out.2 ++ (rest))) args s 0 0 A) (F0 m 63 ls []) := by
  have X1 := X
  obtain ⟨hx, hb, hml, hown, hts, hr, hlocks, hKK⟩ := X1
  have ht : ∀ w ∈ TB, w.before args s = true := fun w h => hts w (List.mem_cons_of_mem _ h)
  have hK := hKK.1
  unfold B_Mo_matches_63 at h
  refine lv_aload_n hx hb d_Mo_matches_63 rfl (lv_at hl 0 rfl) ?_
  refine gt_Mo_fits hx hb ht hown hK hI (ht _ m_836) d_Mo_matches_64 ?_
  refine lv_bipush (v := 90) hx hb d_Mo_matches_67 (by decide) ?_
  refine lv_aload_n hx hb d_Mo_matches_69 rfl (lv_at hl 0 rfl) ?_
  refine gt_Mo_number hx hb ht hown hK hI (ht _ m_833) d_Mo_matches_70 ?_
  refine lv_iload_n hx hb d_Mo_matches_73 rfl (lv_at hl 1 rfl) ?_
  by_cases hc1 : (x1 < 0 ∨ 260 ≤ x1.toNatClampNeg)
  · exact no_s (it_t h hc1)
  have h := it_f h hc1
  refine al_Mo_number hx hb hK hI hc1 d_Mo_matches_74 ?_
  refine lv_imul hx hb d_Mo_matches_75 ?_
  refine lv_aload_n hx hb d_Mo_matches_76 rfl (lv_at hl 0 rfl) ?_
  refine gt_Mo_number hx hb ht hown hK hI (ht _ m_833) d_Mo_matches_77 ?_
  refine lv_iload_n hx hb d_Mo_matches_80 rfl (lv_at hl 2 rfl) ?_
  by_cases hc2 : (x2 < 0 ∨ 260 ≤ x2.toNatClampNeg)
  · exact no_s (it_t h hc2)
  have h := it_f h hc2
  refine al_Mo_number hx hb hK hI hc2 d_Mo_matches_81 ?_
  refine lv_iadd hx hb d_Mo_matches_82 ?_
  refine lv_aload_n hx hb d_Mo_matches_83 rfl (lv_at hl 0 rfl) ?_
  refine lv_iload_n hx hb d_Mo_matches_84 rfl (lv_at hl 1 rfl) ?_
  refine lv_iload_n hx hb d_Mo_matches_85 rfl (lv_at hl 2 rfl) ?_
  obtain ⟨o3, ho4, h⟩ := bd_s h
  refine cl_i (W1 := fun (_ : Unit) => w_Mo g a0 s0 ++ (rest)) (va_runV (As := [.int x1, .int x2]) (rest := [.int (((90 : Int32) * ((Mo_number s0) x1.toNatClampNeg)) + ((Mo_number s0) x2.toNatClampNeg)), .ref (a0 17)]) ⟨hx, hb, hml, hown, ht⟩ (c_Mo_fitsSet (l := l) (D := D) (A := A) (g := g) (rest := rest) (a0 := a0) ho4) (cwV 2 ht (gd_V m_1152 m_1154 mp_72 m_11 m_1155) rfl rfl rfl (by decide +kernel) ⟨(Nat.le_of_ble_eq_true rfl), (Nat.le_of_ble_eq_true rfl)⟩) (prV (ci := 9) (q0 := 0) hKK hI (List.Perm.refl _) rfl rfl rfl) rfl rfl hl.1 rfl (lv_room (Nat.le_of_ble_eq_true rfl)) d_Mo_matches_86 ⟨(Nat.le_of_ble_eq_true rfl), (Nat.le_of_ble_eq_true rfl)⟩) hS (fun _ => ((List.Perm.refl _)).symm) (fun _ H locs hI hS => ?_)
  have hI : Iw D A (w_Mo g a0 s0 ++ (rest)) H := hI
  by_cases hc5 : ((((90 : Int32) * ((Mo_number s0) x1.toNatClampNeg)) + ((Mo_number s0) x2.toNatClampNeg)) < 0 ∨ 8100 ≤ (((90 : Int32) * ((Mo_number s0) x1.toNatClampNeg)) + ((Mo_number s0) x2.toNatClampNeg)).toNatClampNeg)
  · exact no_s (it_t h hc5)
  have h := it_f h hc5
  refine as_Mo_fits hx hb hK hI hS hc5 d_Mo_matches_89 (fun H locs hI hS => ?_)
  exact t_Mo_matches_90 X hk21 hk38 (lv_sub hl [0, 1, 2] rfl) hI hS h
set_option maxRecDepth 100000 in
set_option maxHeartbeats 4000000 in
theorem t_Mo_matches_54 {p : Program} {l : Launch} {e : Env} {s : State} {m : MethodId} {args : Array Value} {below : List Frame} {meth : Method} {c : Code} {D : va_G} {A : Nat → Prop} {g : Nat → ClassId} {rest : va_W} {a0 : Nat → Nat} {ls : Array Slot} {H : Heap} {locs : List Loc} {k21 : S_Mo × Int32 → Option (Int32 × S_Mo)} {k38 : S_Mo × Int32 × Int32 → Option (Int32 × S_Mo)} {s0 : S_Mo} {x1 : Int32} {x2 : Int32} {out : Int32 × S_Mo} (X : Cx p s m args meth c prog_11_method_51_code 3 ws_Mo_matches R_Mo (some .boolean) D g) (hk21 : ∀ (v : S_Mo × Int32) (ls : Array Slot) (H : Heap) (locs : List Loc), lv_has ls 3 [(0, .ref (a0 0)), (1, .int v.2)] → Iw D A (w_Mo g a0 v.1 ++ (rest)) H → va_S A s.heap H locs → k21 v = some out → W p l e (headSpec ws_Mo_matches { frames := 3, cells := 0, slots := 0, locals := 79 }).room s m args below meth c H locs 0 0 (MQ below (QcI D A g out.1 (fun (_ : Unit) => w_Mo g a0 out.2 ++ (rest))) args s 0 0 A) (F0 m 21 ls [])) (hk38 : ∀ (v : S_Mo × Int32 × Int32) (ls : Array Slot) (H : Heap) (locs : List Loc), lv_has ls 3 [(0, .ref (a0 0)), (1, .int v.2.1), (2, .int v.2.2)] → Iw D A (w_Mo g a0 v.1 ++ (rest)) H → va_S A s.heap H locs → k38 v = some out → W p l e (headSpec ws_Mo_matches { frames := 3, cells := 0, slots := 0, locals := 79 }).room s m args below meth c H locs 0 0 (MQ below (QcI D A g out.1 (fun (_ : Unit) => w_Mo g a0 out.2 ++ (rest))) args s 0 0 A) (F0 m 38 ls [])) (hl : lv_has ls 3 [(0, .ref (a0 0)), (1, .int x1), (2, .int x2)]) (hI : Iw D A (w_Mo g a0 s0 ++ (rest)) H) (hS : va_S A s.heap H locs) (h : B_Mo_matches_54 k21 k38 s0 x1 x2 = some out) : W p l e (headSpec ws_Mo_matches { frames := 3, cells := 0, slots := 0, locals := 79 }).room s m args below meth c H locs 0 0 (MQ below (QcI D A g out.1 (fun (_ : Unit) => w_Mo g a0 out.2 ++ (rest))) args s 0 0 A) (F0 m 54 ls []) := by
  have X1 := X
  obtain ⟨hx, hb, hml, hown, hts, hr, hlocks, hKK⟩ := X1
  have ht : ∀ w ∈ TB, w.before args s = true := fun w h => hts w (List.mem_cons_of_mem _ h)
  have hK := hKK.1
  unfold B_Mo_matches_54 at h
  refine lv_aload_n hx hb d_Mo_matches_54 rfl (lv_at hl 0 rfl) ?_
  refine gt_Mo_kind hx hb ht hown hK hI (ht _ m_823) d_Mo_matches_55 ?_
  refine lv_iload_n hx hb d_Mo_matches_58 rfl (lv_at hl 2 rfl) ?_
  by_cases hc1 : (x2 < 0 ∨ 260 ≤ x2.toNatClampNeg)
  · exact no_s (it_t h hc1)
  have h := it_f h hc1
  refine al_Mo_kind hx hb hK hI hc1 d_Mo_matches_59 ?_
  refine lv_if_ne (tgt := 90) hx hb d_Mo_matches_60 (by decide) (fun hc => ?_) (fun hc => ?_)
  · have h := it_f h hc
    exact t_Mo_matches_90 X hk21 hk38 (lv_sub hl [0, 1, 2] rfl) hI hS h
  · have h := it_t h hc
    exact t_Mo_matches_63 X hk21 hk38 (lv_sub hl [0, 1, 2] rfl) hI hS h
set_option maxRecDepth 100000 in
set_option maxHeartbeats 4000000 in
theorem t_Mo_matches_45 {p : Program} {l : Launch} {e : Env} {s : State} {m : MethodId} {args : Array Value} {below : List Frame} {meth : Method} {c : Code} {D : va_G} {A : Nat → Prop} {g : Nat → ClassId} {rest : va_W} {a0 : Nat → Nat} {ls : Array Slot} {H : Heap} {locs : List Loc} {k21 : S_Mo × Int32 → Option (Int32 × S_Mo)} {k38 : S_Mo × Int32 × Int32 → Option (Int32 × S_Mo)} {s0 : S_Mo} {x1 : Int32} {x2 : Int32} {out : Int32 × S_Mo} (X : Cx p s m args meth c prog_11_method_51_code 3 ws_Mo_matches R_Mo (some .boolean) D g) (hk21 : ∀ (v : S_Mo × Int32) (ls : Array Slot) (H : Heap) (locs : List Loc), lv_has ls 3 [(0, .ref (a0 0)), (1, .int v.2)] → Iw D A (w_Mo g a0 v.1 ++ (rest)) H → va_S A s.heap H locs → k21 v = some out → W p l e (headSpec ws_Mo_matches { frames := 3, cells := 0, slots := 0, locals := 79 }).room s m args below meth c H locs 0 0 (MQ below (QcI D A g out.1 (fun (_ : Unit) => w_Mo g a0 out.2 ++ (rest))) args s 0 0 A) (F0 m 21 ls [])) (hk38 : ∀ (v : S_Mo × Int32 × Int32) (ls : Array Slot) (H : Heap) (locs : List Loc), lv_has ls 3 [(0, .ref (a0 0)), (1, .int v.2.1), (2, .int v.2.2)] → Iw D A (w_Mo g a0 v.1 ++ (rest)) H → va_S A s.heap H locs → k38 v = some out → W p l e (headSpec ws_Mo_matches { frames := 3, cells := 0, slots := 0, locals := 79 }).room s m args below meth c H locs 0 0 (MQ below (QcI D A g out.1 (fun (_ : Unit) => w_Mo g a0 out.2 ++ (rest))) args s 0 0 A) (F0 m 38 ls [])) (hl : lv_has ls 3 [(0, .ref (a0 0)), (1, .int x1), (2, .int x2)]) (hI : Iw D A (w_Mo g a0 s0 ++ (rest)) H) (hS : va_S A s.heap H locs) (h : B_Mo_matches_45 k21 k38 s0 x1 x2 = some out) : W p l e (headSpec ws_Mo_matches { frames := 3, cells := 0, slots := 0, locals := 79 }).room s m args below meth c H locs 0 0 (MQ below (QcI D A g out.1 (fun (_ : Unit) => w_Mo g a0 out.2 ++ (rest))) args s 0 0 A) (F0 m 45 ls []) := by
  have X1 := X
  obtain ⟨hx, hb, hml, hown, hts, hr, hlocks, hKK⟩ := X1
  have ht : ∀ w ∈ TB, w.before args s = true := fun w h => hts w (List.mem_cons_of_mem _ h)
  have hK := hKK.1
  unfold B_Mo_matches_45 at h
  refine lv_aload_n hx hb d_Mo_matches_45 rfl (lv_at hl 0 rfl) ?_
  refine gt_Mo_kind hx hb ht hown hK hI (ht _ m_823) d_Mo_matches_46 ?_
  refine lv_iload_n hx hb d_Mo_matches_49 rfl (lv_at hl 1 rfl) ?_
  by_cases hc1 : (x1 < 0 ∨ 260 ≤ x1.toNatClampNeg)
  · exact no_s (it_t h hc1)
  have h := it_f h hc1
  refine al_Mo_kind hx hb hK hI hc1 d_Mo_matches_50 ?_
  refine lv_if_ne (tgt := 90) hx hb d_Mo_matches_51 (by decide) (fun hc => ?_) (fun hc => ?_)
  · have h := it_f h hc
    exact t_Mo_matches_90 X hk21 hk38 (lv_sub hl [0, 1, 2] rfl) hI hS h
  · have h := it_t h hc
    exact t_Mo_matches_54 X hk21 hk38 (lv_sub hl [0, 1, 2] rfl) hI hS h
set_option maxRecDepth 100000 in
set_option maxHeartbeats 4000000 in
theorem t_Mo_matches_38 {p : Program} {l : Launch} {e : Env} {s : State} {m : MethodId} {args : Array Value} {below : List Frame} {meth : Method} {c : Code} {D : va_G} {A : Nat → Prop} {g : Nat → ClassId} {rest : va_W} {a0 : Nat → Nat} {ls : Array Slot} {H : Heap} {locs : List Loc} {k21 : S_Mo × Int32 → Option (Int32 × S_Mo)} {k38 : S_Mo × Int32 × Int32 → Option (Int32 × S_Mo)} {s0 : S_Mo} {x1 : Int32} {x2 : Int32} {out : Int32 × S_Mo} (X : Cx p s m args meth c prog_11_method_51_code 3 ws_Mo_matches R_Mo (some .boolean) D g) (hk21 : ∀ (v : S_Mo × Int32) (ls : Array Slot) (H : Heap) (locs : List Loc), lv_has ls 3 [(0, .ref (a0 0)), (1, .int v.2)] → Iw D A (w_Mo g a0 v.1 ++ (rest)) H → va_S A s.heap H locs → k21 v = some out → W p l e (headSpec ws_Mo_matches { frames := 3, cells := 0, slots := 0, locals := 79 }).room s m args below meth c H locs 0 0 (MQ below (QcI D A g out.1 (fun (_ : Unit) => w_Mo g a0 out.2 ++ (rest))) args s 0 0 A) (F0 m 21 ls [])) (hk38 : ∀ (v : S_Mo × Int32 × Int32) (ls : Array Slot) (H : Heap) (locs : List Loc), lv_has ls 3 [(0, .ref (a0 0)), (1, .int v.2.1), (2, .int v.2.2)] → Iw D A (w_Mo g a0 v.1 ++ (rest)) H → va_S A s.heap H locs → k38 v = some out → W p l e (headSpec ws_Mo_matches { frames := 3, cells := 0, slots := 0, locals := 79 }).room s m args below meth c H locs 0 0 (MQ below (QcI D A g out.1 (fun (_ : Unit) => w_Mo g a0 out.2 ++ (rest))) args s 0 0 A) (F0 m 38 ls [])) (hl : lv_has ls 3 [(0, .ref (a0 0)), (1, .int x1), (2, .int x2)]) (hI : Iw D A (w_Mo g a0 s0 ++ (rest)) H) (hS : va_S A s.heap H locs) (h : B_Mo_matches_38 k21 k38 s0 x1 x2 = some out) : W p l e (headSpec ws_Mo_matches { frames := 3, cells := 0, slots := 0, locals := 79 }).room s m args below meth c H locs 0 0 (MQ below (QcI D A g out.1 (fun (_ : Unit) => w_Mo g a0 out.2 ++ (rest))) args s 0 0 A) (F0 m 38 ls []) := by
  have X1 := X
  obtain ⟨hx, hb, hml, hown, hts, hr, hlocks, hKK⟩ := X1
  have ht : ∀ w ∈ TB, w.before args s = true := fun w h => hts w (List.mem_cons_of_mem _ h)
  have hK := hKK.1
  unfold B_Mo_matches_38 at h
  refine lv_iload_n hx hb d_Mo_matches_38 rfl (lv_at hl 2 rfl) ?_
  refine lv_sipush (v := 130) hx hb d_Mo_matches_39 (by decide) ?_
  refine lv_icmp_lt (tgt := 96) hx hb d_Mo_matches_42 (by decide) (fun hc => ?_) (fun hc => ?_)
  · have h := it_t h hc
    exact t_Mo_matches_96 X hk21 (lv_sub hl [0, 1] rfl) hI hS h
  · have h := it_f h hc
    exact t_Mo_matches_45 X hk21 hk38 (lv_sub hl [0, 1, 2] rfl) hI hS h
set_option maxRecDepth 100000 in
set_option maxHeartbeats 4000000 in
theorem T_Mo_matches_38 {p : Program} {l : Launch} {e : Env} {s : State} {m : MethodId} {args : Array Value} {below : List Frame} {meth : Method} {c : Code} {D : va_G} {A : Nat → Prop} {g : Nat → ClassId} {rest : va_W} {a0 : Nat → Nat} {ls : Array Slot} {H : Heap} {locs : List Loc} {k21 : S_Mo × Int32 → Option (Int32 × S_Mo)} {s0 : S_Mo} {x1 : Int32} {x2 : Int32} {out : Int32 × S_Mo} (X : Cx p s m args meth c prog_11_method_51_code 3 ws_Mo_matches R_Mo (some .boolean) D g) (hk21 : ∀ (v : S_Mo × Int32) (ls : Array Slot) (H : Heap) (locs : List Loc), lv_has ls 3 [(0, .ref (a0 0)), (1, .int v.2)] → Iw D A (w_Mo g a0 v.1 ++ (rest)) H → va_S A s.heap H locs → k21 v = some out → W p l e (headSpec ws_Mo_matches { frames := 3, cells := 0, slots := 0, locals := 79 }).room s m args below meth c H locs 0 0 (MQ below (QcI D A g out.1 (fun (_ : Unit) => w_Mo g a0 out.2 ++ (rest))) args s 0 0 A) (F0 m 21 ls [])) (hl : lv_has ls 3 [(0, .ref (a0 0)), (1, .int x1), (2, .int x2)]) (hI : Iw D A (w_Mo g a0 s0 ++ (rest)) H) (hS : va_S A s.heap H locs) (h : L_Mo_matches_38 k21  (s0, x1, x2) = some out) : W p l e (headSpec ws_Mo_matches { frames := 3, cells := 0, slots := 0, locals := 79 }).room s m args below meth c H locs 0 0 (MQ below (QcI D A g out.1 (fun (_ : Unit) => w_Mo g a0 out.2 ++ (rest))) args s 0 0 A) (F0 m 38 ls []) := by
  unfold L_Mo_matches_38 at h
  exact lp_ind (P := fun v => ∀ (ls : Array Slot) (H : Heap) (locs : List Loc), lv_has ls 3 [(0, .ref (a0 0)), (1, .int v.2.1), (2, .int v.2.2)] → Iw D A (w_Mo g a0 v.1 ++ (rest)) H → va_S A s.heap H locs → W p l e (headSpec ws_Mo_matches { frames := 3, cells := 0, slots := 0, locals := 79 }).room s m args below meth c H locs 0 0 (MQ below (QcI D A g out.1 (fun (_ : Unit) => w_Mo g a0 out.2 ++ (rest))) args s 0 0 A) (F0 m 38 ls [])) (fun k v ih hb ls H locs  hl hI hS => t_Mo_matches_38 X hk21 (fun v' ls H locs  hl hI hS h' => ih v' h' ls H locs  hl hI hS) hl hI hS hb) FU _ h ls H locs  hl hI hS
set_option maxRecDepth 100000 in
set_option maxHeartbeats 4000000 in
theorem t_Mo_matches_25 {p : Program} {l : Launch} {e : Env} {s : State} {m : MethodId} {args : Array Value} {below : List Frame} {meth : Method} {c : Code} {D : va_G} {A : Nat → Prop} {g : Nat → ClassId} {rest : va_W} {a0 : Nat → Nat} {ls : Array Slot} {H : Heap} {locs : List Loc} {k21 : S_Mo × Int32 → Option (Int32 × S_Mo)} {s0 : S_Mo} {x1 : Int32} {out : Int32 × S_Mo} (X : Cx p s m args meth c prog_11_method_51_code 3 ws_Mo_matches R_Mo (some .boolean) D g) (hk21 : ∀ (v : S_Mo × Int32) (ls : Array Slot) (H : Heap) (locs : List Loc), lv_has ls 3 [(0, .ref (a0 0)), (1, .int v.2)] → Iw D A (w_Mo g a0 v.1 ++ (rest)) H → va_S A s.heap H locs → k21 v = some out → W p l e (headSpec ws_Mo_matches { frames := 3, cells := 0, slots := 0, locals := 79 }).room s m args below meth c H locs 0 0 (MQ below (QcI D A g out.1 (fun (_ : Unit) => w_Mo g a0 out.2 ++ (rest))) args s 0 0 A) (F0 m 21 ls [])) (hl : lv_has ls 3 [(0, .ref (a0 0)), (1, .int x1)]) (hI : Iw D A (w_Mo g a0 s0 ++ (rest)) H) (hS : va_S A s.heap H locs) (h : B_Mo_matches_25 k21 s0 x1 = some out) : W p l e (headSpec ws_Mo_matches { frames := 3, cells := 0, slots := 0, locals := 79 }).room s m args below meth c H locs 0 0 (MQ below (QcI D A g out.1 (fun (_ : Unit) => w_Mo g a0 out.2 ++ (rest))) args s 0 0 A) (F0 m 25 ls []) := by
  have X1 := X
  obtain ⟨hx, hb, hml, hown, hts, hr, hlocks, hKK⟩ := X1
  have ht : ∀ w ∈ TB, w.before args s = true := fun w h => hts w (List.mem_cons_of_mem _ h)
  have hK := hKK.1
  unfold B_Mo_matches_25 at h
  refine lv_sipush (v := 130) hx hb d_Mo_matches_25 (by decide) ?_
  refine lv_aload_n hx hb d_Mo_matches_28 rfl (lv_at hl 0 rfl) ?_
  refine gt_Mo_count hx hb ht hown hK hI (ht _ m_822) d_Mo_matches_29 ?_
  refine lv_iconst (v := 1) hx hb d_Mo_matches_32 (by decide) ?_
  by_cases hc1 : ((1 : Int32) < 0 ∨ 2 ≤ (1 : Int32).toNatClampNeg)
  · exact no_s (it_t h hc1)
  have h := it_f h hc1
  refine al_Mo_count hx hb hK hI hc1 d_Mo_matches_33 ?_
  refine lv_iadd hx hb d_Mo_matches_34 ?_
  refine lv_iconst (v := 1) hx hb d_Mo_matches_35 (by decide) ?_
  refine lv_isub hx hb d_Mo_matches_36 ?_
  refine lv_istore_n hx hb d_Mo_matches_37 rfl hl (Nat.le_of_ble_eq_true rfl) rfl (fun ls hl => ?_)
  have hl : lv_has ls 3 [(2, .int (((130 : Int32) + ((Mo_count s0) (1 : Int32).toNatClampNeg)) - (1 : Int32))), (0, .ref (a0 0)), (1, .int x1)] := hl
  exact T_Mo_matches_38 X hk21 (lv_sub hl [1, 2, 0] rfl) hI hS h
set_option maxRecDepth 100000 in
set_option maxHeartbeats 4000000 in
theorem t_Mo_matches_21 {p : Program} {l : Launch} {e : Env} {s : State} {m : MethodId} {args : Array Value} {below : List Frame} {meth : Method} {c : Code} {D : va_G} {A : Nat → Prop} {g : Nat → ClassId} {rest : va_W} {a0 : Nat → Nat} {ls : Array Slot} {H : Heap} {locs : List Loc} {k21 : S_Mo × Int32 → Option (Int32 × S_Mo)} {s0 : S_Mo} {x1 : Int32} {out : Int32 × S_Mo} (X : Cx p s m args meth c prog_11_method_51_code 3 ws_Mo_matches R_Mo (some .boolean) D g) (hk21 : ∀ (v : S_Mo × Int32) (ls : Array Slot) (H : Heap) (locs : List Loc), lv_has ls 3 [(0, .ref (a0 0)), (1, .int v.2)] → Iw D A (w_Mo g a0 v.1 ++ (rest)) H → va_S A s.heap H locs → k21 v = some out → W p l e (headSpec ws_Mo_matches { frames := 3, cells := 0, slots := 0, locals := 79 }).room s m args below meth c H locs 0 0 (MQ below (QcI D A g out.1 (fun (_ : Unit) => w_Mo g a0 out.2 ++ (rest))) args s 0 0 A) (F0 m 21 ls [])) (hl : lv_has ls 3 [(0, .ref (a0 0)), (1, .int x1)]) (hI : Iw D A (w_Mo g a0 s0 ++ (rest)) H) (hS : va_S A s.heap H locs) (h : B_Mo_matches_21 k21 s0 x1 = some out) : W p l e (headSpec ws_Mo_matches { frames := 3, cells := 0, slots := 0, locals := 79 }).room s m args below meth c H locs 0 0 (MQ below (QcI D A g out.1 (fun (_ : Unit) => w_Mo g a0 out.2 ++ (rest))) args s 0 0 A) (F0 m 21 ls []) := by
  have X1 := X
  obtain ⟨hx, hb, hml, hown, hts, hr, hlocks, hKK⟩ := X1
  have ht : ∀ w ∈ TB, w.before args s = true := fun w h => hts w (List.mem_cons_of_mem _ h)
  have hK := hKK.1
  unfold B_Mo_matches_21 at h
  refine lv_iload_n hx hb d_Mo_matches_21 rfl (lv_at hl 1 rfl) ?_
  refine lv_if_lt (tgt := 102) hx hb d_Mo_matches_22 (by decide) (fun hc => ?_) (fun hc => ?_)
  · have h := it_t h hc
    exact t_Mo_matches_102 X (lv_sub hl [0] rfl) hI hS h
  · have h := it_f h hc
    exact t_Mo_matches_25 X hk21 (lv_sub hl [0, 1] rfl) hI hS h
set_option maxRecDepth 100000 in
set_option maxHeartbeats 4000000 in
theorem T_Mo_matches_21 {p : Program} {l : Launch} {e : Env} {s : State} {m : MethodId} {args : Array Value} {below : List Frame} {meth : Method} {c : Code} {D : va_G} {A : Nat → Prop} {g : Nat → ClassId} {rest : va_W} {a0 : Nat → Nat} {ls : Array Slot} {H : Heap} {locs : List Loc} {s0 : S_Mo} {x1 : Int32} {out : Int32 × S_Mo} (X : Cx p s m args meth c prog_11_method_51_code 3 ws_Mo_matches R_Mo (some .boolean) D g) (hl : lv_has ls 3 [(0, .ref (a0 0)), (1, .int x1)]) (hI : Iw D A (w_Mo g a0 s0 ++ (rest)) H) (hS : va_S A s.heap H locs) (h : L_Mo_matches_21   (s0, x1) = some out) : W p l e (headSpec ws_Mo_matches { frames := 3, cells := 0, slots := 0, locals := 79 }).room s m args below meth c H locs 0 0 (MQ below (QcI D A g out.1 (fun (_ : Unit) => w_Mo g a0 out.2 ++ (rest))) args s 0 0 A) (F0 m 21 ls []) := by
  unfold L_Mo_matches_21 at h
  exact lp_ind (P := fun v => ∀ (ls : Array Slot) (H : Heap) (locs : List Loc), lv_has ls 3 [(0, .ref (a0 0)), (1, .int v.2)] → Iw D A (w_Mo g a0 v.1 ++ (rest)) H → va_S A s.heap H locs → W p l e (headSpec ws_Mo_matches { frames := 3, cells := 0, slots := 0, locals := 79 }).room s m args below meth c H locs 0 0 (MQ below (QcI D A g out.1 (fun (_ : Unit) => w_Mo g a0 out.2 ++ (rest))) args s 0 0 A) (F0 m 21 ls [])) (fun k v ih hb ls H locs  hl hI hS => t_Mo_matches_21 X  (fun v' ls H locs  hl hI hS h' => ih v' h' ls H locs  hl hI hS) hl hI hS hb) FU _ h ls H locs  hl hI hS
set_option maxRecDepth 100000 in
set_option maxHeartbeats 4000000 in
theorem t_Mo_matches_0 {p : Program} {l : Launch} {e : Env} {s : State} {m : MethodId} {args : Array Value} {below : List Frame} {meth : Method} {c : Code} {D : va_G} {A : Nat → Prop} {g : Nat → ClassId} {rest : va_W} {a0 : Nat → Nat} {ls : Array Slot} {H : Heap} {locs : List Loc} {s0 : S_Mo} {out : Int32 × S_Mo} (X : Cx p s m args meth c prog_11_method_51_code 3 ws_Mo_matches R_Mo (some .boolean) D g) (hl : lv_has ls 3 [(0, .ref (a0 0))]) (hI : Iw D A (w_Mo g a0 s0 ++ (rest)) H) (hS : va_S A s.heap H locs) (h : B_Mo_matches_0  s0 = some out) : W p l e (headSpec ws_Mo_matches { frames := 3, cells := 0, slots := 0, locals := 79 }).room s m args below meth c H locs 0 0 (MQ below (QcI D A g out.1 (fun (_ : Unit) => w_Mo g a0 out.2 ++ (rest))) args s 0 0 A) (F0 m 0 ls []) := by
  have X1 := X
  obtain ⟨hx, hb, hml, hown, hts, hr, hlocks, hKK⟩ := X1
  have ht : ∀ w ∈ TB, w.before args s = true := fun w h => hts w (List.mem_cons_of_mem _ h)
  have hK := hKK.1
  unfold B_Mo_matches_0 at h
  refine lv_aload_n hx hb d_Mo_matches_0 rfl (lv_at hl 0 rfl) ?_
  refine lv_iconst (v := 0) hx hb d_Mo_matches_1 (by decide) ?_
  obtain ⟨o1, ho2, h⟩ := bd_s h
  refine cl_i (W1 := fun (_ : Unit) => w_Mo g a0 o1.2 ++ (rest)) (va_runV (As := [.int (0 : Int32)]) (rest := []) ⟨hx, hb, hml, hown, ht⟩ (c_Mo_sets (l := l) (D := D) (A := A) (g := g) (rest := rest) (a0 := a0) ho2) (cwV 1 ht (gd_V m_1148 m_1150 mp_71 m_11 m_1151) rfl rfl rfl (by decide +kernel) ⟨(Nat.le_of_ble_eq_true rfl), (Nat.le_of_ble_eq_true rfl)⟩) (prV (ci := 9) (q0 := 0) hKK hI (List.Perm.refl _) rfl rfl rfl) rfl rfl hl.1 rfl (lv_room (Nat.le_of_ble_eq_true rfl)) d_Mo_matches_2 ⟨(Nat.le_of_ble_eq_true rfl), (Nat.le_of_ble_eq_true rfl)⟩) hS (fun _ => ((List.Perm.refl _)).symm) (fun _ H locs hI hS => ?_)
  have hI : Iw D A (w_Mo g a0 o1.2 ++ (rest)) H := hI
  refine lv_pop hx hb d_Mo_matches_5 rfl ?_
  refine lv_aload_n hx hb d_Mo_matches_6 rfl (lv_at hl 0 rfl) ?_
  refine lv_iconst (v := 1) hx hb d_Mo_matches_7 (by decide) ?_
  obtain ⟨o3, ho4, h⟩ := bd_s h
  refine cl_i (W1 := fun (_ : Unit) => w_Mo g a0 o3.2 ++ (rest)) (va_runV (As := [.int (1 : Int32)]) (rest := []) ⟨hx, hb, hml, hown, ht⟩ (c_Mo_sets (l := l) (D := D) (A := A) (g := g) (rest := rest) (a0 := a0) ho4) (cwV 1 ht (gd_V m_1148 m_1150 mp_71 m_11 m_1151) rfl rfl rfl (by decide +kernel) ⟨(Nat.le_of_ble_eq_true rfl), (Nat.le_of_ble_eq_true rfl)⟩) (prV (ci := 9) (q0 := 0) hKK hI (List.Perm.refl _) rfl rfl rfl) rfl rfl hl.1 rfl (lv_room (Nat.le_of_ble_eq_true rfl)) d_Mo_matches_8 ⟨(Nat.le_of_ble_eq_true rfl), (Nat.le_of_ble_eq_true rfl)⟩) hS (fun _ => ((List.Perm.refl _)).symm) (fun _ H locs hI hS => ?_)
  have hI : Iw D A (w_Mo g a0 o3.2 ++ (rest)) H := hI
  refine lv_pop hx hb d_Mo_matches_11 rfl ?_
  refine lv_aload_n hx hb d_Mo_matches_12 rfl (lv_at hl 0 rfl) ?_
  refine gt_Mo_count hx hb ht hown hK hI (ht _ m_822) d_Mo_matches_13 ?_
  refine lv_iconst (v := 0) hx hb d_Mo_matches_16 (by decide) ?_
  by_cases hc5 : ((0 : Int32) < 0 ∨ 2 ≤ (0 : Int32).toNatClampNeg)
  · exact no_s (it_t h hc5)
  have h := it_f h hc5
  refine al_Mo_count hx hb hK hI hc5 d_Mo_matches_17 ?_
  refine lv_iconst (v := 1) hx hb d_Mo_matches_18 (by decide) ?_
  refine lv_isub hx hb d_Mo_matches_19 ?_
  refine lv_istore_n hx hb d_Mo_matches_20 rfl hl (Nat.le_of_ble_eq_true rfl) rfl (fun ls hl => ?_)
  have hl : lv_has ls 3 [(1, .int (((Mo_count o3.2) (0 : Int32).toNatClampNeg) - (1 : Int32))), (0, .ref (a0 0))] := hl
  exact T_Mo_matches_21 X (lv_sub hl [1, 0] rfl) hI hS h
set_option maxRecDepth 100000 in
set_option maxHeartbeats 4000000 in
theorem c_Mo_matches {l : Launch} {D : va_G} {A : Nat → Prop} {g : Nat → ClassId} {rest : va_W} {a0 : Nat → Nat} {s0 : S_Mo} {out : Int32 × S_Mo} (h : F_Mo_matches s0 = some out) : Met l y_Mo_matches ws_Mo_matches { frames := 3, cells := 0, slots := 0, locals := 79 } (PcW D A g [.ref (a0 0)] (w_Mo g a0 s0 ++ (rest))) (QcI D A g out.1 (fun (_ : Unit) => w_Mo g a0 out.2 ++ (rest))) 0 0 A := by
  refine Met.ofW (cc := prog_11_method_51_code) (maxL := 3) (ret := (some .boolean)) (by decide) rfl ?_
  intro p e s m args below meth c s₁ B hml hv
  obtain ⟨rfl, hI, hK⟩ := hv
  have hl := lv_entry [.ref (a0 0)] (n := 3) (Nat.le_of_ble_eq_true rfl)
  rw [lg_entry_eq]
  generalize (lg_sl [.ref (a0 0)] ++ List.replicate (3 - (lg_sl [.ref (a0 0)]).length) Slot.unset).toArray = ls at hl ⊢
  have hl : lv_has ls 3 [(0, .ref (a0 0))] := hl
  exact t_Mo_matches_0 ⟨B.exec, B.bytes, hml, findClass_of_methodNamed B.named, atoms_spec (ws := ws_Mo_matches) B.pre, B.returns, B.notSynchronized, hK⟩ (lv_sub hl [0] rfl) hI va_S.rf h
