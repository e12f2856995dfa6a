theorem d_Mo_measure_0 : decode prog_11_method_15_code 0 = .ok (.iconst 1, 1) := by decide +kernel
theorem d_Mo_measure_1 : decode prog_11_method_15_code 1 = .ok (.istore_n 3, 1) := by decide +kernel
theorem d_Mo_measure_2 : decode prog_11_method_15_code 2 = .ok (.sipush 130, 3) := by decide +kernel
theorem d_Mo_measure_5 : decode prog_11_method_15_code 5 = .ok (.iload_n 1, 1) := by decide +kernel
theorem d_Mo_measure_6 : decode prog_11_method_15_code 6 = .ok (.imul, 1) := by decide +kernel
theorem d_Mo_measure_7 : decode prog_11_method_15_code 7 = .ok (.aload_n 0, 1) := by decide +kernel
theorem d_Mo_measure_8 : decode prog_11_method_15_code 8 = .ok (.getfield 16, 3) := by decide +kernel
theorem d_Mo_measure_11 : decode prog_11_method_15_code 11 = .ok (.iload_n 1, 1) := by decide +kernel
theorem d_Mo_measure_12 : decode prog_11_method_15_code 12 = .ok (.iaload, 1) := by decide +kernel
theorem d_Mo_measure_13 : decode prog_11_method_15_code 13 = .ok (.iadd, 1) := by decide +kernel
theorem d_Mo_measure_14 : decode prog_11_method_15_code 14 = .ok (.iconst 1, 1) := by decide +kernel
theorem d_Mo_measure_15 : decode prog_11_method_15_code 15 = .ok (.isub, 1) := by decide +kernel
theorem d_Mo_measure_16 : decode prog_11_method_15_code 16 = .ok (.istore 4, 2) := by decide +kernel
theorem d_Mo_measure_18 : decode prog_11_method_15_code 18 = .ok (.iload 4, 2) := by decide +kernel
theorem d_Mo_measure_20 : decode prog_11_method_15_code 20 = .ok (.sipush 130, 3) := by decide +kernel
theorem d_Mo_measure_23 : decode prog_11_method_15_code 23 = .ok (.iload_n 1, 1) := by decide +kernel
theorem d_Mo_measure_24 : decode prog_11_method_15_code 24 = .ok (.imul, 1) := by decide +kernel
theorem d_Mo_measure_25 : decode prog_11_method_15_code 25 = .ok (.if_icmp .lt 164, 3) := by decide +kernel
theorem d_Mo_measure_28 : decode prog_11_method_15_code 28 = .ok (.aload_n 0, 1) := by decide +kernel
theorem d_Mo_measure_29 : decode prog_11_method_15_code 29 = .ok (.getfield 19, 3) := by decide +kernel
theorem d_Mo_measure_32 : decode prog_11_method_15_code 32 = .ok (.iload 4, 2) := by decide +kernel
theorem d_Mo_measure_34 : decode prog_11_method_15_code 34 = .ok (.iaload, 1) := by decide +kernel
theorem d_Mo_measure_35 : decode prog_11_method_15_code 35 = .ok (.iconst 1, 1) := by decide +kernel
theorem d_Mo_measure_36 : decode prog_11_method_15_code 36 = .ok (.if_icmp .ne 16, 3) := by decide +kernel
theorem d_Mo_measure_39 : decode prog_11_method_15_code 39 = .ok (.aload_n 0, 1) := by decide +kernel
theorem d_Mo_measure_40 : decode prog_11_method_15_code 40 = .ok (.getfield 25, 3) := by decide +kernel
theorem d_Mo_measure_43 : decode prog_11_method_15_code 43 = .ok (.iload 4, 2) := by decide +kernel
theorem d_Mo_measure_45 : decode prog_11_method_15_code 45 = .ok (.iaload, 1) := by decide +kernel
theorem d_Mo_measure_46 : decode prog_11_method_15_code 46 = .ok (.invokestatic 151, 3) := by decide +kernel
theorem d_Mo_measure_49 : decode prog_11_method_15_code 49 = .ok (.goto 35, 3) := by decide +kernel
theorem d_Mo_measure_52 : decode prog_11_method_15_code 52 = .ok (.aload_n 0, 1) := by decide +kernel
theorem d_Mo_measure_53 : decode prog_11_method_15_code 53 = .ok (.getfield 19, 3) := by decide +kernel
theorem d_Mo_measure_56 : decode prog_11_method_15_code 56 = .ok (.iload 4, 2) := by decide +kernel
theorem d_Mo_measure_58 : decode prog_11_method_15_code 58 = .ok (.iaload, 1) := by decide +kernel
theorem d_Mo_measure_59 : decode prog_11_method_15_code 59 = .ok (.iconst 2, 1) := by decide +kernel
theorem d_Mo_measure_60 : decode prog_11_method_15_code 60 = .ok (.if_icmp .ne 23, 3) := by decide +kernel
theorem d_Mo_measure_63 : decode prog_11_method_15_code 63 = .ok (.aload_n 0, 1) := by decide +kernel
theorem d_Mo_measure_64 : decode prog_11_method_15_code 64 = .ok (.getfield 25, 3) := by decide +kernel
theorem d_Mo_measure_67 : decode prog_11_method_15_code 67 = .ok (.iload 4, 2) := by decide +kernel
theorem d_Mo_measure_69 : decode prog_11_method_15_code 69 = .ok (.iaload, 1) := by decide +kernel
theorem d_Mo_measure_70 : decode prog_11_method_15_code 70 = .ok (.aload_n 0, 1) := by decide +kernel
theorem d_Mo_measure_71 : decode prog_11_method_15_code 71 = .ok (.getfield 25, 3) := by decide +kernel
theorem d_Mo_measure_74 : decode prog_11_method_15_code 74 = .ok (.iload 4, 2) := by decide +kernel
theorem d_Mo_measure_76 : decode prog_11_method_15_code 76 = .ok (.iaload, 1) := by decide +kernel
theorem d_Mo_measure_77 : decode prog_11_method_15_code 77 = .ok (.iconst 2, 1) := by decide +kernel
theorem d_Mo_measure_78 : decode prog_11_method_15_code 78 = .ok (.irem, 1) := by decide +kernel
theorem d_Mo_measure_79 : decode prog_11_method_15_code 79 = .ok (.iadd, 1) := by decide +kernel
theorem d_Mo_measure_80 : decode prog_11_method_15_code 80 = .ok (.goto 4, 3) := by decide +kernel
theorem d_Mo_measure_83 : decode prog_11_method_15_code 83 = .ok (.iconst 0, 1) := by decide +kernel
theorem d_Mo_measure_84 : decode prog_11_method_15_code 84 = .ok (.istore 5, 2) := by decide +kernel
theorem d_Mo_measure_86 : decode prog_11_method_15_code 86 = .ok (.aload_n 0, 1) := by decide +kernel
theorem d_Mo_measure_87 : decode prog_11_method_15_code 87 = .ok (.getfield 34, 3) := by decide +kernel
theorem d_Mo_measure_90 : decode prog_11_method_15_code 90 = .ok (.iload 4, 2) := by decide +kernel
theorem d_Mo_measure_92 : decode prog_11_method_15_code 92 = .ok (.iaload, 1) := by decide +kernel
theorem d_Mo_measure_93 : decode prog_11_method_15_code 93 = .ok (.istore 6, 2) := by decide +kernel
theorem d_Mo_measure_95 : decode prog_11_method_15_code 95 = .ok (.iload 6, 2) := by decide +kernel
theorem d_Mo_measure_97 : decode prog_11_method_15_code 97 = .ok (.ifCond .lt 49, 3) := by decide +kernel
theorem d_Mo_measure_100 : decode prog_11_method_15_code 100 = .ok (.iload 5, 2) := by decide +kernel
theorem d_Mo_measure_102 : decode prog_11_method_15_code 102 = .ok (.aload_n 0, 1) := by decide +kernel
theorem d_Mo_measure_103 : decode prog_11_method_15_code 103 = .ok (.getfield 46, 3) := by decide +kernel
theorem d_Mo_measure_106 : decode prog_11_method_15_code 106 = .ok (.iload 6, 2) := by decide +kernel
theorem d_Mo_measure_108 : decode prog_11_method_15_code 108 = .ok (.iaload, 1) := by decide +kernel
theorem d_Mo_measure_109 : decode prog_11_method_15_code 109 = .ok (.iconst 2, 1) := by decide +kernel
theorem d_Mo_measure_110 : decode prog_11_method_15_code 110 = .ok (.iadd, 1) := by decide +kernel
theorem d_Mo_measure_111 : decode prog_11_method_15_code 111 = .ok (.aload_n 0, 1) := by decide +kernel
theorem d_Mo_measure_112 : decode prog_11_method_15_code 112 = .ok (.getfield 19, 3) := by decide +kernel
theorem d_Mo_measure_115 : decode prog_11_method_15_code 115 = .ok (.iload 6, 2) := by decide +kernel
theorem d_Mo_measure_117 : decode prog_11_method_15_code 117 = .ok (.iaload, 1) := by decide +kernel
theorem d_Mo_measure_118 : decode prog_11_method_15_code 118 = .ok (.ifCond .eq 11, 3) := by decide +kernel
theorem d_Mo_measure_121 : decode prog_11_method_15_code 121 = .ok (.iload_n 2, 1) := by decide +kernel
theorem d_Mo_measure_122 : decode prog_11_method_15_code 122 = .ok (.ifCond .ne 7, 3) := by decide +kernel
theorem d_Mo_measure_125 : decode prog_11_method_15_code 125 = .ok (.iconst 1, 1) := by decide +kernel
theorem d_Mo_measure_126 : decode prog_11_method_15_code 126 = .ok (.goto 4, 3) := by decide +kernel
theorem d_Mo_measure_129 : decode prog_11_method_15_code 129 = .ok (.iconst 0, 1) := by decide +kernel
theorem d_Mo_measure_130 : decode prog_11_method_15_code 130 = .ok (.iadd, 1) := by decide +kernel
theorem d_Mo_measure_131 : decode prog_11_method_15_code 131 = .ok (.iadd, 1) := by decide +kernel
theorem d_Mo_measure_132 : decode prog_11_method_15_code 132 = .ok (.istore 5, 2) := by decide +kernel
theorem d_Mo_measure_134 : decode prog_11_method_15_code 134 = .ok (.aload_n 0, 1) := by decide +kernel
theorem d_Mo_measure_135 : decode prog_11_method_15_code 135 = .ok (.getfield 37, 3) := by decide +kernel
theorem d_Mo_measure_138 : decode prog_11_method_15_code 138 = .ok (.iload 6, 2) := by decide +kernel
theorem d_Mo_measure_140 : decode prog_11_method_15_code 140 = .ok (.iaload, 1) := by decide +kernel
theorem d_Mo_measure_141 : decode prog_11_method_15_code 141 = .ok (.istore 6, 2) := by decide +kernel
theorem d_Mo_measure_143 : decode prog_11_method_15_code 143 = .ok (.goto (-48), 3) := by decide +kernel
theorem d_Mo_measure_146 : decode prog_11_method_15_code 146 = .ok (.aload_n 0, 1) := by decide +kernel
theorem d_Mo_measure_147 : decode prog_11_method_15_code 147 = .ok (.getfield 46, 3) := by decide +kernel
theorem d_Mo_measure_150 : decode prog_11_method_15_code 150 = .ok (.iload 4, 2) := by decide +kernel
theorem d_Mo_measure_152 : decode prog_11_method_15_code 152 = .ok (.iload 5, 2) := by decide +kernel
theorem d_Mo_measure_154 : decode prog_11_method_15_code 154 = .ok (.iastore, 1) := by decide +kernel
theorem d_Mo_measure_155 : decode prog_11_method_15_code 155 = .ok (.iload_n 3, 1) := by decide +kernel
theorem d_Mo_measure_156 : decode prog_11_method_15_code 156 = .ok (.ifCond .eq 25, 3) := by decide +kernel
theorem d_Mo_measure_159 : decode prog_11_method_15_code 159 = .ok (.aload_n 0, 1) := by decide +kernel
theorem d_Mo_measure_160 : decode prog_11_method_15_code 160 = .ok (.getfield 31, 3) := by decide +kernel
theorem d_Mo_measure_163 : decode prog_11_method_15_code 163 = .ok (.iload 4, 2) := by decide +kernel
theorem d_Mo_measure_165 : decode prog_11_method_15_code 165 = .ok (.iaload, 1) := by decide +kernel
theorem d_Mo_measure_166 : decode prog_11_method_15_code 166 = .ok (.ifCond .lt 11, 3) := by decide +kernel
theorem d_Mo_measure_169 : decode prog_11_method_15_code 169 = .ok (.iload 5, 2) := by decide +kernel
theorem d_Mo_measure_171 : decode prog_11_method_15_code 171 = .ok (.sipush 240, 3) := by decide +kernel
theorem d_Mo_measure_174 : decode prog_11_method_15_code 174 = .ok (.if_icmp .gt 7, 3) := by decide +kernel
theorem d_Mo_measure_177 : decode prog_11_method_15_code 177 = .ok (.iconst 1, 1) := by decide +kernel
theorem d_Mo_measure_178 : decode prog_11_method_15_code 178 = .ok (.goto 4, 3) := by decide +kernel
theorem d_Mo_measure_181 : decode prog_11_method_15_code 181 = .ok (.iconst 0, 1) := by decide +kernel
theorem d_Mo_measure_182 : decode prog_11_method_15_code 182 = .ok (.istore_n 3, 1) := by decide +kernel
theorem d_Mo_measure_183 : decode prog_11_method_15_code 183 = .ok (.iinc 4 (-1), 3) := by decide +kernel
theorem d_Mo_measure_186 : decode prog_11_method_15_code 186 = .ok (.goto (-168), 3) := by decide +kernel
theorem d_Mo_measure_189 : decode prog_11_method_15_code 189 = .ok (.iload_n 3, 1) := by decide +kernel
theorem d_Mo_measure_190 : decode prog_11_method_15_code 190 = .ok (.ireturn, 1) := by decide +kernel
theorem d_Mo_write_0 : decode prog_11_method_17_code 0 = .ok (.iload_n 1, 1) := by decide +kernel
theorem d_Mo_write_1 : decode prog_11_method_17_code 1 = .ok (.istore 4, 2) := by decide +kernel
theorem d_Mo_write_3 : decode prog_11_method_17_code 3 = .ok (.iload 4, 2) := by decide +kernel
theorem d_Mo_write_5 : decode prog_11_method_17_code 5 = .ok (.iload_n 2, 1) := by decide +kernel
theorem d_Mo_write_6 : decode prog_11_method_17_code 6 = .ok (.if_icmp .ge 203, 3) := by decide +kernel
theorem d_Mo_write_9 : decode prog_11_method_17_code 9 = .ok (.aload_n 0, 1) := by decide +kernel
theorem d_Mo_write_10 : decode prog_11_method_17_code 10 = .ok (.getfield 31, 3) := by decide +kernel
theorem d_Mo_write_13 : decode prog_11_method_17_code 13 = .ok (.iload 4, 2) := by decide +kernel
theorem d_Mo_write_15 : decode prog_11_method_17_code 15 = .ok (.iaload, 1) := by decide +kernel
theorem d_Mo_write_16 : decode prog_11_method_17_code 16 = .ok (.ifCond .lt 66, 3) := by decide +kernel
theorem d_Mo_write_19 : decode prog_11_method_17_code 19 = .ok (.aload_n 0, 1) := by decide +kernel
theorem d_Mo_write_20 : decode prog_11_method_17_code 20 = .ok (.aload_n 0, 1) := by decide +kernel
theorem d_Mo_write_21 : decode prog_11_method_17_code 21 = .ok (.getfield 19, 3) := by decide +kernel
theorem d_Mo_write_24 : decode prog_11_method_17_code 24 = .ok (.iload 4, 2) := by decide +kernel
theorem d_Mo_write_26 : decode prog_11_method_17_code 26 = .ok (.iaload, 1) := by decide +kernel
theorem d_Mo_write_27 : decode prog_11_method_17_code 27 = .ok (.ifCond .ne 9, 3) := by decide +kernel
theorem d_Mo_write_30 : decode prog_11_method_17_code 30 = .ok (.sipush 254, 3) := by decide +kernel
theorem d_Mo_write_33 : decode prog_11_method_17_code 33 = .ok (.goto 10, 3) := by decide +kernel
theorem d_Mo_write_36 : decode prog_11_method_17_code 36 = .ok (.aload_n 0, 1) := by decide +kernel
theorem d_Mo_write_37 : decode prog_11_method_17_code 37 = .ok (.getfield 22, 3) := by decide +kernel
theorem d_Mo_write_40 : decode prog_11_method_17_code 40 = .ok (.iload 4, 2) := by decide +kernel
theorem d_Mo_write_42 : decode prog_11_method_17_code 42 = .ok (.iaload, 1) := by decide +kernel
theorem d_Mo_write_43 : decode prog_11_method_17_code 43 = .ok (.invokevirtual 158, 3) := by decide +kernel
theorem d_Mo_write_46 : decode prog_11_method_17_code 46 = .ok (.aload_n 0, 1) := by decide +kernel
theorem d_Mo_write_47 : decode prog_11_method_17_code 47 = .ok (.getfield 19, 3) := by decide +kernel
theorem d_Mo_write_50 : decode prog_11_method_17_code 50 = .ok (.iload 4, 2) := by decide +kernel
theorem d_Mo_write_52 : decode prog_11_method_17_code 52 = .ok (.iaload, 1) := by decide +kernel
theorem d_Mo_write_53 : decode prog_11_method_17_code 53 = .ok (.ifCond .eq 18, 3) := by decide +kernel
theorem d_Mo_write_56 : decode prog_11_method_17_code 56 = .ok (.iload_n 3, 1) := by decide +kernel
theorem d_Mo_write_57 : decode prog_11_method_17_code 57 = .ok (.ifCond .ne 14, 3) := by decide +kernel
theorem d_Mo_write_60 : decode prog_11_method_17_code 60 = .ok (.aload_n 0, 1) := by decide +kernel
theorem d_Mo_write_61 : decode prog_11_method_17_code 61 = .ok (.aload_n 0, 1) := by decide +kernel
theorem d_Mo_write_62 : decode prog_11_method_17_code 62 = .ok (.getfield 19, 3) := by decide +kernel
theorem d_Mo_write_65 : decode prog_11_method_17_code 65 = .ok (.iload 4, 2) := by decide +kernel
theorem d_Mo_write_67 : decode prog_11_method_17_code 67 = .ok (.iaload, 1) := by decide +kernel
theorem d_Mo_write_68 : decode prog_11_method_17_code 68 = .ok (.invokevirtual 158, 3) := by decide +kernel
theorem d_Mo_write_71 : decode prog_11_method_17_code 71 = .ok (.aload_n 0, 1) := by decide +kernel
theorem d_Mo_write_72 : decode prog_11_method_17_code 72 = .ok (.aload_n 0, 1) := by decide +kernel
theorem d_Mo_write_73 : decode prog_11_method_17_code 73 = .ok (.getfield 46, 3) := by decide +kernel
theorem d_Mo_write_76 : decode prog_11_method_17_code 76 = .ok (.iload 4, 2) := by decide +kernel
theorem d_Mo_write_78 : decode prog_11_method_17_code 78 = .ok (.iaload, 1) := by decide +kernel
theorem d_Mo_write_79 : decode prog_11_method_17_code 79 = .ok (.invokevirtual 158, 3) := by decide +kernel
theorem d_Mo_write_82 : decode prog_11_method_17_code 82 = .ok (.iconst 0, 1) := by decide +kernel
theorem d_Mo_write_83 : decode prog_11_method_17_code 83 = .ok (.istore 5, 2) := by decide +kernel
theorem d_Mo_write_85 : decode prog_11_method_17_code 85 = .ok (.iload 5, 2) := by decide +kernel
theorem d_Mo_write_87 : decode prog_11_method_17_code 87 = .ok (.aload_n 0, 1) := by decide +kernel
theorem d_Mo_write_88 : decode prog_11_method_17_code 88 = .ok (.getfield 46, 3) := by decide +kernel
theorem d_Mo_write_91 : decode prog_11_method_17_code 91 = .ok (.iload 4, 2) := by decide +kernel
theorem d_Mo_write_93 : decode prog_11_method_17_code 93 = .ok (.iaload, 1) := by decide +kernel
theorem d_Mo_write_94 : decode prog_11_method_17_code 94 = .ok (.if_icmp .ge 41, 3) := by decide +kernel
theorem d_Mo_write_97 : decode prog_11_method_17_code 97 = .ok (.aload_n 0, 1) := by decide +kernel
theorem d_Mo_write_98 : decode prog_11_method_17_code 98 = .ok (.getfield 19, 3) := by decide +kernel
theorem d_Mo_write_101 : decode prog_11_method_17_code 101 = .ok (.iload 4, 2) := by decide +kernel
theorem d_Mo_write_103 : decode prog_11_method_17_code 103 = .ok (.iaload, 1) := by decide +kernel
theorem d_Mo_write_104 : decode prog_11_method_17_code 104 = .ok (.iconst 1, 1) := by decide +kernel
theorem d_Mo_write_105 : decode prog_11_method_17_code 105 = .ok (.if_icmp .ne 30, 3) := by decide +kernel
theorem d_Mo_write_108 : decode prog_11_method_17_code 108 = .ok (.aload_n 0, 1) := by decide +kernel
theorem d_Mo_write_109 : decode prog_11_method_17_code 109 = .ok (.aload_n 0, 1) := by decide +kernel
theorem d_Mo_write_110 : decode prog_11_method_17_code 110 = .ok (.getfield 25, 3) := by decide +kernel
theorem d_Mo_write_113 : decode prog_11_method_17_code 113 = .ok (.iload 4, 2) := by decide +kernel
theorem d_Mo_write_115 : decode prog_11_method_17_code 115 = .ok (.iaload, 1) := by decide +kernel
theorem d_Mo_write_116 : decode prog_11_method_17_code 116 = .ok (.bipush 8, 2) := by decide +kernel
theorem d_Mo_write_118 : decode prog_11_method_17_code 118 = .ok (.iload 5, 2) := by decide +kernel
theorem d_Mo_write_120 : decode prog_11_method_17_code 120 = .ok (.imul, 1) := by decide +kernel
theorem d_Mo_write_121 : decode prog_11_method_17_code 121 = .ok (.ishr, 1) := by decide +kernel
theorem d_Mo_write_122 : decode prog_11_method_17_code 122 = .ok (.sipush 255, 3) := by decide +kernel
theorem d_Mo_write_125 : decode prog_11_method_17_code 125 = .ok (.iand, 1) := by decide +kernel
theorem d_Mo_write_126 : decode prog_11_method_17_code 126 = .ok (.invokevirtual 158, 3) := by decide +kernel
theorem d_Mo_write_129 : decode prog_11_method_17_code 129 = .ok (.iinc 5 1, 3) := by decide +kernel
theorem d_Mo_write_132 : decode prog_11_method_17_code 132 = .ok (.goto (-47), 3) := by decide +kernel
theorem d_Mo_write_135 : decode prog_11_method_17_code 135 = .ok (.iconst 0, 1) := by decide +kernel
theorem d_Mo_write_136 : decode prog_11_method_17_code 136 = .ok (.istore 5, 2) := by decide +kernel
theorem d_Mo_write_138 : decode prog_11_method_17_code 138 = .ok (.iload 5, 2) := by decide +kernel
theorem d_Mo_write_140 : decode prog_11_method_17_code 140 = .ok (.aload_n 0, 1) := by decide +kernel
theorem d_Mo_write_141 : decode prog_11_method_17_code 141 = .ok (.getfield 46, 3) := by decide +kernel
theorem d_Mo_write_144 : decode prog_11_method_17_code 144 = .ok (.iload 4, 2) := by decide +kernel
theorem d_Mo_write_146 : decode prog_11_method_17_code 146 = .ok (.iaload, 1) := by decide +kernel
theorem d_Mo_write_147 : decode prog_11_method_17_code 147 = .ok (.if_icmp .ge 56, 3) := by decide +kernel
theorem d_Mo_write_150 : decode prog_11_method_17_code 150 = .ok (.aload_n 0, 1) := by decide +kernel
theorem d_Mo_write_151 : decode prog_11_method_17_code 151 = .ok (.getfield 19, 3) := by decide +kernel
theorem d_Mo_write_154 : decode prog_11_method_17_code 154 = .ok (.iload 4, 2) := by decide +kernel
theorem d_Mo_write_156 : decode prog_11_method_17_code 156 = .ok (.iaload, 1) := by decide +kernel
theorem d_Mo_write_157 : decode prog_11_method_17_code 157 = .ok (.iconst 2, 1) := by decide +kernel
theorem d_Mo_write_158 : decode prog_11_method_17_code 158 = .ok (.if_icmp .ne 45, 3) := by decide +kernel
theorem d_Mo_write_161 : decode prog_11_method_17_code 161 = .ok (.aload_n 0, 1) := by decide +kernel
theorem d_Mo_write_162 : decode prog_11_method_17_code 162 = .ok (.iload 5, 2) := by decide +kernel
theorem d_Mo_write_164 : decode prog_11_method_17_code 164 = .ok (.aload_n 0, 1) := by decide +kernel
theorem d_Mo_write_165 : decode prog_11_method_17_code 165 = .ok (.getfield 25, 3) := by decide +kernel
theorem d_Mo_write_168 : decode prog_11_method_17_code 168 = .ok (.iload 4, 2) := by decide +kernel
theorem d_Mo_write_170 : decode prog_11_method_17_code 170 = .ok (.iaload, 1) := by decide +kernel
theorem d_Mo_write_171 : decode prog_11_method_17_code 171 = .ok (.if_icmp .ge 21, 3) := by decide +kernel
theorem d_Mo_write_174 : decode prog_11_method_17_code 174 = .ok (.aload_n 0, 1) := by decide +kernel
theorem d_Mo_write_175 : decode prog_11_method_17_code 175 = .ok (.getfield 52, 3) := by decide +kernel
theorem d_Mo_write_178 : decode prog_11_method_17_code 178 = .ok (.aload_n 0, 1) := by decide +kernel
theorem d_Mo_write_179 : decode prog_11_method_17_code 179 = .ok (.getfield 28, 3) := by decide +kernel
theorem d_Mo_write_182 : decode prog_11_method_17_code 182 = .ok (.iload 4, 2) := by decide +kernel
theorem d_Mo_write_184 : decode prog_11_method_17_code 184 = .ok (.iaload, 1) := by decide +kernel
theorem d_Mo_write_185 : decode prog_11_method_17_code 185 = .ok (.iload 5, 2) := by decide +kernel
theorem d_Mo_write_187 : decode prog_11_method_17_code 187 = .ok (.iadd, 1) := by decide +kernel
theorem d_Mo_write_188 : decode prog_11_method_17_code 188 = .ok (.iaload, 1) := by decide +kernel
theorem d_Mo_write_189 : decode prog_11_method_17_code 189 = .ok (.goto 5, 3) := by decide +kernel
theorem d_Mo_write_192 : decode prog_11_method_17_code 192 = .ok (.bipush 32, 2) := by decide +kernel
theorem d_Mo_write_194 : decode prog_11_method_17_code 194 = .ok (.invokevirtual 158, 3) := by decide +kernel
theorem d_Mo_write_197 : decode prog_11_method_17_code 197 = .ok (.iinc 5 1, 3) := by decide +kernel
theorem d_Mo_write_200 : decode prog_11_method_17_code 200 = .ok (.goto (-62), 3) := by decide +kernel
theorem d_Mo_write_203 : decode prog_11_method_17_code 203 = .ok (.iinc 4 1, 3) := by decide +kernel
theorem d_Mo_write_206 : decode prog_11_method_17_code 206 = .ok (.goto (-203), 3) := by decide +kernel
theorem d_Mo_write_209 : decode prog_11_method_17_code 209 = .ok (.return_, 1) := by decide +kernel
theorem d_Mo_canonical_0 : decode prog_11_method_18_code 0 = .ok (.aload_n 0, 1) := by decide +kernel
theorem d_Mo_canonical_1 : decode prog_11_method_18_code 1 = .ok (.iconst 0, 1) := by decide +kernel
theorem d_Mo_canonical_2 : decode prog_11_method_18_code 2 = .ok (.putfield 155, 3) := by decide +kernel
theorem d_Mo_canonical_5 : decode prog_11_method_18_code 5 = .ok (.aload_n 0, 1) := by decide +kernel
theorem d_Mo_canonical_6 : decode prog_11_method_18_code 6 = .ok (.iload_n 1, 1) := by decide +kernel
theorem d_Mo_canonical_7 : decode prog_11_method_18_code 7 = .ok (.iload_n 2, 1) := by decide +kernel
theorem d_Mo_canonical_8 : decode prog_11_method_18_code 8 = .ok (.invokevirtual 162, 3) := by decide +kernel
theorem d_Mo_canonical_11 : decode prog_11_method_18_code 11 = .ok (.ifCond .ne 5, 3) := by decide +kernel
theorem d_Mo_canonical_14 : decode prog_11_method_18_code 14 = .ok (.iconst 0, 1) := by decide +kernel
theorem d_Mo_canonical_15 : decode prog_11_method_18_code 15 = .ok (.ireturn, 1) := by decide +kernel
theorem d_Mo_canonical_16 : decode prog_11_method_18_code 16 = .ok (.sipush 130, 3) := by decide +kernel
theorem d_Mo_canonical_19 : decode prog_11_method_18_code 19 = .ok (.iload_n 1, 1) := by decide +kernel
theorem d_Mo_canonical_20 : decode prog_11_method_18_code 20 = .ok (.imul, 1) := by decide +kernel
theorem d_Mo_canonical_21 : decode prog_11_method_18_code 21 = .ok (.istore_n 3, 1) := by decide +kernel
theorem d_Mo_canonical_22 : decode prog_11_method_18_code 22 = .ok (.aload_n 0, 1) := by decide +kernel
theorem d_Mo_canonical_23 : decode prog_11_method_18_code 23 = .ok (.getfield 46, 3) := by decide +kernel
theorem d_Mo_canonical_26 : decode prog_11_method_18_code 26 = .ok (.iload_n 3, 1) := by decide +kernel
theorem d_Mo_canonical_27 : decode prog_11_method_18_code 27 = .ok (.iaload, 1) := by decide +kernel
theorem d_Mo_canonical_28 : decode prog_11_method_18_code 28 = .ok (.sipush 900, 3) := by decide +kernel
theorem d_Mo_canonical_31 : decode prog_11_method_18_code 31 = .ok (.if_icmp .gt 20, 3) := by decide +kernel
theorem d_Mo_canonical_34 : decode prog_11_method_18_code 34 = .ok (.aload_n 0, 1) := by decide +kernel
theorem d_Mo_canonical_35 : decode prog_11_method_18_code 35 = .ok (.iload_n 3, 1) := by decide +kernel
theorem d_Mo_canonical_36 : decode prog_11_method_18_code 36 = .ok (.iload_n 3, 1) := by decide +kernel
theorem d_Mo_canonical_37 : decode prog_11_method_18_code 37 = .ok (.aload_n 0, 1) := by decide +kernel
theorem d_Mo_canonical_38 : decode prog_11_method_18_code 38 = .ok (.getfield 16, 3) := by decide +kernel
theorem d_Mo_canonical_41 : decode prog_11_method_18_code 41 = .ok (.iload_n 1, 1) := by decide +kernel
theorem d_Mo_canonical_42 : decode prog_11_method_18_code 42 = .ok (.iaload, 1) := by decide +kernel
theorem d_Mo_canonical_43 : decode prog_11_method_18_code 43 = .ok (.iadd, 1) := by decide +kernel
theorem d_Mo_canonical_44 : decode prog_11_method_18_code 44 = .ok (.iload_n 2, 1) := by decide +kernel
theorem d_Mo_canonical_45 : decode prog_11_method_18_code 45 = .ok (.invokevirtual 165, 3) := by decide +kernel
theorem d_Mo_canonical_48 : decode prog_11_method_18_code 48 = .ok (.goto 13, 3) := by decide +kernel
theorem d_Mo_canonical_51 : decode prog_11_method_18_code 51 = .ok (.aload_n 0, 1) := by decide +kernel
theorem d_Mo_canonical_52 : decode prog_11_method_18_code 52 = .ok (.aload_n 0, 1) := by decide +kernel
theorem d_Mo_canonical_53 : decode prog_11_method_18_code 53 = .ok (.getfield 46, 3) := by decide +kernel
theorem d_Mo_canonical_56 : decode prog_11_method_18_code 56 = .ok (.iload_n 3, 1) := by decide +kernel
theorem d_Mo_canonical_57 : decode prog_11_method_18_code 57 = .ok (.iaload, 1) := by decide +kernel
theorem d_Mo_canonical_58 : decode prog_11_method_18_code 58 = .ok (.putfield 155, 3) := by decide +kernel
theorem d_Mo_canonical_61 : decode prog_11_method_18_code 61 = .ok (.iconst 1, 1) := by decide +kernel
theorem d_Mo_canonical_62 : decode prog_11_method_18_code 62 = .ok (.ireturn, 1) := by decide +kernel
theorem d_Mo_convert_0 : decode prog_11_method_23_code 0 = .ok (.aload_n 0, 1) := by decide +kernel
theorem d_Mo_convert_1 : decode prog_11_method_23_code 1 = .ok (.iload_n 1, 1) := by decide +kernel
theorem d_Mo_convert_2 : decode prog_11_method_23_code 2 = .ok (.iconst 0, 1) := by decide +kernel
theorem d_Mo_convert_3 : decode prog_11_method_23_code 3 = .ok (.iconst 1, 1) := by decide +kernel
theorem d_Mo_convert_4 : decode prog_11_method_23_code 4 = .ok (.invokestatic 139, 3) := by decide +kernel
theorem d_Mo_convert_7 : decode prog_11_method_23_code 7 = .ok (.ifCond .eq 16, 3) := by decide +kernel
theorem d_Mo_convert_10 : decode prog_11_method_23_code 10 = .ok (.iload_n 2, 1) := by decide +kernel
theorem d_Mo_convert_11 : decode prog_11_method_23_code 11 = .ok (.iconst 0, 1) := by decide +kernel
theorem d_Mo_convert_12 : decode prog_11_method_23_code 12 = .ok (.iconst 1, 1) := by decide +kernel
theorem d_Mo_convert_13 : decode prog_11_method_23_code 13 = .ok (.invokestatic 139, 3) := by decide +kernel
theorem d_Mo_convert_16 : decode prog_11_method_23_code 16 = .ok (.ifCond .eq 7, 3) := by decide +kernel
theorem d_Mo_convert_19 : decode prog_11_method_23_code 19 = .ok (.iconst 0, 1) := by decide +kernel
theorem d_Mo_convert_20 : decode prog_11_method_23_code 20 = .ok (.goto 4, 3) := by decide +kernel
theorem d_Mo_convert_23 : decode prog_11_method_23_code 23 = .ok (.iconst 1, 1) := by decide +kernel
theorem d_Mo_convert_24 : decode prog_11_method_23_code 24 = .ok (.putfield 105, 3) := by decide +kernel
theorem d_Mo_convert_27 : decode prog_11_method_23_code 27 = .ok (.aload_n 0, 1) := by decide +kernel
theorem d_Mo_convert_28 : decode prog_11_method_23_code 28 = .ok (.getfield 105, 3) := by decide +kernel
theorem d_Mo_convert_31 : decode prog_11_method_23_code 31 = .ok (.ifCond .le 5, 3) := by decide +kernel
theorem d_Mo_convert_34 : decode prog_11_method_23_code 34 = .ok (.iconst 0, 1) := by decide +kernel
theorem d_Mo_convert_35 : decode prog_11_method_23_code 35 = .ok (.ireturn, 1) := by decide +kernel
theorem d_Mo_convert_36 : decode prog_11_method_23_code 36 = .ok (.aload_n 0, 1) := by decide +kernel
theorem d_Mo_convert_37 : decode prog_11_method_23_code 37 = .ok (.iload_n 1, 1) := by decide +kernel
theorem d_Mo_convert_38 : decode prog_11_method_23_code 38 = .ok (.invokevirtual 177, 3) := by decide +kernel
theorem d_Mo_convert_41 : decode prog_11_method_23_code 41 = .ok (.ifCond .eq 16, 3) := by decide +kernel
theorem d_Mo_convert_44 : decode prog_11_method_23_code 44 = .ok (.aload_n 0, 1) := by decide +kernel
theorem d_Mo_convert_45 : decode prog_11_method_23_code 45 = .ok (.iconst 0, 1) := by decide +kernel
theorem d_Mo_convert_46 : decode prog_11_method_23_code 46 = .ok (.iload_n 2, 1) := by decide +kernel
theorem d_Mo_convert_47 : decode prog_11_method_23_code 47 = .ok (.invokevirtual 180, 3) := by decide +kernel
theorem d_Mo_convert_50 : decode prog_11_method_23_code 50 = .ok (.ifCond .eq 7, 3) := by decide +kernel
theorem d_Mo_convert_53 : decode prog_11_method_23_code 53 = .ok (.iconst 1, 1) := by decide +kernel
theorem d_Mo_convert_54 : decode prog_11_method_23_code 54 = .ok (.goto 4, 3) := by decide +kernel
theorem d_Mo_convert_57 : decode prog_11_method_23_code 57 = .ok (.iconst 0, 1) := by decide +kernel
theorem d_Mo_convert_58 : decode prog_11_method_23_code 58 = .ok (.istore_n 3, 1) := by decide +kernel
theorem d_Mo_convert_59 : decode prog_11_method_23_code 59 = .ok (.iload_n 3, 1) := by decide +kernel
theorem d_Mo_convert_60 : decode prog_11_method_23_code 60 = .ok (.ifCond .eq 12, 3) := by decide +kernel
theorem d_Mo_convert_63 : decode prog_11_method_23_code 63 = .ok (.aload_n 0, 1) := by decide +kernel
theorem d_Mo_convert_64 : decode prog_11_method_23_code 64 = .ok (.getfield 155, 3) := by decide +kernel
theorem d_Mo_convert_67 : decode prog_11_method_23_code 67 = .ok (.bipush 120, 2) := by decide +kernel
theorem d_Mo_convert_69 : decode prog_11_method_23_code 69 = .ok (.if_icmp .le 9, 3) := by decide +kernel
theorem d_Mo_convert_72 : decode prog_11_method_23_code 72 = .ok (.aload_n 0, 1) := by decide +kernel
theorem d_Mo_convert_73 : decode prog_11_method_23_code 73 = .ok (.iconst 2, 1) := by decide +kernel
theorem d_Mo_convert_74 : decode prog_11_method_23_code 74 = .ok (.invokevirtual 183, 3) := by decide +kernel
theorem d_Mo_convert_77 : decode prog_11_method_23_code 77 = .ok (.ireturn, 1) := by decide +kernel
theorem d_Mo_convert_78 : decode prog_11_method_23_code 78 = .ok (.iconst 0, 1) := by decide +kernel
theorem d_Mo_convert_79 : decode prog_11_method_23_code 79 = .ok (.istore 4, 2) := by decide +kernel
theorem d_Mo_convert_81 : decode prog_11_method_23_code 81 = .ok (.iload 4, 2) := by decide +kernel
theorem d_Mo_convert_83 : decode prog_11_method_23_code 83 = .ok (.aload_n 0, 1) := by decide +kernel
theorem d_Mo_convert_84 : decode prog_11_method_23_code 84 = .ok (.getfield 155, 3) := by decide +kernel
theorem d_Mo_convert_87 : decode prog_11_method_23_code 87 = .ok (.if_icmp .ge 23, 3) := by decide +kernel
theorem d_Mo_convert_90 : decode prog_11_method_23_code 90 = .ok (.aload_n 0, 1) := by decide +kernel
theorem d_Mo_convert_91 : decode prog_11_method_23_code 91 = .ok (.getfield 7, 3) := by decide +kernel
theorem d_Mo_convert_94 : decode prog_11_method_23_code 94 = .ok (.iload 4, 2) := by decide +kernel
theorem d_Mo_convert_96 : decode prog_11_method_23_code 96 = .ok (.aload_n 0, 1) := by decide +kernel
theorem d_Mo_convert_97 : decode prog_11_method_23_code 97 = .ok (.getfield 71, 3) := by decide +kernel
theorem d_Mo_convert_100 : decode prog_11_method_23_code 100 = .ok (.iload 4, 2) := by decide +kernel
theorem d_Mo_convert_102 : decode prog_11_method_23_code 102 = .ok (.iaload, 1) := by decide +kernel
theorem d_Mo_convert_103 : decode prog_11_method_23_code 103 = .ok (.iastore, 1) := by decide +kernel
theorem d_Mo_convert_104 : decode prog_11_method_23_code 104 = .ok (.iinc 4 1, 3) := by decide +kernel
theorem d_Mo_convert_107 : decode prog_11_method_23_code 107 = .ok (.goto (-26), 3) := by decide +kernel
theorem d_Mo_convert_110 : decode prog_11_method_23_code 110 = .ok (.aload_n 0, 1) := by decide +kernel
theorem d_Mo_convert_111 : decode prog_11_method_23_code 111 = .ok (.aload_n 0, 1) := by decide +kernel
theorem d_Mo_convert_112 : decode prog_11_method_23_code 112 = .ok (.getfield 155, 3) := by decide +kernel
theorem d_Mo_convert_115 : decode prog_11_method_23_code 115 = .ok (.putfield 169, 3) := by decide +kernel
theorem d_Mo_convert_118 : decode prog_11_method_23_code 118 = .ok (.aload_n 0, 1) := by decide +kernel
theorem d_Mo_convert_119 : decode prog_11_method_23_code 119 = .ok (.getfield 169, 3) := by decide +kernel
theorem d_Mo_convert_122 : decode prog_11_method_23_code 122 = .ok (.ireturn, 1) := by decide +kernel
theorem d_Mo_sends_0 : decode prog_11_method_27_code 0 = .ok (.aload_n 0, 1) := by decide +kernel
theorem d_Mo_sends_1 : decode prog_11_method_27_code 1 = .ok (.getfield 210, 3) := by decide +kernel
theorem d_Mo_sends_4 : decode prog_11_method_27_code 4 = .ok (.iconst 2, 1) := by decide +kernel
theorem d_Mo_sends_5 : decode prog_11_method_27_code 5 = .ok (.iadd, 1) := by decide +kernel
theorem d_Mo_sends_6 : decode prog_11_method_27_code 6 = .ok (.aload_n 0, 1) := by decide +kernel
theorem d_Mo_sends_7 : decode prog_11_method_27_code 7 = .ok (.getfield 155, 3) := by decide +kernel
theorem d_Mo_sends_10 : decode prog_11_method_27_code 10 = .ok (.iadd, 1) := by decide +kernel
theorem d_Mo_sends_11 : decode prog_11_method_27_code 11 = .ok (.sipush 900, 3) := by decide +kernel
theorem d_Mo_sends_14 : decode prog_11_method_27_code 14 = .ok (.if_icmp .le 9, 3) := by decide +kernel
theorem d_Mo_sends_17 : decode prog_11_method_27_code 17 = .ok (.aload_n 0, 1) := by decide +kernel
theorem d_Mo_sends_18 : decode prog_11_method_27_code 18 = .ok (.invokevirtual 213, 3) := by decide +kernel
theorem d_Mo_sends_21 : decode prog_11_method_27_code 21 = .ok (.iconst 0, 1) := by decide +kernel
theorem d_Mo_sends_22 : decode prog_11_method_27_code 22 = .ok (.ireturn, 1) := by decide +kernel
theorem d_Mo_sends_23 : decode prog_11_method_27_code 23 = .ok (.aload_n 0, 1) := by decide +kernel
theorem d_Mo_sends_24 : decode prog_11_method_27_code 24 = .ok (.getfield 77, 3) := by decide +kernel
theorem d_Mo_sends_27 : decode prog_11_method_27_code 27 = .ok (.aload_n 0, 1) := by decide +kernel
theorem d_Mo_sends_28 : decode prog_11_method_27_code 28 = .ok (.getfield 210, 3) := by decide +kernel
theorem d_Mo_sends_31 : decode prog_11_method_27_code 31 = .ok (.iload_n 1, 1) := by decide +kernel
theorem d_Mo_sends_32 : decode prog_11_method_27_code 32 = .ok (.iastore, 1) := by decide +kernel
theorem d_Mo_sends_33 : decode prog_11_method_27_code 33 = .ok (.aload_n 0, 1) := by decide +kernel
theorem d_Mo_sends_34 : decode prog_11_method_27_code 34 = .ok (.getfield 77, 3) := by decide +kernel
theorem d_Mo_sends_37 : decode prog_11_method_27_code 37 = .ok (.aload_n 0, 1) := by decide +kernel
theorem d_Mo_sends_38 : decode prog_11_method_27_code 38 = .ok (.getfield 210, 3) := by decide +kernel
theorem d_Mo_sends_41 : decode prog_11_method_27_code 41 = .ok (.iconst 1, 1) := by decide +kernel
theorem d_Mo_sends_42 : decode prog_11_method_27_code 42 = .ok (.iadd, 1) := by decide +kernel
theorem d_Mo_sends_43 : decode prog_11_method_27_code 43 = .ok (.aload_n 0, 1) := by decide +kernel
theorem d_Mo_sends_44 : decode prog_11_method_27_code 44 = .ok (.getfield 155, 3) := by decide +kernel
theorem d_Mo_sends_47 : decode prog_11_method_27_code 47 = .ok (.iastore, 1) := by decide +kernel
theorem d_Mo_sends_48 : decode prog_11_method_27_code 48 = .ok (.iconst 0, 1) := by decide +kernel
theorem d_Mo_sends_49 : decode prog_11_method_27_code 49 = .ok (.istore_n 2, 1) := by decide +kernel
theorem d_Mo_sends_50 : decode prog_11_method_27_code 50 = .ok (.iload_n 2, 1) := by decide +kernel
theorem d_Mo_sends_51 : decode prog_11_method_27_code 51 = .ok (.aload_n 0, 1) := by decide +kernel
theorem d_Mo_sends_52 : decode prog_11_method_27_code 52 = .ok (.getfield 155, 3) := by decide +kernel
theorem d_Mo_sends_55 : decode prog_11_method_27_code 55 = .ok (.if_icmp .ge 28, 3) := by decide +kernel
theorem d_Mo_sends_58 : decode prog_11_method_27_code 58 = .ok (.aload_n 0, 1) := by decide +kernel
theorem d_Mo_sends_59 : decode prog_11_method_27_code 59 = .ok (.getfield 77, 3) := by decide +kernel
theorem d_Mo_sends_62 : decode prog_11_method_27_code 62 = .ok (.aload_n 0, 1) := by decide +kernel
theorem d_Mo_sends_63 : decode prog_11_method_27_code 63 = .ok (.getfield 210, 3) := by decide +kernel
theorem d_Mo_sends_66 : decode prog_11_method_27_code 66 = .ok (.iconst 2, 1) := by decide +kernel
theorem d_Mo_sends_67 : decode prog_11_method_27_code 67 = .ok (.iadd, 1) := by decide +kernel
theorem d_Mo_sends_68 : decode prog_11_method_27_code 68 = .ok (.iload_n 2, 1) := by decide +kernel
theorem d_Mo_sends_69 : decode prog_11_method_27_code 69 = .ok (.iadd, 1) := by decide +kernel
theorem d_Mo_sends_70 : decode prog_11_method_27_code 70 = .ok (.aload_n 0, 1) := by decide +kernel
theorem d_Mo_sends_71 : decode prog_11_method_27_code 71 = .ok (.getfield 71, 3) := by decide +kernel
theorem d_Mo_sends_74 : decode prog_11_method_27_code 74 = .ok (.iload_n 2, 1) := by decide +kernel
theorem d_Mo_sends_75 : decode prog_11_method_27_code 75 = .ok (.iaload, 1) := by decide +kernel
theorem d_Mo_sends_76 : decode prog_11_method_27_code 76 = .ok (.iastore, 1) := by decide +kernel
theorem d_Mo_sends_77 : decode prog_11_method_27_code 77 = .ok (.iinc 2 1, 3) := by decide +kernel
theorem d_Mo_sends_80 : decode prog_11_method_27_code 80 = .ok (.goto (-30), 3) := by decide +kernel
theorem d_Mo_sends_83 : decode prog_11_method_27_code 83 = .ok (.aload_n 0, 1) := by decide +kernel
theorem d_Mo_sends_84 : decode prog_11_method_27_code 84 = .ok (.dup, 1) := by decide +kernel
theorem d_Mo_sends_85 : decode prog_11_method_27_code 85 = .ok (.getfield 210, 3) := by decide +kernel
theorem d_Mo_sends_88 : decode prog_11_method_27_code 88 = .ok (.iconst 2, 1) := by decide +kernel
theorem d_Mo_sends_89 : decode prog_11_method_27_code 89 = .ok (.aload_n 0, 1) := by decide +kernel
theorem d_Mo_sends_90 : decode prog_11_method_27_code 90 = .ok (.getfield 155, 3) := by decide +kernel
theorem d_Mo_sends_93 : decode prog_11_method_27_code 93 = .ok (.iadd, 1) := by decide +kernel
theorem d_Mo_sends_94 : decode prog_11_method_27_code 94 = .ok (.iadd, 1) := by decide +kernel
theorem d_Mo_sends_95 : decode prog_11_method_27_code 95 = .ok (.putfield 210, 3) := by decide +kernel
theorem d_Mo_sends_98 : decode prog_11_method_27_code 98 = .ok (.iconst 1, 1) := by decide +kernel
theorem d_Mo_sends_99 : decode prog_11_method_27_code 99 = .ok (.ireturn, 1) := by decide +kernel
theorem d_Mo_breakOff_0 : decode prog_11_method_29_code 0 = .ok (.aload_n 0, 1) := by decide +kernel
theorem d_Mo_breakOff_1 : decode prog_11_method_29_code 1 = .ok (.iconst 0, 1) := by decide +kernel
theorem d_Mo_breakOff_2 : decode prog_11_method_29_code 2 = .ok (.putfield 155, 3) := by decide +kernel
theorem d_Mo_breakOff_5 : decode prog_11_method_29_code 5 = .ok (.aload_n 0, 1) := by decide +kernel
theorem d_Mo_breakOff_6 : decode prog_11_method_29_code 6 = .ok (.bipush 7, 2) := by decide +kernel
theorem d_Mo_breakOff_8 : decode prog_11_method_29_code 8 = .ok (.invokevirtual 216, 3) := by decide +kernel
theorem d_Mo_breakOff_11 : decode prog_11_method_29_code 11 = .ok (.ifCond .eq 8, 3) := by decide +kernel
theorem d_Mo_breakOff_14 : decode prog_11_method_29_code 14 = .ok (.aload_n 0, 1) := by decide +kernel
theorem d_Mo_breakOff_15 : decode prog_11_method_29_code 15 = .ok (.iconst 3, 1) := by decide +kernel
theorem d_Mo_breakOff_16 : decode prog_11_method_29_code 16 = .ok (.invokevirtual 219, 3) := by decide +kernel
theorem d_Mo_breakOff_19 : decode prog_11_method_29_code 19 = .ok (.return_, 1) := by decide +kernel
theorem d_Mo_number_0 : decode prog_11_method_42_code 0 = .ok (.iload_n 2, 1) := by decide +kernel
theorem d_Mo_number_1 : decode prog_11_method_42_code 1 = .ok (.invokestatic 151, 3) := by decide +kernel
theorem d_Mo_number_4 : decode prog_11_method_42_code 4 = .ok (.istore_n 3, 1) := by decide +kernel
theorem d_Mo_number_5 : decode prog_11_method_42_code 5 = .ok (.aload_n 0, 1) := by decide +kernel
theorem d_Mo_number_6 : decode prog_11_method_42_code 6 = .ok (.iload_n 1, 1) := by decide +kernel
theorem d_Mo_number_7 : decode prog_11_method_42_code 7 = .ok (.invokevirtual 158, 3) := by decide +kernel
theorem d_Mo_number_10 : decode prog_11_method_42_code 10 = .ok (.aload_n 0, 1) := by decide +kernel
theorem d_Mo_number_11 : decode prog_11_method_42_code 11 = .ok (.iload_n 3, 1) := by decide +kernel
theorem d_Mo_number_12 : decode prog_11_method_42_code 12 = .ok (.invokevirtual 158, 3) := by decide +kernel
theorem d_Mo_number_15 : decode prog_11_method_42_code 15 = .ok (.iconst 0, 1) := by decide +kernel
theorem d_Mo_number_16 : decode prog_11_method_42_code 16 = .ok (.istore 4, 2) := by decide +kernel
theorem d_Mo_number_18 : decode prog_11_method_42_code 18 = .ok (.iload 4, 2) := by decide +kernel
theorem d_Mo_number_20 : decode prog_11_method_42_code 20 = .ok (.iload_n 3, 1) := by decide +kernel
theorem d_Mo_number_21 : decode prog_11_method_42_code 21 = .ok (.if_icmp .ge 24, 3) := by decide +kernel
theorem d_Mo_number_24 : decode prog_11_method_42_code 24 = .ok (.aload_n 0, 1) := by decide +kernel
theorem d_Mo_number_25 : decode prog_11_method_42_code 25 = .ok (.iload_n 2, 1) := by decide +kernel
theorem d_Mo_number_26 : decode prog_11_method_42_code 26 = .ok (.bipush 8, 2) := by decide +kernel
theorem d_Mo_number_28 : decode prog_11_method_42_code 28 = .ok (.iload 4, 2) := by decide +kernel
theorem d_Mo_number_30 : decode prog_11_method_42_code 30 = .ok (.imul, 1) := by decide +kernel
theorem d_Mo_number_31 : decode prog_11_method_42_code 31 = .ok (.ishr, 1) := by decide +kernel
theorem d_Mo_number_32 : decode prog_11_method_42_code 32 = .ok (.sipush 255, 3) := by decide +kernel
theorem d_Mo_number_35 : decode prog_11_method_42_code 35 = .ok (.iand, 1) := by decide +kernel
theorem d_Mo_number_36 : decode prog_11_method_42_code 36 = .ok (.invokevirtual 158, 3) := by decide +kernel
theorem d_Mo_number_39 : decode prog_11_method_42_code 39 = .ok (.iinc 4 1, 3) := by decide +kernel
theorem d_Mo_number_42 : decode prog_11_method_42_code 42 = .ok (.goto (-24), 3) := by decide +kernel
theorem d_Mo_number_45 : decode prog_11_method_42_code 45 = .ok (.return_, 1) := by decide +kernel
theorem d_Mo_replies_0 : decode prog_11_method_43_code 0 = .ok (.aload_n 0, 1) := by decide +kernel
theorem d_Mo_replies_1 : decode prog_11_method_43_code 1 = .ok (.iconst 0, 1) := by decide +kernel
theorem d_Mo_replies_2 : decode prog_11_method_43_code 2 = .ok (.putfield 155, 3) := by decide +kernel
theorem d_Mo_replies_5 : decode prog_11_method_43_code 5 = .ok (.aload_n 0, 1) := by decide +kernel
theorem d_Mo_replies_6 : decode prog_11_method_43_code 6 = .ok (.aload_n 0, 1) := by decide +kernel
theorem d_Mo_replies_7 : decode prog_11_method_43_code 7 = .ok (.getfield 80, 3) := by decide +kernel
theorem d_Mo_replies_10 : decode prog_11_method_43_code 10 = .ok (.aload_n 0, 1) := by decide +kernel
theorem d_Mo_replies_11 : decode prog_11_method_43_code 11 = .ok (.getfield 207, 3) := by decide +kernel
theorem d_Mo_replies_14 : decode prog_11_method_43_code 14 = .ok (.iaload, 1) := by decide +kernel
theorem d_Mo_replies_15 : decode prog_11_method_43_code 15 = .ok (.invokevirtual 158, 3) := by decide +kernel
theorem d_Mo_replies_18 : decode prog_11_method_43_code 18 = .ok (.aload_n 0, 1) := by decide +kernel
theorem d_Mo_replies_19 : decode prog_11_method_43_code 19 = .ok (.iconst 3, 1) := by decide +kernel
theorem d_Mo_replies_20 : decode prog_11_method_43_code 20 = .ok (.invokevirtual 158, 3) := by decide +kernel
theorem d_Mo_replies_23 : decode prog_11_method_43_code 23 = .ok (.aload_n 0, 1) := by decide +kernel
theorem d_Mo_replies_24 : decode prog_11_method_43_code 24 = .ok (.iconst 1, 1) := by decide +kernel
theorem d_Mo_replies_25 : decode prog_11_method_43_code 25 = .ok (.aload_n 0, 1) := by decide +kernel
theorem d_Mo_replies_26 : decode prog_11_method_43_code 26 = .ok (.getfield 260, 3) := by decide +kernel
theorem d_Mo_replies_29 : decode prog_11_method_43_code 29 = .ok (.bipush 16, 2) := by decide +kernel
theorem d_Mo_replies_31 : decode prog_11_method_43_code 31 = .ok (.iadd, 1) := by decide +kernel
theorem d_Mo_replies_32 : decode prog_11_method_43_code 32 = .ok (.invokevirtual 266, 3) := by decide +kernel
theorem d_Mo_replies_35 : decode prog_11_method_43_code 35 = .ok (.aload_n 0, 1) := by decide +kernel
theorem d_Mo_replies_36 : decode prog_11_method_43_code 36 = .ok (.iconst 2, 1) := by decide +kernel
theorem d_Mo_replies_37 : decode prog_11_method_43_code 37 = .ok (.aload_n 0, 1) := by decide +kernel
theorem d_Mo_replies_38 : decode prog_11_method_43_code 38 = .ok (.getfield 263, 3) := by decide +kernel
theorem d_Mo_replies_41 : decode prog_11_method_43_code 41 = .ok (.invokevirtual 266, 3) := by decide +kernel
theorem d_Mo_replies_44 : decode prog_11_method_43_code 44 = .ok (.aload_n 0, 1) := by decide +kernel
theorem d_Mo_replies_45 : decode prog_11_method_43_code 45 = .ok (.iconst 3, 1) := by decide +kernel
theorem d_Mo_replies_46 : decode prog_11_method_43_code 46 = .ok (.iload_n 2, 1) := by decide +kernel
theorem d_Mo_replies_47 : decode prog_11_method_43_code 47 = .ok (.ifCond .eq 7, 3) := by decide +kernel
theorem d_Mo_replies_50 : decode prog_11_method_43_code 50 = .ok (.iconst 1, 1) := by decide +kernel
theorem d_Mo_replies_51 : decode prog_11_method_43_code 51 = .ok (.goto 4, 3) := by decide +kernel
theorem d_Mo_replies_54 : decode prog_11_method_43_code 54 = .ok (.iconst 0, 1) := by decide +kernel
theorem d_Mo_replies_55 : decode prog_11_method_43_code 55 = .ok (.invokevirtual 266, 3) := by decide +kernel
theorem d_Mo_replies_58 : decode prog_11_method_43_code 58 = .ok (.aload_n 0, 1) := by decide +kernel
theorem d_Mo_replies_59 : decode prog_11_method_43_code 59 = .ok (.iconst 4, 1) := by decide +kernel
theorem d_Mo_replies_60 : decode prog_11_method_43_code 60 = .ok (.iload_n 1, 1) := by decide +kernel
theorem d_Mo_replies_61 : decode prog_11_method_43_code 61 = .ok (.invokevirtual 266, 3) := by decide +kernel
theorem d_Mo_replies_64 : decode prog_11_method_43_code 64 = .ok (.aload_n 0, 1) := by decide +kernel
theorem d_Mo_replies_65 : decode prog_11_method_43_code 65 = .ok (.iconst 4, 1) := by decide +kernel
theorem d_Mo_replies_66 : decode prog_11_method_43_code 66 = .ok (.invokevirtual 216, 3) := by decide +kernel
theorem d_Mo_replies_69 : decode prog_11_method_43_code 69 = .ok (.ireturn, 1) := by decide +kernel
theorem d_Mo_shows_0 : decode prog_11_method_49_code 0 = .ok (.aload_n 0, 1) := by decide +kernel
theorem d_Mo_shows_1 : decode prog_11_method_49_code 1 = .ok (.iconst 1, 1) := by decide +kernel
theorem d_Mo_shows_2 : decode prog_11_method_49_code 2 = .ok (.iload_n 1, 1) := by decide +kernel
theorem d_Mo_shows_3 : decode prog_11_method_49_code 3 = .ok (.invokevirtual 162, 3) := by decide +kernel
theorem d_Mo_shows_6 : decode prog_11_method_49_code 6 = .ok (.pop, 1) := by decide +kernel
theorem d_Mo_shows_7 : decode prog_11_method_49_code 7 = .ok (.aload_n 0, 1) := by decide +kernel
theorem d_Mo_shows_8 : decode prog_11_method_49_code 8 = .ok (.iconst 0, 1) := by decide +kernel
theorem d_Mo_shows_9 : decode prog_11_method_49_code 9 = .ok (.putfield 155, 3) := by decide +kernel
theorem d_Mo_shows_12 : decode prog_11_method_49_code 12 = .ok (.aload_n 0, 1) := by decide +kernel
theorem d_Mo_shows_13 : decode prog_11_method_49_code 13 = .ok (.aload_n 0, 1) := by decide +kernel
theorem d_Mo_shows_14 : decode prog_11_method_49_code 14 = .ok (.getfield 80, 3) := by decide +kernel
theorem d_Mo_shows_17 : decode prog_11_method_49_code 17 = .ok (.aload_n 0, 1) := by decide +kernel
theorem d_Mo_shows_18 : decode prog_11_method_49_code 18 = .ok (.getfield 207, 3) := by decide +kernel
theorem d_Mo_shows_21 : decode prog_11_method_49_code 21 = .ok (.iaload, 1) := by decide +kernel
theorem d_Mo_shows_22 : decode prog_11_method_49_code 22 = .ok (.invokevirtual 158, 3) := by decide +kernel
theorem d_Mo_shows_25 : decode prog_11_method_49_code 25 = .ok (.aload_n 0, 1) := by decide +kernel
theorem d_Mo_shows_26 : decode prog_11_method_49_code 26 = .ok (.iconst 2, 1) := by decide +kernel
theorem d_Mo_shows_27 : decode prog_11_method_49_code 27 = .ok (.invokevirtual 158, 3) := by decide +kernel
theorem d_Mo_shows_30 : decode prog_11_method_49_code 30 = .ok (.aload_n 0, 1) := by decide +kernel
theorem d_Mo_shows_31 : decode prog_11_method_49_code 31 = .ok (.getfield 34, 3) := by decide +kernel
theorem d_Mo_shows_34 : decode prog_11_method_49_code 34 = .ok (.sipush 130, 3) := by decide +kernel
theorem d_Mo_shows_37 : decode prog_11_method_49_code 37 = .ok (.iaload, 1) := by decide +kernel
theorem d_Mo_shows_38 : decode prog_11_method_49_code 38 = .ok (.istore_n 2, 1) := by decide +kernel
theorem d_Mo_shows_39 : decode prog_11_method_49_code 39 = .ok (.iload_n 2, 1) := by decide +kernel
theorem d_Mo_shows_40 : decode prog_11_method_49_code 40 = .ok (.ifCond .lt 104, 3) := by decide +kernel
theorem d_Mo_shows_43 : decode prog_11_method_49_code 43 = .ok (.iconst 0, 1) := by decide +kernel
theorem d_Mo_shows_44 : decode prog_11_method_49_code 44 = .ok (.istore_n 3, 1) := by decide +kernel
theorem d_Mo_shows_45 : decode prog_11_method_49_code 45 = .ok (.aload_n 0, 1) := by decide +kernel
theorem d_Mo_shows_46 : decode prog_11_method_49_code 46 = .ok (.getfield 34, 3) := by decide +kernel
theorem d_Mo_shows_49 : decode prog_11_method_49_code 49 = .ok (.iconst 0, 1) := by decide +kernel
theorem d_Mo_shows_50 : decode prog_11_method_49_code 50 = .ok (.iaload, 1) := by decide +kernel
theorem d_Mo_shows_51 : decode prog_11_method_49_code 51 = .ok (.istore 4, 2) := by decide +kernel
theorem d_Mo_shows_53 : decode prog_11_method_49_code 53 = .ok (.iload 4, 2) := by decide +kernel
theorem d_Mo_shows_55 : decode prog_11_method_49_code 55 = .ok (.ifCond .lt 41, 3) := by decide +kernel
theorem d_Mo_shows_58 : decode prog_11_method_49_code 58 = .ok (.iload_n 3, 1) := by decide +kernel
theorem d_Mo_shows_59 : decode prog_11_method_49_code 59 = .ok (.ifCond .ne 19, 3) := by decide +kernel
theorem d_Mo_shows_62 : decode prog_11_method_49_code 62 = .ok (.aload_n 0, 1) := by decide +kernel
theorem d_Mo_shows_63 : decode prog_11_method_49_code 63 = .ok (.getfield 22, 3) := by decide +kernel
theorem d_Mo_shows_66 : decode prog_11_method_49_code 66 = .ok (.iload 4, 2) := by decide +kernel
theorem d_Mo_shows_68 : decode prog_11_method_49_code 68 = .ok (.iaload, 1) := by decide +kernel
theorem d_Mo_shows_69 : decode prog_11_method_49_code 69 = .ok (.aload_n 0, 1) := by decide +kernel
theorem d_Mo_shows_70 : decode prog_11_method_49_code 70 = .ok (.getfield 22, 3) := by decide +kernel
theorem d_Mo_shows_73 : decode prog_11_method_49_code 73 = .ok (.iload_n 2, 1) := by decide +kernel
theorem d_Mo_shows_74 : decode prog_11_method_49_code 74 = .ok (.iaload, 1) := by decide +kernel
theorem d_Mo_shows_75 : decode prog_11_method_49_code 75 = .ok (.if_icmp .ne 7, 3) := by decide +kernel
theorem d_Mo_shows_78 : decode prog_11_method_49_code 78 = .ok (.iconst 1, 1) := by decide +kernel
theorem d_Mo_shows_79 : decode prog_11_method_49_code 79 = .ok (.goto 4, 3) := by decide +kernel
theorem d_Mo_shows_82 : decode prog_11_method_49_code 82 = .ok (.iconst 0, 1) := by decide +kernel
theorem d_Mo_shows_83 : decode prog_11_method_49_code 83 = .ok (.istore_n 3, 1) := by decide +kernel
theorem d_Mo_shows_84 : decode prog_11_method_49_code 84 = .ok (.aload_n 0, 1) := by decide +kernel
theorem d_Mo_shows_85 : decode prog_11_method_49_code 85 = .ok (.getfield 37, 3) := by decide +kernel
theorem d_Mo_shows_88 : decode prog_11_method_49_code 88 = .ok (.iload 4, 2) := by decide +kernel
theorem d_Mo_shows_90 : decode prog_11_method_49_code 90 = .ok (.iaload, 1) := by decide +kernel
theorem d_Mo_shows_91 : decode prog_11_method_49_code 91 = .ok (.istore 4, 2) := by decide +kernel
theorem d_Mo_shows_93 : decode prog_11_method_49_code 93 = .ok (.goto (-40), 3) := by decide +kernel
theorem d_Mo_shows_96 : decode prog_11_method_49_code 96 = .ok (.iload_n 3, 1) := by decide +kernel
theorem d_Mo_shows_97 : decode prog_11_method_49_code 97 = .ok (.ifCond .eq 37, 3) := by decide +kernel
theorem d_Mo_shows_100 : decode prog_11_method_49_code 100 = .ok (.aload_n 0, 1) := by decide +kernel
theorem d_Mo_shows_101 : decode prog_11_method_49_code 101 = .ok (.iload_n 2, 1) := by decide +kernel
theorem d_Mo_shows_102 : decode prog_11_method_49_code 102 = .ok (.aload_n 0, 1) := by decide +kernel
theorem d_Mo_shows_103 : decode prog_11_method_49_code 103 = .ok (.getfield 37, 3) := by decide +kernel
theorem d_Mo_shows_106 : decode prog_11_method_49_code 106 = .ok (.iload_n 2, 1) := by decide +kernel
theorem d_Mo_shows_107 : decode prog_11_method_49_code 107 = .ok (.iaload, 1) := by decide +kernel
theorem d_Mo_shows_108 : decode prog_11_method_49_code 108 = .ok (.ifCond .ge 16, 3) := by decide +kernel
theorem d_Mo_shows_111 : decode prog_11_method_49_code 111 = .ok (.sipush 130, 3) := by decide +kernel
theorem d_Mo_shows_114 : decode prog_11_method_49_code 114 = .ok (.aload_n 0, 1) := by decide +kernel
theorem d_Mo_shows_115 : decode prog_11_method_49_code 115 = .ok (.getfield 16, 3) := by decide +kernel
theorem d_Mo_shows_118 : decode prog_11_method_49_code 118 = .ok (.iconst 1, 1) := by decide +kernel
theorem d_Mo_shows_119 : decode prog_11_method_49_code 119 = .ok (.iaload, 1) := by decide +kernel
theorem d_Mo_shows_120 : decode prog_11_method_49_code 120 = .ok (.iadd, 1) := by decide +kernel
theorem d_Mo_shows_121 : decode prog_11_method_49_code 121 = .ok (.goto 9, 3) := by decide +kernel
theorem d_Mo_shows_124 : decode prog_11_method_49_code 124 = .ok (.aload_n 0, 1) := by decide +kernel
theorem d_Mo_shows_125 : decode prog_11_method_49_code 125 = .ok (.getfield 37, 3) := by decide +kernel
theorem d_Mo_shows_128 : decode prog_11_method_49_code 128 = .ok (.iload_n 2, 1) := by decide +kernel
theorem d_Mo_shows_129 : decode prog_11_method_49_code 129 = .ok (.iaload, 1) := by decide +kernel
theorem d_Mo_shows_130 : decode prog_11_method_49_code 130 = .ok (.iload_n 1, 1) := by decide +kernel
theorem d_Mo_shows_131 : decode prog_11_method_49_code 131 = .ok (.invokevirtual 165, 3) := by decide +kernel
theorem d_Mo_shows_134 : decode prog_11_method_49_code 134 = .ok (.aload_n 0, 1) := by decide +kernel
theorem d_Mo_shows_135 : decode prog_11_method_49_code 135 = .ok (.getfield 37, 3) := by decide +kernel
theorem d_Mo_shows_138 : decode prog_11_method_49_code 138 = .ok (.iload_n 2, 1) := by decide +kernel
theorem d_Mo_shows_139 : decode prog_11_method_49_code 139 = .ok (.iaload, 1) := by decide +kernel
theorem d_Mo_shows_140 : decode prog_11_method_49_code 140 = .ok (.istore_n 2, 1) := by decide +kernel
theorem d_Mo_shows_141 : decode prog_11_method_49_code 141 = .ok (.goto (-102), 3) := by decide +kernel
theorem d_Mo_shows_144 : decode prog_11_method_49_code 144 = .ok (.aload_n 0, 1) := by decide +kernel
theorem d_Mo_shows_145 : decode prog_11_method_49_code 145 = .ok (.iconst 4, 1) := by decide +kernel
theorem d_Mo_shows_146 : decode prog_11_method_49_code 146 = .ok (.invokevirtual 216, 3) := by decide +kernel
theorem d_Mo_shows_149 : decode prog_11_method_49_code 149 = .ok (.ireturn, 1) := by decide +kernel
def ws_Mo_measure : List Cond := .code y_Mo_measure prog_11_method_15_code 7 (some .boolean) :: TB
def B_Mo_measure_189 (s0 : S_Mo) (x3 : Int32) : Option (Int32 × S_Mo) :=
  (if x3 = 0 ∨ x3 = 1 then some (x3, s0) else none)
def B_Mo_measure_182 (k18 : S_Mo × Int32 × Int32 × Int32 × Int32 → Option (Int32 × S_Mo)) (s0 : S_Mo) (x1 : Int32) (x2 : Int32) (x4 : Int32) (y0 : Int32) : Option (Int32 × S_Mo) :=
  (k18 (s0, x1, x2, y0, (x4 + (-1))))
def B_Mo_measure_181 (k18 : S_Mo × Int32 × Int32 × Int32 × Int32 → Option (Int32 × S_Mo)) (s0 : S_Mo) (x1 : Int32) (x2 : Int32) (x4 : Int32) : Option (Int32 × S_Mo) :=
  (B_Mo_measure_182 k18 s0 x1 x2 x4 (0 : Int32))
def B_Mo_measure_177 (k18 : S_Mo × Int32 × Int32 × Int32 × Int32 → Option (Int32 × S_Mo)) (s0 : S_Mo) (x1 : Int32) (x2 : Int32) (x4 : Int32) : Option (Int32 × S_Mo) :=
  (B_Mo_measure_182 k18 s0 x1 x2 x4 (1 : Int32))
def B_Mo_measure_169 (k18 : S_Mo × Int32 × Int32 × Int32 × Int32 → Option (Int32 × S_Mo)) (s0 : S_Mo) (x1 : Int32) (x2 : Int32) (x4 : Int32) (x5 : Int32) : Option (Int32 × S_Mo) :=
  (if (240 : Int32) < x5 then (B_Mo_measure_181 k18 s0 x1 x2 x4) else (B_Mo_measure_177 k18 s0 x1 x2 x4))
def B_Mo_measure_159 (k18 : S_Mo × Int32 × Int32 × Int32 × Int32 → Option (Int32 × S_Mo)) (s0 : S_Mo) (x1 : Int32) (x2 : Int32) (x4 : Int32) (x5 : Int32) : Option (Int32 × S_Mo) :=
  (if (x4 < 0 ∨ 260 ≤ x4.toNatClampNeg) then none else (if ((Mo_parent s0) x4.toNatClampNeg) < 0 then (B_Mo_measure_177 k18 s0 x1 x2 x4) else (B_Mo_measure_169 k18 s0 x1 x2 x4 x5)))
def B_Mo_measure_146 (k18 : S_Mo × Int32 × Int32 × Int32 × Int32 → Option (Int32 × S_Mo)) (s0 : S_Mo) (x1 : Int32) (x2 : Int32) (x3 : Int32) (x4 : Int32) (x5 : Int32) : Option (Int32 × S_Mo) :=
  (if (x4 < 0 ∨ 260 ≤ x4.toNatClampNeg) then none else (if x3 = 0 then (B_Mo_measure_181 k18 (Mo_set_size s0 (upd (Mo_size s0) x4.toNatClampNeg x5)) x1 x2 x4) else (B_Mo_measure_159 k18 (Mo_set_size s0 (upd (Mo_size s0) x4.toNatClampNeg x5)) x1 x2 x4 x5)))
def B_Mo_measure_130 (k18 : S_Mo × Int32 × Int32 × Int32 × Int32 → Option (Int32 × S_Mo)) (k95 : S_Mo × Int32 × Int32 × Int32 × Int32 × Int32 × Int32 → Option (Int32 × S_Mo)) (s0 : S_Mo) (x1 : Int32) (x2 : Int32) (x3 : Int32) (x4 : Int32) (x6 : Int32) (y0 : Int32) (y1 : Int32) (y2 : Int32) : Option (Int32 × S_Mo) :=
  (if (x6 < 0 ∨ 260 ≤ x6.toNatClampNeg) then none else (k95 (s0, x1, x2, x3, x4, (y2 + (y1 + y0)), ((Mo_next s0) x6.toNatClampNeg))))
def B_Mo_measure_129 (k18 : S_Mo × Int32 × Int32 × Int32 × Int32 → Option (Int32 × S_Mo)) (k95 : S_Mo × Int32 × Int32 × Int32 × Int32 × Int32 × Int32 → Option (Int32 × S_Mo)) (s0 : S_Mo) (x1 : Int32) (x2 : Int32) (x3 : Int32) (x4 : Int32) (x6 : Int32) (y0 : Int32) (y1 : Int32) : Option (Int32 × S_Mo) :=
  (B_Mo_measure_130 k18 k95 s0 x1 x2 x3 x4 x6 (0 : Int32) y0 y1)
def B_Mo_measure_125 (k18 : S_Mo × Int32 × Int32 × Int32 × Int32 → Option (Int32 × S_Mo)) (k95 : S_Mo × Int32 × Int32 × Int32 × Int32 × Int32 × Int32 → Option (Int32 × S_Mo)) (s0 : S_Mo) (x1 : Int32) (x2 : Int32) (x3 : Int32) (x4 : Int32) (x6 : Int32) (y0 : Int32) (y1 : Int32) : Option (Int32 × S_Mo) :=
  (B_Mo_measure_130 k18 k95 s0 x1 x2 x3 x4 x6 (1 : Int32) y0 y1)
def B_Mo_measure_121 (k18 : S_Mo × Int32 × Int32 × Int32 × Int32 → Option (Int32 × S_Mo)) (k95 : S_Mo × Int32 × Int32 × Int32 × Int32 × Int32 × Int32 → Option (Int32 × S_Mo)) (s0 : S_Mo) (x1 : Int32) (x2 : Int32) (x3 : Int32) (x4 : Int32) (x6 : Int32) (y0 : Int32) (y1 : Int32) : Option (Int32 × S_Mo) :=
  (if x2 = 0 then (B_Mo_measure_125 k18 k95 s0 x1 x2 x3 x4 x6 y0 y1) else (B_Mo_measure_129 k18 k95 s0 x1 x2 x3 x4 x6 y0 y1))
def B_Mo_measure_100 (k18 : S_Mo × Int32 × Int32 × Int32 × Int32 → Option (Int32 × S_Mo)) (k95 : S_Mo × Int32 × Int32 × Int32 × Int32 × Int32 × Int32 → Option (Int32 × S_Mo)) (s0 : S_Mo) (x1 : Int32) (x2 : Int32) (x3 : Int32) (x4 : Int32) (x5 : Int32) (x6 : Int32) : Option (Int32 × S_Mo) :=
  (if (x6 < 0 ∨ 260 ≤ x6.toNatClampNeg) then none else (if (x6 < 0 ∨ 260 ≤ x6.toNatClampNeg) then none else (if ((Mo_kind s0) x6.toNatClampNeg) = 0 then (B_Mo_measure_129 k18 k95 s0 x1 x2 x3 x4 x6 (((Mo_size s0) x6.toNatClampNeg) + (2 : Int32)) x5) else (B_Mo_measure_121 k18 k95 s0 x1 x2 x3 x4 x6 (((Mo_size s0) x6.toNatClampNeg) + (2 : Int32)) x5))))
def B_Mo_measure_95 (k18 : S_Mo × Int32 × Int32 × Int32 × Int32 → Option (Int32 × S_Mo)) (k95 : S_Mo × Int32 × Int32 × Int32 × Int32 × Int32 × Int32 → Option (Int32 × S_Mo)) (s0 : S_Mo) (x1 : Int32) (x2 : Int32) (x3 : Int32) (x4 : Int32) (x5 : Int32) (x6 : Int32) : Option (Int32 × S_Mo) :=
  (if x6 < 0 then (B_Mo_measure_146 k18 s0 x1 x2 x3 x4 x5) else (B_Mo_measure_100 k18 k95 s0 x1 x2 x3 x4 x5 x6))
def L_Mo_measure_95 (k18 : S_Mo × Int32 × Int32 × Int32 × Int32 → Option (Int32 × S_Mo)) (v : S_Mo × Int32 × Int32 × Int32 × Int32 × Int32 × Int32) : Option (Int32 × S_Mo) := lp (fun k95 v => B_Mo_measure_95 k18 k95  v.1 v.2.1 v.2.2.1 v.2.2.2.1 v.2.2.2.2.1 v.2.2.2.2.2.1 v.2.2.2.2.2.2) FU v
def B_Mo_measure_84 (k18 : S_Mo × Int32 × Int32 × Int32 × Int32 → Option (Int32 × S_Mo)) (s0 : S_Mo) (x1 : Int32) (x2 : Int32) (x3 : Int32) (x4 : Int32) (y0 : Int32) : Option (Int32 × S_Mo) :=
  (if (x4 < 0 ∨ 260 ≤ x4.toNatClampNeg) then none else (L_Mo_measure_95 k18 (s0, x1, x2, x3, x4, y0, ((Mo_first s0) x4.toNatClampNeg))))
def B_Mo_measure_83 (k18 : S_Mo × Int32 × Int32 × Int32 × Int32 → Option (Int32 × S_Mo)) (s0 : S_Mo) (x1 : Int32) (x2 : Int32) (x3 : Int32) (x4 : Int32) : Option (Int32 × S_Mo) :=
  (B_Mo_measure_84 k18 s0 x1 x2 x3 x4 (0 : Int32))
def B_Mo_measure_63 (k18 : S_Mo × Int32 × Int32 × Int32 × Int32 → Option (Int32 × S_Mo)) (s0 : S_Mo) (x1 : Int32) (x2 : Int32) (x3 : Int32) (x4 : Int32) : Option (Int32 × S_Mo) :=
  (if (x4 < 0 ∨ 260 ≤ x4.toNatClampNeg) then none else (if (x4 < 0 ∨ 260 ≤ x4.toNatClampNeg) then none else (B_Mo_measure_84 k18 s0 x1 x2 x3 x4 (((Mo_value s0) x4.toNatClampNeg) + (((Mo_value s0) x4.toNatClampNeg) - ((Mo_value s0) x4.toNatClampNeg) / (2 : Int32) * (2 : Int32))))))
def B_Mo_measure_52 (k18 : S_Mo × Int32 × Int32 × Int32 × Int32 → Option (Int32 × S_Mo)) (s0 : S_Mo) (x1 : Int32) (x2 : Int32) (x3 : Int32) (x4 : Int32) : Option (Int32 × S_Mo) :=
  (if (x4 < 0 ∨ 260 ≤ x4.toNatClampNeg) then none else (if ((Mo_kind s0) x4.toNatClampNeg) = (2 : Int32) then (B_Mo_measure_63 k18 s0 x1 x2 x3 x4) else (B_Mo_measure_83 k18 s0 x1 x2 x3 x4)))
def B_Mo_measure_39 (k18 : S_Mo × Int32 × Int32 × Int32 × Int32 → Option (Int32 × S_Mo)) (s0 : S_Mo) (x1 : Int32) (x2 : Int32) (x3 : Int32) (x4 : Int32) : Option (Int32 × S_Mo) :=
  (if (x4 < 0 ∨ 260 ≤ x4.toNatClampNeg) then none else ((F_Mo_bytesOf ((Mo_value s0) x4.toNatClampNeg)).bind fun o2 => (B_Mo_measure_84 k18 s0 x1 x2 x3 x4 o2)))
def B_Mo_measure_28 (k18 : S_Mo × Int32 × Int32 × Int32 × Int32 → Option (Int32 × S_Mo)) (s0 : S_Mo) (x1 : Int32) (x2 : Int32) (x3 : Int32) (x4 : Int32) : Option (Int32 × S_Mo) :=
  (if (x4 < 0 ∨ 260 ≤ x4.toNatClampNeg) then none else (if ((Mo_kind s0) x4.toNatClampNeg) = (1 : Int32) then (B_Mo_measure_39 k18 s0 x1 x2 x3 x4) else (B_Mo_measure_52 k18 s0 x1 x2 x3 x4)))
def B_Mo_measure_18 (k18 : S_Mo × Int32 × Int32 × Int32 × Int32 → Option (Int32 × S_Mo)) (s0 : S_Mo) (x1 : Int32) (x2 : Int32) (x3 : Int32) (x4 : Int32) : Option (Int32 × S_Mo) :=
  (if x4 < ((130 : Int32) * x1) then (B_Mo_measure_189 s0 x3) else (B_Mo_measure_28 k18 s0 x1 x2 x3 x4))
def L_Mo_measure_18 (v : S_Mo × Int32 × Int32 × Int32 × Int32) : Option (Int32 × S_Mo) := lp (fun k18 v => B_Mo_measure_18  k18  v.1 v.2.1 v.2.2.1 v.2.2.2.1 v.2.2.2.2) FU v
def B_Mo_measure_0 (s0 : S_Mo) (x1 : Int32) (x2 : Int32) : Option (Int32 × S_Mo) :=
  (if (x1 < 0 ∨ 2 ≤ x1.toNatClampNeg) then none else (L_Mo_measure_18 (s0, x1, x2, (1 : Int32), ((((130 : Int32) * x1) + ((Mo_count s0) x1.toNatClampNeg)) - (1 : Int32)))))
def F_Mo_measure (s0 : S_Mo) (x1 : Int32) (x2 : Int32) : Option (Int32 × S_Mo) := B_Mo_measure_0 s0 x1 x2
set_option maxRecDepth 100000 in
set_option maxHeartbeats 4000000 in
theorem t_Mo_measure_189 {p : Program} {l : Launch} {e : Env} {s : State} {m : MethodId} {args : Array Value} {below : List Frame} {meth : Method} {c : Code} {D : va_G} {A : Nat → Prop} {g : Nat → ClassId} {rest : va_W} {a0 : Nat → Nat} {ls : Array Slot} {H : Heap} {locs : List Loc} {s0 : S_Mo} {x3 : Int32} {out : Int32 × S_Mo} (X : Cx p s m args meth c prog_11_method_15_code 7 ws_Mo_measure R_Mo (some .boolean) D g) (hl : lv_has ls 7 [(3, .int x3)]) (hI : Iw D A (w_Mo g a0 s0 ++ (rest)) H) (hS : va_S A s.heap H locs) (h : B_Mo_measure_189  s0 x3 = some out) : W p l e (headSpec ws_Mo_measure { frames := 2, cells := 0, slots := 0, locals := 42 }).room s m args below meth c H locs 0 0 (MQ below (QcI D A g out.1 (fun (_ : Unit) => w_Mo g a0 out.2 ++ (rest))) args s 0 0 A) (F0 m 189 ls []) := by
  have X1 := X
  obtain ⟨hx, hb, hml, hown, hts, hr, hlocks, hKK⟩ := X1
  have ht : ∀ w ∈ TB, w.before args s = true := fun w h => hts w (List.mem_cons_of_mem _ h)
  have hK := hKK.1
  unfold B_Mo_measure_189 at h
  refine lv_iload_n hx hb d_Mo_measure_189 rfl (lv_at hl 0 rfl) ?_
  have hc1 : x3 = 0 ∨ x3 = 1 := by
    by_cases z : x3 = 0 ∨ x3 = 1
    · exact z
    · exact no_s (it_f h z)
  have h := it_t h hc1
  have h9 := Option.some.inj h
  subst h9
  exact W.zret (v := x3) hx hb hr (by rcases hc1 with z | z <;> rw [z] <;> rfl) (fun t ht hW => ⟨⟨_, (), rfl, rfl, ⟨by rw [ht]; exact hI, hKK.moved hW⟩⟩, hS.F ht⟩) hS.2.2 d_Mo_measure_190
set_option maxRecDepth 100000 in
set_option maxHeartbeats 4000000 in
theorem t_Mo_measure_182 {p : Program} {l : Launch} {e : Env} {s : State} {m : MethodId} {args : Array Value} {below : List Frame} {meth : Method} {c : Code} {D : va_G} {A : Nat → Prop} {g : Nat → ClassId} {rest : va_W} {a0 : Nat → Nat} {ls : Array Slot} {H : Heap} {locs : List Loc} {k18 : S_Mo × Int32 × Int32 × Int32 × Int32 → Option (Int32 × S_Mo)} {s0 : S_Mo} {x1 : Int32} {x2 : Int32} {x4 : Int32} {y0 : Int32} {out : Int32 × S_Mo} (X : Cx p s m args meth c prog_11_method_15_code 7 ws_Mo_measure R_Mo (some .boolean) D g) (hk18 : ∀ (v : S_Mo × Int32 × Int32 × Int32 × Int32) (ls : Array Slot) (H : Heap) (locs : List Loc), lv_has ls 7 [(0, .ref (a0 0)), (1, .int v.2.1), (2, .int v.2.2.1), (3, .int v.2.2.2.1), (4, .int v.2.2.2.2)] → Iw D A (w_Mo g a0 v.1 ++ (rest)) H → va_S A s.heap H locs → k18 v = some out → W p l e (headSpec ws_Mo_measure { frames := 2, cells := 0, slots := 0, locals := 42 }).room s m args below meth c H locs 0 0 (MQ below (QcI D A g out.1 (fun (_ : Unit) => w_Mo g a0 out.2 ++ (rest))) args s 0 0 A) (F0 m 18 ls [])) (hl : lv_has ls 7 [(0, .ref (a0 0)), (1, .int x1), (2, .int x2), (4, .int x4)]) (hI : Iw D A (w_Mo g a0 s0 ++ (rest)) H) (hS : va_S A s.heap H locs) (h : B_Mo_measure_182 k18 s0 x1 x2 x4 y0 = some out) : W p l e (headSpec ws_Mo_measure { frames := 2, cells := 0, slots := 0, locals := 42 }).room s m args below meth c H locs 0 0 (MQ below (QcI D A g out.1 (fun (_ : Unit) => w_Mo g a0 out.2 ++ (rest))) args s 0 0 A) (F0 m 182 ls [.int y0]) := by
  have X1 := X
  obtain ⟨hx, hb, hml, hown, hts, hr, hlocks, hKK⟩ := X1
  have ht : ∀ w ∈ TB, w.before args s = true := fun w h => hts w (List.mem_cons_of_mem _ h)
  have hK := hKK.1
  unfold B_Mo_measure_182 at h
  refine lv_istore_n hx hb d_Mo_measure_182 rfl hl (Nat.le_of_ble_eq_true rfl) rfl (fun ls hl => ?_)
  have hl : lv_has ls 7 [(3, .int y0), (0, .ref (a0 0)), (1, .int x1), (2, .int x2), (4, .int x4)] := hl
  refine lv_iinc (k := 4) (v := (x4 + (-1))) hx hb d_Mo_measure_183 hl rfl (congrArg (fun z => x4 + z) (by decide)) (Nat.le_of_ble_eq_true rfl) rfl (fun ls hl => ?_)
  have hl : lv_has ls 7 [(4, .int (x4 + (-1))), (3, .int y0), (0, .ref (a0 0)), (1, .int x1), (2, .int x2)] := hl
  refine lv_goto (tgt := 18) hx hb d_Mo_measure_186 (by decide) ?_
  exact hk18 (s0, x1, x2, y0, (x4 + (-1))) _ _ _ (lv_sub hl [2, 3, 4, 1, 0] rfl) hI hS h
set_option maxRecDepth 100000 in
set_option maxHeartbeats 4000000 in
theorem t_Mo_measure_181 {p : Program} {l : Launch} {e : Env} {s : State} {m : MethodId} {args : Array Value} {below : List Frame} {meth : Method} {c : Code} {D : va_G} {A : Nat → Prop} {g : Nat → ClassId} {rest : va_W} {a0 : Nat → Nat} {ls : Array Slot} {H : Heap} {locs : List Loc} {k18 : S_Mo × Int32 × Int32 × Int32 × Int32 → Option (Int32 × S_Mo)} {s0 : S_Mo} {x1 : Int32} {x2 : Int32} {x4 : Int32} {out : Int32 × S_Mo} (X : Cx p s m args meth c prog_11_method_15_code 7 ws_Mo_measure R_Mo (some .boolean) D g) (hk18 : ∀ (v : S_Mo × Int32 × Int32 × Int32 × Int32) (ls : Array Slot) (H : Heap) (locs : List Loc), lv_has ls 7 [(0, .ref (a0 0)), (1, .int v.2.1), (2, .int v.2.2.1), (3, .int v.2.2.2.1), (4, .int v.2.2.2.2)] → Iw D A (w_Mo g a0 v.1 ++ (rest)) H → va_S A s.heap H locs → k18 v = some out → W p l e (headSpec ws_Mo_measure { frames := 2, cells := 0, slots := 0, locals := 42 }).room s m args below meth c H locs 0 0 (MQ below (QcI D A g out.1 (fun (_ : Unit) => w_Mo g a0 out.2 ++ (rest))) args s 0 0 A) (F0 m 18 ls [])) (hl : lv_has ls 7 [(0, .ref (a0 0)), (1, .int x1), (2, .int x2), (4, .int x4)]) (hI : Iw D A (w_Mo g a0 s0 ++ (rest)) H) (hS : va_S A s.heap H locs) (h : B_Mo_measure_181 k18 s0 x1 x2 x4 = some out) : W p l e (headSpec ws_Mo_measure { frames := 2, cells := 0, slots := 0, locals := 42 }).room s m args below meth c H locs 0 0 (MQ below (QcI D A g out.1 (fun (_ : Unit) => w_Mo g a0 out.2 ++ (rest))) args s 0 0 A) (F0 m 181 ls []) := by
  have X1 := X
  obtain ⟨hx, hb, hml, hown, hts, hr, hlocks, hKK⟩ := X1
  have ht : ∀ w ∈ TB, w.before args s = true := fun w h => hts w (List.mem_cons_of_mem _ h)
  have hK := hKK.1
  unfold B_Mo_measure_181 at h
  refine lv_iconst (v := 0) hx hb d_Mo_measure_181 (by decide) ?_
  exact t_Mo_measure_182 X hk18 (lv_sub hl [0, 1, 2, 3] rfl) hI hS h
set_option maxRecDepth 100000 in
set_option maxHeartbeats 4000000 in
theorem t_Mo_measure_177 {p : Program} {l : Launch} {e : Env} {s : State} {m : MethodId} {args : Array Value} {below : List Frame} {meth : Method} {c : Code} {D : va_G} {A : Nat → Prop} {g : Nat → ClassId} {rest : va_W} {a0 : Nat → Nat} {ls : Array Slot} {H : Heap} {locs : List Loc} {k18 : S_Mo × Int32 × Int32 × Int32 × Int32 → Option (Int32 × S_Mo)} {s0 : S_Mo} {x1 : Int32} {x2 : Int32} {x4 : Int32} {out : Int32 × S_Mo} (X : Cx p s m args meth c prog_11_method_15_code 7 ws_Mo_measure R_Mo (some .boolean) D g) (hk18 : ∀ (v : S_Mo × Int32 × Int32 × Int32 × Int32) (ls : Array Slot) (H : Heap) (locs : List Loc), lv_has ls 7 [(0, .ref (a0 0)), (1, .int v.2.1), (2, .int v.2.2.1), (3, .int v.2.2.2.1), (4, .int v.2.2.2.2)] → Iw D A (w_Mo g a0 v.1 ++ (rest)) H → va_S A s.heap H locs → k18 v = some out → W p l e (headSpec ws_Mo_measure { frames := 2, cells := 0, slots := 0, locals := 42 }).room s m args below meth c H locs 0 0 (MQ below (QcI D A g out.1 (fun (_ : Unit) => w_Mo g a0 out.2 ++ (rest))) args s 0 0 A) (F0 m 18 ls [])) (hl : lv_has ls 7 [(0, .ref (a0 0)), (1, .int x1), (2, .int x2), (4, .int x4)]) (hI : Iw D A (w_Mo g a0 s0 ++ (rest)) H) (hS : va_S A s.heap H locs) (h : B_Mo_measure_177 k18 s0 x1 x2 x4 = some out) : W p l e (headSpec ws_Mo_measure { frames := 2, cells := 0, slots := 0, locals := 42 }).room s m args below meth c H locs 0 0 (MQ below (QcI D A g out.1 (fun (_ : Unit) => w_Mo g a0 out.2 ++ (rest))) args s 0 0 A) (F0 m 177 ls []) := by
  have X1 := X
  obtain ⟨hx, hb, hml, hown, hts, hr, hlocks, hKK⟩ := X1
  have ht : ∀ w ∈ TB, w.before args s = true := fun w h => hts w (List.mem_cons_of_mem _ h)
  have hK := hKK.1
  unfold B_Mo_measure_177 at h
  refine lv_iconst (v := 1) hx hb d_Mo_measure_177 (by decide) ?_
  refine lv_goto (tgt := 182) hx hb d_Mo_measure_178 (by decide) ?_
  exact t_Mo_measure_182 X hk18 (lv_sub hl [0, 1, 2, 3] rfl) hI hS h
set_option maxRecDepth 100000 in
set_option maxHeartbeats 4000000 in
theorem t_Mo_measure_169 {p : Program} {l : Launch} {e : Env} {s : State} {m : MethodId} {args : Array Value} {below : List Frame} {meth : Method} {c : Code} {D : va_G} {A : Nat → Prop} {g : Nat → ClassId} {rest : va_W} {a0 : Nat → Nat} {ls : Array Slot} {H : Heap} {locs : List Loc} {k18 : S_Mo × Int32 × Int32 × Int32 × Int32 → Option (Int32 × S_Mo)} {s0 : S_Mo} {x1 : Int32} {x2 : Int32} {x4 : Int32} {x5 : Int32} {out : Int32 × S_Mo} (X : Cx p s m args meth c prog_11_method_15_code 7 ws_Mo_measure R_Mo (some .boolean) D g) (hk18 : ∀ (v : S_Mo × Int32 × Int32 × Int32 × Int32) (ls : Array Slot) (H : Heap) (locs : List Loc), lv_has ls 7 [(0, .ref (a0 0)), (1, .int v.2.1), (2, .int v.2.2.1), (3, .int v.2.2.2.1), (4, .int v.2.2.2.2)] → Iw D A (w_Mo g a0 v.1 ++ (rest)) H → va_S A s.heap H locs → k18 v = some out → W p l e (headSpec ws_Mo_measure { frames := 2, cells := 0, slots := 0, locals := 42 }).room s m args below meth c H locs 0 0 (MQ below (QcI D A g out.1 (fun (_ : Unit) => w_Mo g a0 out.2 ++ (rest))) args s 0 0 A) (F0 m 18 ls [])) (hl : lv_has ls 7 [(0, .ref (a0 0)), (1, .int x1), (2, .int x2), (4, .int x4), (5, .int x5)]) (hI : Iw D A (w_Mo g a0 s0 ++ (rest)) H) (hS : va_S A s.heap H locs) (h : B_Mo_measure_169 k18 s0 x1 x2 x4 x5 = some out) : W p l e (headSpec ws_Mo_measure { frames := 2, cells := 0, slots := 0, locals := 42 }).room s m args below meth c H locs 0 0 (MQ below (QcI D A g out.1 (fun (_ : Unit) => w_Mo g a0 out.2 ++ (rest))) args s 0 0 A) (F0 m 169 ls []) := by
  have X1 := X
  obtain ⟨hx, hb, hml, hown, hts, hr, hlocks, hKK⟩ := X1
  have ht : ∀ w ∈ TB, w.before args s = true := fun w h => hts w (List.mem_cons_of_mem _ h)
  have hK := hKK.1
  unfold B_Mo_measure_169 at h
  refine lv_iload hx hb d_Mo_measure_169 (lv_at hl 4 rfl) ?_
  refine lv_sipush (v := 240) hx hb d_Mo_measure_171 (by decide) ?_
  refine lv_icmp_gt (tgt := 181) hx hb d_Mo_measure_174 (by decide) (fun hc => ?_) (fun hc => ?_)
  · have h := it_t h hc
    exact t_Mo_measure_181 X hk18 (lv_sub hl [0, 1, 2, 3] rfl) hI hS h
  · have h := it_f h hc
    exact t_Mo_measure_177 X hk18 (lv_sub hl [0, 1, 2, 3] rfl) hI hS h
set_option maxRecDepth 100000 in
set_option maxHeartbeats 4000000 in
theorem t_Mo_measure_159 {p : Program} {l : Launch} {e : Env} {s : State} {m : MethodId} {args : Array Value} {below : List Frame} {meth : Method} {c : Code} {D : va_G} {A : Nat → Prop} {g : Nat → ClassId} {rest : va_W} {a0 : Nat → Nat} {ls : Array Slot} {H : Heap} {locs : List Loc} {k18 : S_Mo × Int32 × Int32 × Int32 × Int32 → Option (Int32 × S_Mo)} {s0 : S_Mo} {x1 : Int32} {x2 : Int32} {x4 : Int32} {x5 : Int32} {out : Int32 × S_Mo} (X : Cx p s m args meth c prog_11_method_15_code 7 ws_Mo_measure R_Mo (some .boolean) D g) (hk18 : ∀ (v : S_Mo × Int32 × Int32 × Int32 × Int32) (ls : Array Slot) (H : Heap) (locs : List Loc), lv_has ls 7 [(0, .ref (a0 0)), (1, .int v.2.1), (2, .int v.2.2.1), (3, .int v.2.2.2.1), (4, .int v.2.2.2.2)] → Iw D A (w_Mo g a0 v.1 ++ (rest)) H → va_S A s.heap H locs → k18 v = some out → W p l e (headSpec ws_Mo_measure { frames := 2, cells := 0, slots := 0, locals := 42 }).room s m args below meth c H locs 0 0 (MQ below (QcI D A g out.1 (fun (_ : Unit) => w_Mo g a0 out.2 ++ (rest))) args s 0 0 A) (F0 m 18 ls [])) (hl : lv_has ls 7 [(0, .ref (a0 0)), (1, .int x1), (2, .int x2), (4, .int x4), (5, .int x5)]) (hI : Iw D A (w_Mo g a0 s0 ++ (rest)) H) (hS : va_S A s.heap H locs) (h : B_Mo_measure_159 k18 s0 x1 x2 x4 x5 = some out) : W p l e (headSpec ws_Mo_measure { frames := 2, cells := 0, slots := 0, locals := 42 }).room s m args below meth c H locs 0 0 (MQ below (QcI D A g out.1 (fun (_ : Unit) => w_Mo g a0 out.2 ++ (rest))) args s 0 0 A) (F0 m 159 ls []) := by
  have X1 := X
  obtain ⟨hx, hb, hml, hown, hts, hr, hlocks, hKK⟩ := X1
  have ht : ∀ w ∈ TB, w.before args s = true := fun w h => hts w (List.mem_cons_of_mem _ h)
  have hK := hKK.1
  unfold B_Mo_measure_159 at h
  refine lv_aload_n hx hb d_Mo_measure_159 rfl (lv_at hl 0 rfl) ?_
  refine gt_Mo_parent hx hb ht hown hK hI (ht _ m_827) d_Mo_measure_160 ?_
  refine lv_iload hx hb d_Mo_measure_163 (lv_at hl 3 rfl) ?_
  by_cases hc1 : (x4 < 0 ∨ 260 ≤ x4.toNatClampNeg)
  · exact no_s (it_t h hc1)
  have h := it_f h hc1
  refine al_Mo_parent hx hb hK hI hc1 d_Mo_measure_165 ?_
  refine lv_if_lt (tgt := 177) hx hb d_Mo_measure_166 (by decide) (fun hc => ?_) (fun hc => ?_)
  · have h := it_t h hc
    exact t_Mo_measure_177 X hk18 (lv_sub hl [0, 1, 2, 3] rfl) hI hS h
  · have h := it_f h hc
    exact t_Mo_measure_169 X hk18 (lv_sub hl [0, 1, 2, 3, 4] rfl) hI hS h
set_option maxRecDepth 100000 in
set_option maxHeartbeats 4000000 in
theorem t_Mo_measure_146 {p : Program} {l : Launch} {e : Env} {s : State} {m : MethodId} {args : Array Value} {below : List Frame} {meth : Method} {c : Code} {D : va_G} {A : Nat → Prop} {g : Nat → ClassId} {rest : va_W} {a0 : Nat → Nat} {ls : Array Slot} {H : Heap} {locs : List Loc} {k18 : S_Mo × Int32 × Int32 × Int32 × Int32 → Option (Int32 × S_Mo)} {s0 : S_Mo} {x1 : Int32} {x2 : Int32} {x3 : Int32} {x4 : Int32} {x5 : Int32} {out : Int32 × S_Mo} (X : Cx p s m args meth c prog_11_method_15_code 7 ws_Mo_measure R_Mo (some .boolean) D g) (hk18 : ∀ (v : S_Mo × Int32 × Int32 × Int32 × Int32) (ls : Array Slot) (H : Heap) (locs : List Loc), lv_has ls 7 [(0, .ref (a0 0)), (1, .int v.2.1), (2, .int v.2.2.1), (3, .int v.2.2.2.1), (4, .int v.2.2.2.2)] → Iw D A (w_Mo g a0 v.1 ++ (rest)) H → va_S A s.heap H locs → k18 v = some out → W p l e (headSpec ws_Mo_measure { frames := 2, cells := 0, slots := 0, locals := 42 }).room s m args below meth c H locs 0 0 (MQ below (QcI D A g out.1 (fun (_ : Unit) => w_Mo g a0 out.2 ++ (rest))) args s 0 0 A) (F0 m 18 ls [])) (hl : lv_has ls 7 [(0, .ref (a0 0)), (1, .int x1), (2, .int x2), (3, .int x3), (4, .int x4), (5, .int x5)]) (hI : Iw D A (w_Mo g a0 s0 ++ (rest)) H) (hS : va_S A s.heap H locs) (h : B_Mo_measure_146 k18 s0 x1 x2 x3 x4 x5 = some out) : W p l e (headSpec ws_Mo_measure { frames := 2, cells := 0, slots := 0, locals := 42 }).room s m args below meth c H locs 0 0 (MQ below (QcI D A g out.1 (fun (_ : Unit) => w_Mo g a0 out.2 ++ (rest))) args s 0 0 A) (F0 m 146 ls []) := by
  have X1 := X
  obtain ⟨hx, hb, hml, hown, hts, hr, hlocks, hKK⟩ := X1
  have ht : ∀ w ∈ TB, w.before args s = true := fun w h => hts w (List.mem_cons_of_mem _ h)
  have hK := hKK.1
  unfold B_Mo_measure_146 at h
  refine lv_aload_n hx hb d_Mo_measure_146 rfl (lv_at hl 0 rfl) ?_
  refine gt_Mo_size hx hb ht hown hK hI (ht _ m_832) d_Mo_measure_147 ?_
  refine lv_iload hx hb d_Mo_measure_150 (lv_at hl 4 rfl) ?_
  refine lv_iload hx hb d_Mo_measure_152 (lv_at hl 5 rfl) ?_
  by_cases hc1 : (x4 < 0 ∨ 260 ≤ x4.toNatClampNeg)
  · exact no_s (it_t h hc1)
  have h := it_f h hc1
  refine as_Mo_size hx hb hK hI hS hc1 d_Mo_measure_154 (fun H locs hI hS => ?_)
  refine lv_iload_n hx hb d_Mo_measure_155 rfl (lv_at hl 3 rfl) ?_
  refine lv_if_eq (tgt := 181) hx hb d_Mo_measure_156 (by decide) (fun hc => ?_) (fun hc => ?_)
  · have h := it_t h hc
    exact t_Mo_measure_181 X hk18 (lv_sub hl [0, 1, 2, 4] rfl) hI hS h
  · have h := it_f h hc
    exact t_Mo_measure_159 X hk18 (lv_sub hl [0, 1, 2, 4, 5] rfl) hI hS h
set_option maxRecDepth 100000 in
set_option maxHeartbeats 4000000 in
theorem t_Mo_measure_130 {p : Program} {l : Launch} {e : Env} {s : State} {m : MethodId} {args : Array Value} {below : List Frame} {meth : Method} {c : Code} {D : va_G} {A : Nat → Prop} {g : Nat → ClassId} {rest : va_W} {a0 : Nat → Nat} {ls : Array Slot} {H : Heap} {locs : List Loc} {k18 : S_Mo × Int32 × Int32 × Int32 × Int32 → Option (Int32 × S_Mo)} {k95 : S_Mo × Int32 × Int32 × Int32 × Int32 × Int32 × Int32 → Option (Int32 × S_Mo)} {s0 : S_Mo} {x1 : Int32} {x2 : Int32} {x3 : Int32} {x4 : Int32} {x6 : Int32} {y0 : Int32} {y1 : Int32} {y2 : Int32} {out : Int32 × S_Mo} (X : Cx p s m args meth c prog_11_method_15_code 7 ws_Mo_measure R_Mo (some .boolean) D g) (hk18 : ∀ (v : S_Mo × Int32 × Int32 × Int32 × Int32) (ls : Array Slot) (H : Heap) (locs : List Loc), lv_has ls 7 [(0, .ref (a0 0)), (1, .int v.2.1), (2, .int v.2.2.1), (3, .int v.2.2.2.1), (4, .int v.2.2.2.2)] → Iw D A (w_Mo g a0 v.1 ++ (rest)) H → va_S A s.heap H locs → k18 v = some out → W p l e (headSpec ws_Mo_measure { frames := 2, cells := 0, slots := 0, locals := 42 }).room s m args below meth c H locs 0 0 (MQ below (QcI D A g out.1 (fun (_ : Unit) => w_Mo g a0 out.2 ++ (rest))) args s 0 0 A) (F0 m 18 ls [])) (hk95 : ∀ (v : S_Mo × Int32 × Int32 × Int32 × Int32 × Int32 × Int32) (ls : Array Slot) (H : Heap) (locs : List Loc), lv_has ls 7 [(0, .ref (a0 0)), (1, .int v.2.1), (2, .int v.2.2.1), (3, .int v.2.2.2.1), (4, .int v.2.2.2.2.1), (5, .int v.2.2.2.2.2.1), (6, .int v.2.2.2.2.2.2)] → Iw D A (w_Mo g a0 v.1 ++ (rest)) H → va_S A s.heap H locs → k95 v = some out → W p l e (headSpec ws_Mo_measure { frames := 2, cells := 0, slots := 0, locals := 42 }).room s m args below meth c H locs 0 0 (MQ below (QcI D A g out.1 (fun (_ : Unit) => w_Mo g a0 out.2 ++ (rest))) args s 0 0 A) (F0 m 95 ls [])) (hl : lv_has ls 7 [(0, .ref (a0 0)), (1, .int x1), (2, .int x2), (3, .int x3), (4, .int x4), (6, .int x6)]) (hI : Iw D A (w_Mo g a0 s0 ++ (rest)) H) (hS : va_S A s.heap H locs) (h : B_Mo_measure_130 k18 k95 s0 x1 x2 x3 x4 x6 y0 y1 y2 = some out) : W p l e (headSpec ws_Mo_measure { frames := 2, cells := 0, slots := 0, locals := 42 }).room s m args below meth c H locs 0 0 (MQ below (QcI D A g out.1 (fun (_ : Unit) => w_Mo g a0 out.2 ++ (rest))) args s 0 0 A) (F0 m 130 ls [.int y0, .int y1, .int y2]) := by
  have X1 := X
  obtain ⟨hx, hb, hml, hown, hts, hr, hlocks, hKK⟩ := X1
  have ht : ∀ w ∈ TB, w.before args s = true := fun w h => hts w (List.mem_cons_of_mem _ h)
  have hK := hKK.1
  unfold B_Mo_measure_130 at h
  refine lv_iadd hx hb d_Mo_measure_130 ?_
  refine lv_iadd hx hb d_Mo_measure_131 ?_
  refine lv_istore hx hb d_Mo_measure_132 hl (Nat.le_of_ble_eq_true rfl) rfl (fun ls hl => ?_)
  have hl : lv_has ls 7 [(5, .int (y2 + (y1 + y0))), (0, .ref (a0 0)), (1, .int x1), (2, .int x2), (3, .int x3), (4, .int x4), (6, .int x6)] := hl
  refine lv_aload_n hx hb d_Mo_measure_134 rfl (lv_at hl 1 rfl) ?_
  refine gt_Mo_next hx hb ht hown hK hI (ht _ m_829) d_Mo_measure_135 ?_
  refine lv_iload hx hb d_Mo_measure_138 (lv_at hl 6 rfl) ?_
  by_cases hc1 : (x6 < 0 ∨ 260 ≤ x6.toNatClampNeg)
  · exact no_s (it_t h hc1)
  have h := it_f h hc1
  refine al_Mo_next hx hb hK hI hc1 d_Mo_measure_140 ?_
  refine lv_istore hx hb d_Mo_measure_141 hl (Nat.le_of_ble_eq_true rfl) rfl (fun ls hl => ?_)
  have hl : lv_has ls 7 [(6, .int ((Mo_next s0) x6.toNatClampNeg)), (5, .int (y2 + (y1 + y0))), (0, .ref (a0 0)), (1, .int x1), (2, .int x2), (3, .int x3), (4, .int x4)] := hl
  refine lv_goto (tgt := 95) hx hb d_Mo_measure_143 (by decide) ?_
  exact hk95 (s0, x1, x2, x3, x4, (y2 + (y1 + y0)), ((Mo_next s0) x6.toNatClampNeg)) _ _ _ (lv_sub hl [2, 3, 4, 5, 6, 1, 0] rfl) hI hS h
set_option maxRecDepth 100000 in
set_option maxHeartbeats 4000000 in
theorem t_Mo_measure_129 {p : Program} {l : Launch} {e : Env} {s : State} {m : MethodId} {args : Array Value} {below : List Frame} {meth : Method} {c : Code} {D : va_G} {A : Nat → Prop} {g : Nat → ClassId} {rest : va_W} {a0 : Nat → Nat} {ls : Array Slot} {H : Heap} {locs : List Loc} {k18 : S_Mo × Int32 × Int32 × Int32 × Int32 → Option (Int32 × S_Mo)} {k95 : S_Mo × Int32 × Int32 × Int32 × Int32 × Int32 × Int32 → Option (Int32 × S_Mo)} {s0 : S_Mo} {x1 : Int32} {x2 : Int32} {x3 : Int32} {x4 : Int32} {x6 : Int32} {y0 : Int32} {y1 : Int32} {out : Int32 × S_Mo} (X : Cx p s m args meth c prog_11_method_15_code 7 ws_Mo_measure R_Mo (some .boolean) D g) (hk18 : ∀ (v : S_Mo × Int32 × Int32 × Int32 × Int32) (ls : Array Slot) (H : Heap) (locs : List Loc), lv_has ls 7 [(0, .ref (a0 0)), (1, .int v.2.1), (2, .int v.2.2.1), (3, .int v.2.2.2.1), (4, .int v.2.2.2.2)] → Iw D A (w_Mo g a0 v.1 ++ (rest)) H → va_S A s.heap H locs → k18 v = some out → W p l e (headSpec ws_Mo_measure { frames := 2, cells := 0, slots := 0, locals := 42 }).room s m args below meth c H locs 0 0 (MQ below (QcI D A g out.1 (fun (_ : Unit) => w_Mo g a0 out.2 ++ (rest))) args s 0 0 A) (F0 m 18 ls [])) (hk95 : ∀ (v : S_Mo × Int32 × Int32 × Int32 × Int32 × Int32 × Int32) (ls : Array Slot) (H : Heap) (locs : List Loc), lv_has ls 7 [(0, .ref (a0 0)), (1, .int v.2.1), (2, .int v.2.2.1), (3, .int v.2.2.2.1), (4, .int v.2.2.2.2.1), (5, .int v.2.2.2.2.2.1), (6, .int v.2.2.2.2.2.2)] → Iw D A (w_Mo g a0 v.1 ++ (rest)) H → va_S A s.heap H locs → k95 v = some out → W p l e (headSpec ws_Mo_measure { frames := 2, cells := 0, slots := 0, locals := 42 }).room s m args below meth c H locs 0 0 (MQ below (QcI D A g out.1 (fun (_ : Unit) => w_Mo g a0 out.2 ++ (rest))) args s 0 0 A) (F0 m 95 ls [])) (hl : lv_has ls 7 [(0, .ref (a0 0)), (1, .int x1), (2, .int x2), (3, .int x3), (4, .int x4), (6, .int x6)]) (hI : Iw D A (w_Mo g a0 s0 ++ (rest)) H) (hS : va_S A s.heap H locs) (h : B_Mo_measure_129 k18 k95 s0 x1 x2 x3 x4 x6 y0 y1 = some out) : W p l e (headSpec ws_Mo_measure { frames := 2, cells := 0, slots := 0, locals := 42 }).room s m args below meth c H locs 0 0 (MQ below (QcI D A g out.1 (fun (_ : Unit) => w_Mo g a0 out.2 ++ (rest))) args s 0 0 A) (F0 m 129 ls [.int y0, .int y1]) := by
  have X1 := X
  obtain ⟨hx, hb, hml, hown, hts, hr, hlocks, hKK⟩ := X1
  have ht : ∀ w ∈ TB, w.before args s = true := fun w h => hts w (List.mem_cons_of_mem _ h)
  have hK := hKK.1
  unfold B_Mo_measure_129 at h
  refine lv_iconst (v := 0) hx hb d_Mo_measure_129 (by decide) ?_
  exact t_Mo_measure_130 X hk18 hk95 (lv_sub hl [0, 1, 2, 3, 4, 5] rfl) hI hS h
set_option maxRecDepth 100000 in
set_option maxHeartbeats 4000000 in
theorem t_Mo_measure_125 {p : Program} {l : Launch} {e : Env} {s : State} {m : MethodId} {args : Array Value} {below : List Frame} {meth : Method} {c : Code} {D : va_G} {A : Nat → Prop} {g : Nat → ClassId} {rest : va_W} {a0 : Nat → Nat} {ls : Array Slot} {H : Heap} {locs : List Loc} {k18 : S_Mo × Int32 × Int32 × Int32 × Int32 → Option (Int32 × S_Mo)} {k95 : S_Mo × Int32 × Int32 × Int32 × Int32 × Int32 × Int32 → Option (Int32 × S_Mo)} {s0 : S_Mo} {x1 : Int32} {x2 : Int32} {x3 : Int32} {x4 : Int32} {x6 : Int32} {y0 : Int32} {y1 : Int32} {out : Int32 × S_Mo} (X : Cx p s m args meth c prog_11_method_15_code 7 ws_Mo_measure R_Mo (some .boolean) D g) (hk18 : ∀ (v : S_Mo × Int32 × Int32 × Int32 × Int32) (ls : Array Slot) (H : Heap) (locs : List Loc), lv_has ls 7 [(0, .ref (a0 0)), (1, .int v.2.1), (2, .int v.2.2.1), (3, .int v.2.2.2.1), (4, .int v.2.2.2.2)] → Iw D A (w_Mo g a0 v.1 ++ (rest)) H → va_S A s.heap H locs → k18 v = some out → W p l e (headSpec ws_Mo_measure { frames := 2, cells := 0, slots := 0, locals := 42 }).room s m args below meth c H locs 0 0 (MQ below (QcI D A g out.1 (fun (_ : Unit) => w_Mo g a0 out.2 ++ (rest))) args s 0 0 A) (F0 m 18 ls [])) (hk95 : ∀ (v : S_Mo × Int32 × Int32 × Int32 × Int32 × Int32 × Int32) (ls : Array Slot) (H : Heap) (locs : List Loc), lv_has ls 7 [(0, .ref (a0 0)), (1, .int v.2.1), (2, .int v.2.2.1), (3, .int v.2.2.2.1), (4, .int v.2.2.2.2.1), (5, .int v.2.2.2.2.2.1), (6, .int v.2.2.2.2.2.2)] → Iw D A (w_Mo g a0 v.1 ++ (rest)) H → va_S A s.heap H locs → k95 v = some out → W p l e (headSpec ws_Mo_measure { frames := 2, cells := 0, slots := 0, locals := 42 }).room s m args below meth c H locs 0 0 (MQ below (QcI D A g out.1 (fun (_ : Unit) => w_Mo g a0 out.2 ++ (rest))) args s 0 0 A) (F0 m 95 ls [])) (hl : lv_has ls 7 [(0, .ref (a0 0)), (1, .int x1), (2, .int x2), (3, .int x3), (4, .int x4), (6, .int x6)]) (hI : Iw D A (w_Mo g a0 s0 ++ (rest)) H) (hS : va_S A s.heap H locs) (h : B_Mo_measure_125 k18 k95 s0 x1 x2 x3 x4 x6 y0 y1 = some out) : W p l e (headSpec ws_Mo_measure { frames := 2, cells := 0, slots := 0, locals := 42 }).room s m args below meth c H locs 0 0 (MQ below (QcI D A g out.1 (fun (_ : Unit) => w_Mo g a0 out.2 ++ (rest))) args s 0 0 A) (F0 m 125 ls [.int y0, .int y1]) := by
  have X1 := X
  obtain ⟨hx, hb, hml, hown, hts, hr, hlocks, hKK⟩ := X1
  have ht : ∀ w ∈ TB, w.before args s = true := fun w h => hts w (List.mem_cons_of_mem _ h)
  have hK := hKK.1
  unfold B_Mo_measure_125 at h
  refine lv_iconst (v := 1) hx hb d_Mo_measure_125 (by decide) ?_
  refine lv_goto (tgt := 130) hx hb d_Mo_measure_126 (by decide) ?_
  exact t_Mo_measure_130 X hk18 hk95 (lv_sub hl [0, 1, 2, 3, 4, 5] rfl) hI hS h
set_option maxRecDepth 100000 in
set_option maxHeartbeats 4000000 in
theorem t_Mo_measure_121 {p : Program} {l : Launch} {e : Env} {s : State} {m : MethodId} {args : Array Value} {below : List Frame} {meth : Method} {c : Code} {D : va_G} {A : Nat → Prop} {g : Nat → ClassId} {rest : va_W} {a0 : Nat → Nat} {ls : Array Slot} {H : Heap} {locs : List Loc} {k18 : S_Mo × Int32 × Int32 × Int32 × Int32 → Option (Int32 × S_Mo)} {k95 : S_Mo × Int32 × Int32 × Int32 × Int32 × Int32 × Int32 → Option (Int32 × S_Mo)} {s0 : S_Mo} {x1 : Int32} {x2 : Int32} {x3 : Int32} {x4 : Int32} {x6 : Int32} {y0 : Int32} {y1 : Int32} {out : Int32 × S_Mo} (X : Cx p s m args meth c prog_11_method_15_code 7 ws_Mo_measure R_Mo (some .boolean) D g) (hk18 : ∀ (v : S_Mo × Int32 × Int32 × Int32 × Int32) (ls : Array Slot) (H : Heap) (locs : List Loc), lv_has ls 7 [(0, .ref (a0 0)), (1, .int v.2.1), (2, .int v.2.2.1), (3, .int v.2.2.2.1), (4, .int v.2.2.2.2)] → Iw D A (w_Mo g a0 v.1 ++ (rest)) H → va_S A s.heap H locs → k18 v = some out → W p l e (headSpec ws_Mo_measure { frames := 2, cells := 0, slots := 0, locals := 42 }).room s m args below meth c H locs 0 0 (MQ below (QcI D A g out.1 (fun (_ : Unit) => w_Mo g a0 out.2 ++ (rest))) args s 0 0 A) (F0 m 18 ls [])) (hk95 : ∀ (v : S_Mo × Int32 × Int32 × Int32 × Int32 × Int32 × Int32) (ls : Array Slot) (H : Heap) (locs : List Loc), lv_has ls 7 [(0, .ref (a0 0)), (1, .int v.2.1), (2, .int v.2.2.1), (3, .int v.2.2.2.1), (4, .int v.2.2.2.2.1), (5, .int v.2.2.2.2.2.1), (6, .int v.2.2.2.2.2.2)] → Iw D A (w_Mo g a0 v.1 ++ (rest)) H → va_S A s.heap H locs → k95 v = some out → W p l e (headSpec ws_Mo_measure { frames := 2, cells := 0, slots := 0, locals := 42 }).room s m args below meth c H locs 0 0 (MQ below (QcI D A g out.1 (fun (_ : Unit) => w_Mo g a0 out.2 ++ (rest))) args s 0 0 A) (F0 m 95 ls [])) (hl : lv_has ls 7 [(0, .ref (a0 0)), (1, .int x1), (2, .int x2), (3, .int x3), (4, .int x4), (6, .int x6)]) (hI : Iw D A (w_Mo g a0 s0 ++ (rest)) H) (hS : va_S A s.heap H locs) (h : B_Mo_measure_121 k18 k95 s0 x1 x2 x3 x4 x6 y0 y1 = some out) : W p l e (headSpec ws_Mo_measure { frames := 2, cells := 0, slots := 0, locals := 42 }).room s m args below meth c H locs 0 0 (MQ below (QcI D A g out.1 (fun (_ : Unit) => w_Mo g a0 out.2 ++ (rest))) args s 0 0 A) (F0 m 121 ls [.int y0, .int y1]) := by
  have X1 := X
  obtain ⟨hx, hb, hml, hown, hts, hr, hlocks, hKK⟩ := X1
  have ht : ∀ w ∈ TB, w.before args s = true := fun w h => hts w (List.mem_cons_of_mem _ h)
  have hK := hKK.1
  unfold B_Mo_measure_121 at h
  refine lv_iload_n hx hb d_Mo_measure_121 rfl (lv_at hl 2 rfl) ?_
  refine lv_if_ne (tgt := 129) hx hb d_Mo_measure_122 (by decide) (fun hc => ?_) (fun hc => ?_)
  · have h := it_f h hc
    exact t_Mo_measure_129 X hk18 hk95 (lv_sub hl [0, 1, 2, 3, 4, 5] rfl) hI hS h
  · have h := it_t h hc
    exact t_Mo_measure_125 X hk18 hk95 (lv_sub hl [0, 1, 2, 3, 4, 5] rfl) hI hS h
set_option maxRecDepth 100000 in
set_option maxHeartbeats 4000000 in
theorem t_Mo_measure_100 {p : Program} {l : Launch} {e : Env} {s : State} {m : MethodId} {args : Array Value} {below : List Frame} {meth : Method} {c : Code} {D : va_G} {A : Nat → Prop} {g : Nat → ClassId} {rest : va_W} {a0 : Nat → Nat} {ls : Array Slot} {H : Heap} {locs : List Loc} {k18 : S_Mo × Int32 × Int32 × Int32 × Int32 → Option (Int32 × S_Mo)} {k95 : S_Mo × Int32 × Int32 × Int32 × Int32 × Int32 × Int32 → Option (Int32 × S_Mo)} {s0 : S_Mo} {x1 : Int32} {x2 : Int32} {x3 : Int32} {x4 : Int32} {x5 : Int32} {x6 : Int32} {out : Int32 × S_Mo} (X : Cx p s m args meth c prog_11_method_15_code 7 ws_Mo_measure R_Mo (some .boolean) D g) (hk18 : ∀ (v : S_Mo × Int32 × Int32 × Int32 × Int32) (ls : Array Slot) (H : Heap) (locs : List Loc), lv_has ls 7 [(0, .ref (a0 0)), (1, .int v.2.1), (2, .int v.2.2.1), (3, .int v.2.2.2.1), (4, .int v.2.2.2.2)] → Iw D A (w_Mo g a0 v.1 ++ (rest)) H → va_S A s.heap H locs → k18 v = some out → W p l e (headSpec ws_Mo_measure { frames := 2, cells := 0, slots := 0, locals := 42 }).room s m args below meth c H locs 0 0 (MQ below (QcI D A g out.1 (fun (_ : Unit) => w_Mo g a0 out.2 ++ (rest))) args s 0 0 A) (F0 m 18 ls [])) (hk95 : ∀ (v : S_Mo × Int32 × Int32 × Int32 × Int32 × Int32 × Int32) (ls : Array Slot) (H : Heap) (locs : List Loc), lv_has ls 7 [(0, .ref (a0 0)), (1, .int v.2.1), (2, .int v.2.2.1), (3, .int v.2.2.2.1), (4, .int v.2.2.2.2.1), (5, .int v.2.2.2.2.2.1), (6, .int v.2.2.2.2.2.2)] → Iw D A (w_Mo g a0 v.1 ++ (rest)) H → va_S A s.heap H locs → k95 v = some out → W p l e (headSpec ws_Mo_measure { frames := 2, cells := 0, slots := 0, locals := 42 }).room s m args below meth c H locs 0 0 (MQ below (QcI D A g out.1 (fun (_ : Unit) => w_Mo g a0 out.2 ++ (rest))) args s 0 0 A) (F0 m 95 ls [])) (hl : lv_has ls 7 [(0, .ref (a0 0)), (1, .int x1), (2, .int x2), (3, .int x3), (4, .int x4), (5, .int x5), (6, .int x6)]) (hI : Iw D A (w_Mo g a0 s0 ++ (rest)) H) (hS : va_S A s.heap H locs) (h : B_Mo_measure_100 k18 k95 s0 x1 x2 x3 x4 x5 x6 = some out) : W p l e (headSpec ws_Mo_measure { frames := 2, cells := 0, slots := 0, locals := 42 }).room s m args below meth c H locs 0 0 (MQ below (QcI D A g out.1 (fun (_ : Unit) => w_Mo g a0 out.2 ++ (rest))) args s 0 0 A) (F0 m 100 ls []) := by
  have X1 := X
  obtain ⟨hx, hb, hml, hown, hts, hr, hlocks, hKK⟩ := X1
  have ht : ∀ w ∈ TB, w.before args s = true := fun w h => hts w (List.mem_cons_of_mem _ h)
  have hK := hKK.1
  unfold B_Mo_measure_100 at h
  refine lv_iload hx hb d_Mo_measure_100 (lv_at hl 5 rfl) ?_
  refine lv_aload_n hx hb d_Mo_measure_102 rfl (lv_at hl 0 rfl) ?_
  refine gt_Mo_size hx hb ht hown hK hI (ht _ m_832) d_Mo_measure_103 ?_
  refine lv_iload hx hb d_Mo_measure_106 (lv_at hl 6 rfl) ?_
  by_cases hc1 : (x6 < 0 ∨ 260 ≤ x6.toNatClampNeg)
  · exact no_s (it_t h hc1)
  have h := it_f h hc1
  refine al_Mo_size hx hb hK hI hc1 d_Mo_measure_108 ?_
  refine lv_iconst (v := 2) hx hb d_Mo_measure_109 (by decide) ?_
  refine lv_iadd hx hb d_Mo_measure_110 ?_
  refine lv_aload_n hx hb d_Mo_measure_111 rfl (lv_at hl 0 rfl) ?_
  refine gt_Mo_kind hx hb ht hown hK hI (ht _ m_823) d_Mo_measure_112 ?_
  refine lv_iload hx hb d_Mo_measure_115 (lv_at hl 6 rfl) ?_
  by_cases hc2 : (x6 < 0 ∨ 260 ≤ x6.toNatClampNeg)
  · exact no_s (it_t h hc2)
  have h := it_f h hc2
  refine al_Mo_kind hx hb hK hI hc2 d_Mo_measure_117 ?_
  refine lv_if_eq (tgt := 129) hx hb d_Mo_measure_118 (by decide) (fun hc => ?_) (fun hc => ?_)
  · have h := it_t h hc
    exact t_Mo_measure_129 X hk18 hk95 (lv_sub hl [0, 1, 2, 3, 4, 6] rfl) hI hS h
  · have h := it_f h hc
    exact t_Mo_measure_121 X hk18 hk95 (lv_sub hl [0, 1, 2, 3, 4, 6] rfl) hI hS h
set_option maxRecDepth 100000 in
set_option maxHeartbeats 4000000 in
theorem t_Mo_measure_95 {p : Program} {l : Launch} {e : Env} {s : State} {m : MethodId} {args : Array Value} {below : List Frame} {meth : Method} {c : Code} {D : va_G} {A : Nat → Prop} {g : Nat → ClassId} {rest : va_W} {a0 : Nat → Nat} {ls : Array Slot} {H : Heap} {locs : List Loc} {k18 : S_Mo × Int32 × Int32 × Int32 × Int32 → Option (Int32 × S_Mo)} {k95 : S_Mo × Int32 × Int32 × Int32 × Int32 × Int32 × Int32 → Option (Int32 × S_Mo)} {s0 : S_Mo} {x1 : Int32} {x2 : Int32} {x3 : Int32} {x4 : Int32} {x5 : Int32} {x6 : Int32} {out : Int32 × S_Mo} (X : Cx p s m args meth c prog_11_method_15_code 7 ws_Mo_measure R_Mo (some .boolean) D g) (hk18 : ∀ (v : S_Mo × Int32 × Int32 × Int32 × Int32) (ls : Array Slot) (H : Heap) (locs : List Loc), lv_has ls 7 [(0, .ref (a0 0)), (1, .int v.2.1), (2, .int v.2.2.1), (3, .int v.2.2.2.1), (4, .int v.2.2.2.2)] → Iw D A (w_Mo g a0 v.1 ++ (rest)) H → va_S A s.heap H locs → k18 v = some out → W p l e (headSpec ws_Mo_measure { frames := 2, cells := 0, slots := 0, locals := 42 }).room s m args below meth c H locs 0 0 (MQ below (QcI D A g out.1 (fun (_ : Unit) => w_Mo g a0 out.2 ++ (rest))) args s 0 0 A) (F0 m 18 ls [])) (hk95 : ∀ (v : S_Mo × Int32 × Int32 × Int32 × Int32 × Int32 × Int32) (ls : Array Slot) (H : Heap) (locs : List Loc), lv_has ls 7 [(0, .ref (a0 0)), (1, .int v.2.1), (2, .int v.2.2.1), (3, .int v.2.2.2.1), (4, .int v.2.2.2.2.1), (5, .int v.2.2.2.2.2.1), (6, .int v.2.2.2.2.2.2)] → Iw D A (w_Mo g a0 v.1 ++ (rest)) H → va_S A s.heap H locs → k95 v = some out → W p l e (headSpec ws_Mo_measure { frames := 2, cells := 0, slots := 0, locals := 42 }).room s m args below meth c H locs 0 0 (MQ below (QcI D A g out.1 (fun (_ : Unit) => w_Mo g a0 out.2 ++ (rest))) args s 0 0 A) (F0 m 95 ls [])) (hl : lv_has ls 7 [(0, .ref (a0 0)), (1, .int x1), (2, .int x2), (3, .int x3), (4, .int x4), (5, .int x5), (6, .int x6)]) (hI : Iw D A (w_Mo g a0 s0 ++ (rest)) H) (hS : va_S A s.heap H locs) (h : B_Mo_measure_95 k18 k95 s0 x1 x2 x3 x4 x5 x6 = some out) : W p l e (headSpec ws_Mo_measure { frames := 2, cells := 0, slots := 0, locals := 42 }).room s m args below meth c H locs 0 0 (MQ below (QcI D A g out.1 (fun (_ : Unit) => w_Mo g a0 out.2 ++ (rest))) args s 0 0 A) (F0 m 95 ls []) := by
  have X1 := X
  obtain ⟨hx, hb, hml, hown, hts, hr, hlocks, hKK⟩ := X1
  have ht : ∀ w ∈ TB, w.before args s = true := fun w h => hts w (List.mem_cons_of_mem _ h)
  have hK := hKK.1
  unfold B_Mo_measure_95 at h
  refine lv_iload hx hb d_Mo_measure_95 (lv_at hl 6 rfl) ?_
  refine lv_if_lt (tgt := 146) hx hb d_Mo_measure_97 (by decide) (fun hc => ?_) (fun hc => ?_)
  · have h := it_t h hc
    exact t_Mo_measure_146 X hk18 (lv_sub hl [0, 1, 2, 3, 4, 5] rfl) hI hS h
  · have h := it_f h hc
    exact t_Mo_measure_100 X hk18 hk95 (lv_sub hl [0, 1, 2, 3, 4, 5, 6] rfl) hI hS h
set_option maxRecDepth 100000 in
set_option maxHeartbeats 4000000 in
theorem T_Mo_measure_95 {p : Program} {l : Launch} {e : Env} {s : State} {m : MethodId} {args : Array Value} {below : List Frame} {meth : Method} {c : Code} {D : va_G} {A : Nat → Prop} {g : Nat → ClassId} {rest : va_W} {a0 : Nat → Nat} {ls : Array Slot} {H : Heap} {locs : List Loc} {k18 : S_Mo × Int32 × Int32 × Int32 × Int32 → Option (Int32 × S_Mo)} {s0 : S_Mo} {x1 : Int32} {x2 : Int32} {x3 : Int32} {x4 : Int32} {x5 : Int32} {x6 : Int32} {out : Int32 × S_Mo} (X : Cx p s m args meth c prog_11_method_15_code 7 ws_Mo_measure R_Mo (some .boolean) D g) (hk18 : ∀ (v : S_Mo × Int32 × Int32 × Int32 × Int32) (ls : Array Slot) (H : Heap) (locs : List Loc), lv_has ls 7 [(0, .ref (a0 0)), (1, .int v.2.1), (2, .int v.2.2.1), (3, .int v.2.2.2.1), (4, .int v.2.2.2.2)] → Iw D A (w_Mo g a0 v.1 ++ (rest)) H → va_S A s.heap H locs → k18 v = some out → W p l e (headSpec ws_Mo_measure { frames := 2, cells := 0, slots := 0, locals := 42 }).room s m args below meth c H locs 0 0 (MQ below (QcI D A g out.1 (fun (_ : Unit) => w_Mo g a0 out.2 ++ (rest))) args s 0 0 A) (F0 m 18 ls [])) (hl : lv_has ls 7 [(0, .ref (a0 0)), (1, .int x1), (2, .int x2), (3, .int x3), (4, .int x4), (5, .int x5), (6, .int x6)]) (hI : Iw D A (w_Mo g a0 s0 ++ (rest)) H) (hS : va_S A s.heap H locs) (h : L_Mo_measure_95 k18  (s0, x1, x2, x3, x4, x5, x6) = some out) : W p l e (headSpec ws_Mo_measure { frames := 2, cells := 0, slots := 0, locals := 42 }).room s m args below meth c H locs 0 0 (MQ below (QcI D A g out.1 (fun (_ : Unit) => w_Mo g a0 out.2 ++ (rest))) args s 0 0 A) (F0 m 95 ls []) := by
  unfold L_Mo_measure_95 at h
  exact lp_ind (P := fun v => ∀ (ls : Array Slot) (H : Heap) (locs : List Loc), lv_has ls 7 [(0, .ref (a0 0)), (1, .int v.2.1), (2, .int v.2.2.1), (3, .int v.2.2.2.1), (4, .int v.2.2.2.2.1), (5, .int v.2.2.2.2.2.1), (6, .int v.2.2.2.2.2.2)] → Iw D A (w_Mo g a0 v.1 ++ (rest)) H → va_S A s.heap H locs → W p l e (headSpec ws_Mo_measure { frames := 2, cells := 0, slots := 0, locals := 42 }).room s m args below meth c H locs 0 0 (MQ below (QcI D A g out.1 (fun (_ : Unit) => w_Mo g a0 out.2 ++ (rest))) args s 0 0 A) (F0 m 95 ls [])) (fun k v ih hb ls H locs  hl hI hS => t_Mo_measure_95 X hk18 (fun v' ls H locs  hl hI hS h' => ih v' h' ls H locs  hl hI hS) hl hI hS hb) FU _ h ls H locs  hl hI hS
set_option maxRecDepth 100000 in
set_option maxHeartbeats 4000000 in
theorem t_Mo_measure_84 {p : Program} {l : Launch} {e : Env} {s : State} {m : MethodId} {args : Array Value} {below : List Frame} {meth : Method} {c : Code} {D : va_G} {A : Nat → Prop} {g : Nat → ClassId} {rest : va_W} {a0 : Nat → Nat} {ls : Array Slot} {H : Heap} {locs : List Loc} {k18 : S_Mo × Int32 × Int32 × Int32 × Int32 → Option (Int32 × S_Mo)} {s0 : S_Mo} {x1 : Int32} {x2 : Int32} {x3 : Int32} {x4 : Int32} {y0 : Int32} {out : Int32 × S_Mo} (X : Cx p s m args meth c prog_11_method_15_code 7 ws_Mo_measure R_Mo (some .boolean) D g) (hk18 : ∀ (v : S_Mo × Int32 × Int32 × Int32 × Int32) (ls : Array Slot) (H : Heap) (locs : List Loc), lv_has ls 7 [(0, .ref (a0 0)), (1, .int v.2.1), (2, .int v.2.2.1), (3, .int v.2.2.2.1), (4, .int v.2.2.2.2)] → Iw D A (w_Mo g a0 v.1 ++ (rest)) H → va_S A s.heap H locs → k18 v = some out → W p l e (headSpec ws_Mo_measure { frames := 2, cells := 0, slots := 0, locals := 42 }).room s m args below meth c H locs 0 0 (MQ below (QcI D A g out.1 (fun (_ : Unit) => w_Mo g a0 out.2 ++ (rest))) args s 0 0 A) (F0 m 18 ls [])) (hl : lv_has ls 7 [(0, .ref (a0 0)), (1, .int x1), (2, .int x2), (3, .int x3), (4, .int x4)]) (hI : Iw D A (w_Mo g a0 s0 ++ (rest)) H) (hS : va_S A s.heap H locs) (h : B_Mo_measure_84 k18 s0 x1 x2 x3 x4 y0 = some out) : W p l e (headSpec ws_Mo_measure { frames := 2, cells := 0, slots := 0, locals := 42 }).room s m args below meth c H locs 0 0 (MQ below (QcI D A g out.1 (fun (_ : Unit) => w_Mo g a0 out.2 ++ (rest))) args s 0 0 A) (F0 m 84 ls [.int y0]) := by
  have X1 := X
  obtain ⟨hx, hb, hml, hown, hts, hr, hlocks, hKK⟩ := X1
  have ht : ∀ w ∈ TB, w.before args s = true := fun w h => hts w (List.mem_cons_of_mem _ h)
  have hK := hKK.1
  unfold B_Mo_measure_84 at h
  refine lv_istore hx hb d_Mo_measure_84 hl (Nat.le_of_ble_eq_true rfl) rfl (fun ls hl => ?_)
  have hl : lv_has ls 7 [(5, .int y0), (0, .ref (a0 0)), (1, .int x1), (2, .int x2), (3, .int x3), (4, .int x4)] := hl
  refine lv_aload_n hx hb d_Mo_measure_86 rfl (lv_at hl 1 rfl) ?_
  refine gt_Mo_first hx hb ht hown hK hI (ht _ m_828) d_Mo_measure_87 ?_
  refine lv_iload hx hb d_Mo_measure_90 (lv_at hl 5 rfl) ?_
  by_cases hc1 : (x4 < 0 ∨ 260 ≤ x4.toNatClampNeg)
  · exact no_s (it_t h hc1)
  have h := it_f h hc1
  refine al_Mo_first hx hb hK hI hc1 d_Mo_measure_92 ?_
  refine lv_istore hx hb d_Mo_measure_93 hl (Nat.le_of_ble_eq_true rfl) rfl (fun ls hl => ?_)
  have hl : lv_has ls 7 [(6, .int ((Mo_first s0) x4.toNatClampNeg)), (5, .int y0), (0, .ref (a0 0)), (1, .int x1), (2, .int x2), (3, .int x3), (4, .int x4)] := hl
  exact T_Mo_measure_95 X hk18 (lv_sub hl [2, 3, 4, 5, 6, 1, 0] rfl) hI hS h
set_option maxRecDepth 100000 in
set_option maxHeartbeats 4000000 in
theorem t_Mo_measure_83 {p : Program} {l : Launch} {e : Env} {s : State} {m : MethodId} {args : Array Value} {below : List Frame} {meth : Method} {c : Code} {D : va_G} {A : Nat → Prop} {g : Nat → ClassId} {rest : va_W} {a0 : Nat → Nat} {ls : Array Slot} {H : Heap} {locs : List Loc} {k18 : S_Mo × Int32 × Int32 × Int32 × Int32 → Option (Int32 × S_Mo)} {s0 : S_Mo} {x1 : Int32} {x2 : Int32} {x3 : Int32} {x4 : Int32} {out : Int32 × S_Mo} (X : Cx p s m args meth c prog_11_method_15_code 7 ws_Mo_measure R_Mo (some .boolean) D g) (hk18 : ∀ (v : S_Mo × Int32 × Int32 × Int32 × Int32) (ls : Array Slot) (H : Heap) (locs : List Loc), lv_has ls 7 [(0, .ref (a0 0)), (1, .int v.2.1), (2, .int v.2.2.1), (3, .int v.2.2.2.1), (4, .int v.2.2.2.2)] → Iw D A (w_Mo g a0 v.1 ++ (rest)) H → va_S A s.heap H locs → k18 v = some out → W p l e (headSpec ws_Mo_measure { frames := 2, cells := 0, slots := 0, locals := 42 }).room s m args below meth c H locs 0 0 (MQ below (QcI D A g out.1 (fun (_ : Unit) => w_Mo g a0 out.2 ++ (rest))) args s 0 0 A) (F0 m 18 ls [])) (hl : lv_has ls 7 [(0, .ref (a0 0)), (1, .int x1), (2, .int x2), (3, .int x3), (4, .int x4)]) (hI : Iw D A (w_Mo g a0 s0 ++ (rest)) H) (hS : va_S A s.heap H locs) (h : B_Mo_measure_83 k18 s0 x1 x2 x3 x4 = some out) : W p l e (headSpec ws_Mo_measure { frames := 2, cells := 0, slots := 0, locals := 42 }).room s m args below meth c H locs 0 0 (MQ below (QcI D A g out.1 (fun (_ : Unit) => w_Mo g a0 out.2 ++ (rest))) args s 0 0 A) (F0 m 83 ls []) := by
  have X1 := X
  obtain ⟨hx, hb, hml, hown, hts, hr, hlocks, hKK⟩ := X1
  have ht : ∀ w ∈ TB, w.before args s = true := fun w h => hts w (List.mem_cons_of_mem _ h)
  have hK := hKK.1
  unfold B_Mo_measure_83 at h
  refine lv_iconst (v := 0) hx hb d_Mo_measure_83 (by decide) ?_
  exact t_Mo_measure_84 X hk18 (lv_sub hl [0, 1, 2, 3, 4] rfl) hI hS h
set_option maxRecDepth 100000 in
set_option maxHeartbeats 4000000 in
theorem t_Mo_measure_63 {p : Program} {l : Launch} {e : Env} {s : State} {m : MethodId} {args : Array Value} {below : List Frame} {meth : Method} {c : Code} {D : va_G} {A : Nat → Prop} {g : Nat → ClassId} {rest : va_W} {a0 : Nat → Nat} {ls : Array Slot} {H : Heap} {locs : List Loc} {k18 : S_Mo × Int32 × Int32 × Int32 × Int32 → Option (Int32 × S_Mo)} {s0 : S_Mo} {x1 : Int32} {x2 : Int32} {x3 : Int32} {x4 : Int32} {out : Int32 × S_Mo} (X : Cx p s m args meth c prog_11_method_15_code 7 ws_Mo_measure R_Mo (some .boolean) D g) (hk18 : ∀ (v : S_Mo × Int32 × Int32 × Int32 × Int32) (ls : Array Slot) (H : Heap) (locs : List Loc), lv_has ls 7 [(0, .ref (a0 0)), (1, .int v.2.1), (2, .int v.2.2.1), (3, .int v.2.2.2.1), (4, .int v.2.2.2.2)] → Iw D A (w_Mo g a0 v.1 ++ (rest)) H → va_S A s.heap H locs → k18 v = some out → W p l e (headSpec ws_Mo_measure { frames := 2, cells := 0, slots := 0, locals := 42 }).room s m args below meth c H locs 0 0 (MQ below (QcI D A g out.1 (fun (_ : Unit) => w_Mo g a0 out.2 ++ (rest))) args s 0 0 A) (F0 m 18 ls [])) (hl : lv_has ls 7 [(0, .ref (a0 0)), (1, .int x1), (2, .int x2), (3, .int x3), (4, .int x4)]) (hI : Iw D A (w_Mo g a0 s0 ++ (rest)) H) (hS : va_S A s.heap H locs) (h : B_Mo_measure_63 k18 s0 x1 x2 x3 x4 = some out) : W p l e (headSpec ws_Mo_measure { frames := 2, cells := 0, slots := 0, locals := 42 }).room s m args below meth c H locs 0 0 (MQ below (QcI D A g out.1 (fun (_ : Unit) => w_Mo g a0 out.2 ++ (rest))) args s 0 0 A) (F0 m 63 ls []) := by
  have X1 := X
  obtain ⟨hx, hb, hml, hown, hts, hr, hlocks, hKK⟩ := X1
  have ht : ∀ w ∈ TB, w.before args s = true := fun w h => hts w (List.mem_cons_of_mem _ h)
  have hK := hKK.1
  unfold B_Mo_measure_63 at h
  refine lv_aload_n hx hb d_Mo_measure_63 rfl (lv_at hl 0 rfl) ?_
  refine gt_Mo_value hx hb ht hown hK hI (ht _ m_825) d_Mo_measure_64 ?_
  refine lv_iload hx hb d_Mo_measure_67 (lv_at hl 4 rfl) ?_
  by_cases hc1 : (x4 < 0 ∨ 260 ≤ x4.toNatClampNeg)
  · exact no_s (it_t h hc1)
  have h := it_f h hc1
  refine al_Mo_value hx hb hK hI hc1 d_Mo_measure_69 ?_
  refine lv_aload_n hx hb d_Mo_measure_70 rfl (lv_at hl 0 rfl) ?_
  refine gt_Mo_value hx hb ht hown hK hI (ht _ m_825) d_Mo_measure_71 ?_
  refine lv_iload hx hb d_Mo_measure_74 (lv_at hl 4 rfl) ?_
  by_cases hc2 : (x4 < 0 ∨ 260 ≤ x4.toNatClampNeg)
  · exact no_s (it_t h hc2)
  have h := it_f h hc2
  refine al_Mo_value hx hb hK hI hc2 d_Mo_measure_76 ?_
  refine lv_iconst (v := 2) hx hb d_Mo_measure_77 (by decide) ?_
  refine lv_irem hx hb d_Mo_measure_78 (by decide) ?_
  refine lv_iadd hx hb d_Mo_measure_79 ?_
  refine lv_goto (tgt := 84) hx hb d_Mo_measure_80 (by decide) ?_
  exact t_Mo_measure_84 X hk18 (lv_sub hl [0, 1, 2, 3, 4] rfl) hI hS h
set_option maxRecDepth 100000 in
set_option maxHeartbeats 4000000 in
theorem t_Mo_measure_52 {p : Program} {l : Launch} {e : Env} {s : State} {m : MethodId} {args : Array Value} {below : List Frame} {meth : Method} {c : Code} {D : va_G} {A : Nat → Prop} {g : Nat → ClassId} {rest : va_W} {a0 : Nat → Nat} {ls : Array Slot} {H : Heap} {locs : List Loc} {k18 : S_Mo × Int32 × Int32 × Int32 × Int32 → Option (Int32 × S_Mo)} {s0 : S_Mo} {x1 : Int32} {x2 : Int32} {x3 : Int32} {x4 : Int32} {out : Int32 × S_Mo} (X : Cx p s m args meth c prog_11_method_15_code 7 ws_Mo_measure R_Mo (some .boolean) D g) (hk18 : ∀ (v : S_Mo × Int32 × Int32 × Int32 × Int32) (ls : Array Slot) (H : Heap) (locs : List Loc), lv_has ls 7 [(0, .ref (a0 0)), (1, .int v.2.1), (2, .int v.2.2.1), (3, .int v.2.2.2.1), (4, .int v.2.2.2.2)] → Iw D A (w_Mo g a0 v.1 ++ (rest)) H → va_S A s.heap H locs → k18 v = some out → W p l e (headSpec ws_Mo_measure { frames := 2, cells := 0, slots := 0, locals := 42 }).room s m args below meth c H locs 0 0 (MQ below (QcI D A g out.1 (fun (_ : Unit) => w_Mo g a0 out.2 ++ (rest))) args s 0 0 A) (F0 m 18 ls [])) (hl : lv_has ls 7 [(0, .ref (a0 0)), (1, .int x1), (2, .int x2), (3, .int x3), (4, .int x4)]) (hI : Iw D A (w_Mo g a0 s0 ++ (rest)) H) (hS : va_S A s.heap H locs) (h : B_Mo_measure_52 k18 s0 x1 x2 x3 x4 = some out) : W p l e (headSpec ws_Mo_measure { frames := 2, cells := 0, slots := 0, locals := 42 }).room s m args below meth c H locs 0 0 (MQ below (QcI D A g out.1 (fun (_ : Unit) => w_Mo g a0 out.2 ++ (rest))) args s 0 0 A) (F0 m 52 ls []) := by
  have X1 := X
  obtain ⟨hx, hb, hml, hown, hts, hr, hlocks, hKK⟩ := X1
  have ht : ∀ w ∈ TB, w.before args s = true := fun w h => hts w (List.mem_cons_of_mem _ h)
  have hK := hKK.1
  unfold B_Mo_measure_52 at h
  refine lv_aload_n hx hb d_Mo_measure_52 rfl (lv_at hl 0 rfl) ?_
  refine gt_Mo_kind hx hb ht hown hK hI (ht _ m_823) d_Mo_measure_53 ?_
  refine lv_iload hx hb d_Mo_measure_56 (lv_at hl 4 rfl) ?_
  by_cases hc1 : (x4 < 0 ∨ 260 ≤ x4.toNatClampNeg)
  · exact no_s (it_t h hc1)
  have h := it_f h hc1
  refine al_Mo_kind hx hb hK hI hc1 d_Mo_measure_58 ?_
  refine lv_iconst (v := 2) hx hb d_Mo_measure_59 (by decide) ?_
  refine lv_icmp_ne (tgt := 83) hx hb d_Mo_measure_60 (by decide) (fun hc => ?_) (fun hc => ?_)
  · have h := it_f h hc
    exact t_Mo_measure_83 X hk18 (lv_sub hl [0, 1, 2, 3, 4] rfl) hI hS h
  · have h := it_t h hc
    exact t_Mo_measure_63 X hk18 (lv_sub hl [0, 1, 2, 3, 4] rfl) hI hS h
set_option maxRecDepth 100000 in
set_option maxHeartbeats 4000000 in
theorem t_Mo_measure_39 {p : Program} {l : Launch} {e : Env} {s : State} {m : MethodId} {args : Array Value} {below : List Frame} {meth : Method} {c : Code} {D : va_G} {A : Nat → Prop} {g : Nat → ClassId} {rest : va_W} {a0 : Nat → Nat} {ls : Array Slot} {H : Heap} {locs : List Loc} {k18 : S_Mo × Int32 × Int32 × Int32 × Int32 → Option (Int32 × S_Mo)} {s0 : S_Mo} {x1 : Int32} {x2 : Int32} {x3 : Int32} {x4 : Int32} {out : Int32 × S_Mo} (X : Cx p s m args meth c prog_11_method_15_code 7 ws_Mo_measure R_Mo (some .boolean) D g) (hk18 : ∀ (v : S_Mo × Int32 × Int32 × Int32 × Int32) (ls : Array Slot) (H : Heap) (locs : List Loc), lv_has ls 7 [(0, .ref (a0 0)), (1, .int v.2.1), (2, .int v.2.2.1), (3, .int v.2.2.2.1), (4, .int v.2.2.2.2)] → Iw D A (w_Mo g a0 v.1 ++ (rest)) H → va_S A s.heap H locs → k18 v = some out → W p l e (headSpec ws_Mo_measure { frames := 2, cells := 0, slots := 0, locals := 42 }).room s m args below meth c H locs 0 0 (MQ below (QcI D A g out.1 (fun (_ : Unit) => w_Mo g a0 out.2 ++ (rest))) args s 0 0 A) (F0 m 18 ls [])) (hl : lv_has ls 7 [(0, .ref (a0 0)), (1, .int x1), (2, .int x2), (3, .int x3), (4, .int x4)]) (hI : Iw D A (w_Mo g a0 s0 ++ (rest)) H) (hS : va_S A s.heap H locs) (h : B_Mo_measure_39 k18 s0 x1 x2 x3 x4 = some out) : W p l e (headSpec ws_Mo_measure { frames := 2, cells := 0, slots := 0, locals := 42 }).room s m args below meth c H locs 0 0 (MQ below (QcI D A g out.1 (fun (_ : Unit) => w_Mo g a0 out.2 ++ (rest))) args s 0 0 A) (F0 m 39 ls []) := by
  have X1 := X
  obtain ⟨hx, hb, hml, hown, hts, hr, hlocks, hKK⟩ := X1
  have ht : ∀ w ∈ TB, w.before args s = true := fun w h => hts w (List.mem_cons_of_mem _ h)
  have hK := hKK.1
  unfold B_Mo_measure_39 at h
  refine lv_aload_n hx hb d_Mo_measure_39 rfl (lv_at hl 0 rfl) ?_
  refine gt_Mo_value hx hb ht hown hK hI (ht _ m_825) d_Mo_measure_40 ?_
  refine lv_iload hx hb d_Mo_measure_43 (lv_at hl 4 rfl) ?_
  by_cases hc1 : (x4 < 0 ∨ 260 ≤ x4.toNatClampNeg)
  · exact no_s (it_t h hc1)
  have h := it_f h hc1
  refine al_Mo_value hx hb hK hI hc1 d_Mo_measure_45 ?_
  obtain ⟨o2, ho3, h⟩ := bd_s h
  refine cl_i (W1 := fun (_ : Unit) => w_Mo g a0 s0 ++ (rest)) (va_runS (As := [.int ((Mo_value s0) x4.toNatClampNeg)]) (rest := []) ⟨hx, hb, hml, hown, ht⟩ (c_Mo_bytesOf (l := l) (D := D) (A := A) (g := g) (rest := w_Mo g a0 s0 ++ (rest))  ho3) (va_cwS 1 ht (gd_S m_1039 m_1040 m_11 m_1041) rfl rfl rfl (by decide +kernel) ⟨(Nat.le_of_ble_eq_true rfl), (Nat.le_of_ble_eq_true rfl)⟩) (prS hKK hI (List.Perm.refl _)) rfl rfl hl.1 rfl (lv_room (Nat.le_of_ble_eq_true rfl)) d_Mo_measure_46 ⟨(Nat.le_of_ble_eq_true rfl), (Nat.le_of_ble_eq_true rfl)⟩) hS (fun _ => ((List.Perm.refl _)).symm) (fun _ H locs hI hS => ?_)
  have hI : Iw D A (w_Mo g a0 s0 ++ (rest)) H := hI
  refine lv_goto (tgt := 84) hx hb d_Mo_measure_49 (by decide) ?_
  exact t_Mo_measure_84 X hk18 (lv_sub hl [0, 1, 2, 3, 4] rfl) hI hS h
set_option maxRecDepth 100000 in
set_option maxHeartbeats 4000000 in
theorem t_Mo_measure_28 {p : Program} {l : Launch} {e : Env} {s : State} {m : MethodId} {args : Array Value} {below : List Frame} {meth : Method} {c : Code} {D : va_G} {A : Nat → Prop} {g : Nat → ClassId} {rest : va_W} {a0 : Nat → Nat} {ls : Array Slot} {H : Heap} {locs : List Loc} {k18 : S_Mo × Int32 × Int32 × Int32 × Int32 → Option (Int32 × S_Mo)} {s0 : S_Mo} {x1 : Int32} {x2 : Int32} {x3 : Int32} {x4 : Int32} {out : Int32 × S_Mo} (X : Cx p s m args meth c prog_11_method_15_code 7 ws_Mo_measure R_Mo (some .boolean) D g) (hk18 : ∀ (v : S_Mo × Int32 × Int32 × Int32 × Int32) (ls : Array Slot) (H : Heap) (locs : List Loc), lv_has ls 7 [(0, .ref (a0 0)), (1, .int v.2.1), (2, .int v.2.2.1), (3, .int v.2.2.2.1), (4, .int v.2.2.2.2)] → Iw D A (w_Mo g a0 v.1 ++ (rest)) H → va_S A s.heap H locs → k18 v = some out → W p l e (headSpec ws_Mo_measure { frames := 2, cells := 0, slots := 0, locals := 42 }).room s m args below meth c H locs 0 0 (MQ below (QcI D A g out.1 (fun (_ : Unit) => w_Mo g a0 out.2 ++ (rest))) args s 0 0 A) (F0 m 18 ls [])) (hl : lv_has ls 7 [(0, .ref (a0 0)), (1, .int x1), (2, .int x2), (3, .int x3), (4, .int x4)]) (hI : Iw D A (w_Mo g a0 s0 ++ (rest)) H) (hS : va_S A s.heap H locs) (h : B_Mo_measure_28 k18 s0 x1 x2 x3 x4 = some out) : W p l e (headSpec ws_Mo_measure { frames := 2, cells := 0, slots := 0, locals := 42 }).room s m args below meth c H locs 0 0 (MQ below (QcI D A g out.1 (fun (_ : Unit) => w_Mo g a0 out.2 ++ (rest))) args s 0 0 A) (F0 m 28 ls []) := by
  have X1 := X
  obtain ⟨hx, hb, hml, hown, hts, hr, hlocks, hKK⟩ := X1
  have ht : ∀ w ∈ TB, w.before args s = true := fun w h => hts w (List.mem_cons_of_mem _ h)
  have hK := hKK.1
  unfold B_Mo_measure_28 at h
  refine lv_aload_n hx hb d_Mo_measure_28 rfl (lv_at hl 0 rfl) ?_
  refine gt_Mo_kind hx hb ht hown hK hI (ht _ m_823) d_Mo_measure_29 ?_
  refine lv_iload hx hb d_Mo_measure_32 (lv_at hl 4 rfl) ?_
  by_cases hc1 : (x4 < 0 ∨ 260 ≤ x4.toNatClampNeg)
  · exact no_s (it_t h hc1)
  have h := it_f h hc1
  refine al_Mo_kind hx hb hK hI hc1 d_Mo_measure_34 ?_
  refine lv_iconst (v := 1) hx hb d_Mo_measure_35 (by decide) ?_
  refine lv_icmp_ne (tgt := 52) hx hb d_Mo_measure_36 (by decide) (fun hc => ?_) (fun hc => ?_)
  · have h := it_f h hc
    exact t_Mo_measure_52 X hk18 (lv_sub hl [0, 1, 2, 3, 4] rfl) hI hS h
  · have h := it_t h hc
    exact t_Mo_measure_39 X hk18 (lv_sub hl [0, 1, 2, 3, 4] rfl) hI hS h
set_option maxRecDepth 100000 in
set_option maxHeartbeats 4000000 in
theorem t_Mo_measure_18 {p : Program} {l : Launch} {e : Env} {s : State} {m : MethodId} {args : Array Value} {below : List Frame} {meth : Method} {c : Code} {D : va_G} {A : Nat → Prop} {g : Nat → ClassId} {rest : va_W} {a0 : Nat → Nat} {ls : Array Slot} {H : Heap} {locs : List Loc} {k18 : S_Mo × Int32 × Int32 × Int32 × Int32 → Option (Int32 × S_Mo)} {s0 : S_Mo} {x1 : Int32} {x2 : Int32} {x3 : Int32} {x4 : Int32} {out : Int32 × S_Mo} (X : Cx p s m args meth c prog_11_method_15_code 7 ws_Mo_measure R_Mo (some .boolean) D g) (hk18 : ∀ (v : S_Mo × Int32 × Int32 × Int32 × Int32) (ls : Array Slot) (H : Heap) (locs : List Loc), lv_has ls 7 [(0, .ref (a0 0)), (1, .int v.2.1), (2, .int v.2.2.1), (3, .int v.2.2.2.1), (4, .int v.2.2.2.2)] → Iw D A (w_Mo g a0 v.1 ++ (rest)) H → va_S A s.heap H locs → k18 v = some out → W p l e (headSpec ws_Mo_measure { frames := 2, cells := 0, slots := 0, locals := 42 }).room s m args below meth c H locs 0 0 (MQ below (QcI D A g out.1 (fun (_ : Unit) => w_Mo g a0 out.2 ++ (rest))) args s 0 0 A) (F0 m 18 ls [])) (hl : lv_has ls 7 [(0, .ref (a0 0)), (1, .int x1), (2, .int x2), (3, .int x3), (4, .int x4)]) (hI : Iw D A (w_Mo g a0 s0 ++ (rest)) H) (hS : va_S A s.heap H locs) (h : B_Mo_measure_18 k18 s0 x1 x2 x3 x4 = some out) : W p l e (headSpec ws_Mo_measure { frames := 2, cells := 0, slots := 0, locals := 42 }).room s m args below meth c H locs 0 0 (MQ below (QcI D A g out.1 (fun (_ : Unit) => w_Mo g a0 out.2 ++ (rest))) args s 0 0 A) (F0 m 18 ls []) := by
  have X1 := X
  obtain ⟨hx, hb, hml, hown, hts, hr, hlocks, hKK⟩ := X1
  have ht : ∀ w ∈ TB, w.before args s = true := fun w h => hts w (List.mem_cons_of_mem _ h)
  have hK := hKK.1
  unfold B_Mo_measure_18 at h
  refine lv_iload hx hb d_Mo_measure_18 (lv_at hl 4 rfl) ?_
  refine lv_sipush (v := 130) hx hb d_Mo_measure_20 (by decide) ?_
  refine lv_iload_n hx hb d_Mo_measure_23 rfl (lv_at hl 1 rfl) ?_
  refine lv_imul hx hb d_Mo_measure_24 ?_
  refine lv_icmp_lt (tgt := 189) hx hb d_Mo_measure_25 (by decide) (fun hc => ?_) (fun hc => ?_)
  · have h := it_t h hc
    exact t_Mo_measure_189 X (lv_sub hl [3] rfl) hI hS h
  · have h := it_f h hc
    exact t_Mo_measure_28 X hk18 (lv_sub hl [0, 1, 2, 3, 4] rfl) hI hS h
set_option maxRecDepth 100000 in
set_option maxHeartbeats 4000000 in
theorem T_Mo_measure_18 {p : Program} {l : Launch} {e : Env} {s : State} {m : MethodId} {args : Array Value} {below : List Frame} {meth : Method} {c : Code} {D : va_G} {A : Nat → Prop} {g : Nat → ClassId} {rest : va_W} {a0 : Nat → Nat} {ls : Array Slot} {H : Heap} {locs : List Loc} {s0 : S_Mo} {x1 : Int32} {x2 : Int32} {x3 : Int32} {x4 : Int32} {out : Int32 × S_Mo} (X : Cx p s m args meth c prog_11_method_15_code 7 ws_Mo_measure R_Mo (some .boolean) D g) (hl : lv_has ls 7 [(0, .ref (a0 0)), (1, .int x1), (2, .int x2), (3, .int x3), (4, .int x4)]) (hI : Iw D A (w_Mo g a0 s0 ++ (rest)) H) (hS : va_S A s.heap H locs) (h : L_Mo_measure_18   (s0, x1, x2, x3, x4) = some out) : W p l e (headSpec ws_Mo_measure { frames := 2, cells := 0, slots := 0, locals := 42 }).room s m args below meth c H locs 0 0 (MQ below (QcI D A g out.1 (fun (_ : Unit) => w_Mo g a0 out.2 ++ (rest))) args s 0 0 A) (F0 m 18 ls []) := by
  unfold L_Mo_measure_18 at h
  exact lp_ind (P := fun v => ∀ (ls : Array Slot) (H : Heap) (locs : List Loc), lv_has ls 7 [(0, .ref (a0 0)), (1, .int v.2.1), (2, .int v.2.2.1), (3, .int v.2.2.2.1), (4, .int v.2.2.2.2)] → Iw D A (w_Mo g a0 v.1 ++ (rest)) H → va_S A s.heap H locs → W p l e (headSpec ws_Mo_measure { frames := 2, cells := 0, slots := 0, locals := 42 }).room s m args below meth c H locs 0 0 (MQ below (QcI D A g out.1 (fun (_ : Unit) => w_Mo g a0 out.2 ++ (rest))) args s 0 0 A) (F0 m 18 ls [])) (fun k v ih hb ls H locs  hl hI hS => t_Mo_measure_18 X  (fun v' ls H locs  hl hI hS h' => ih v' h' ls H locs  hl hI hS) hl hI hS hb) FU _ h ls H locs  hl hI hS
set_option maxRecDepth 100000 in
set_option maxHeartbeats 4000000 in
theorem t_Mo_measure_0 {p : Program} {l : Launch} {e : Env} {s : State} {m : MethodId} {args : Array Value} {below : List Frame} {meth : Method} {c : Code} {D : va_G} {A : Nat → Prop} {g : Nat → ClassId} {rest : va_W} {a0 : Nat → Nat} {ls : Array Slot} {H : Heap} {locs : List Loc} {s0 : S_Mo} {x1 : Int32} {x2 : Int32} {out : Int32 × S_Mo} (X : Cx p s m args meth c prog_11_method_15_code 7 ws_Mo_measure R_Mo (some .boolean) D g) (hl : lv_has ls 7 [(0, .ref (a0 0)), (1, .int x1), (2, .int x2)]) (hI : Iw D A (w_Mo g a0 s0 ++ (rest)) H) (hS : va_S A s.heap H locs) (h : B_Mo_measure_0  s0 x1 x2 = some out) : W p l e (headSpec ws_Mo_measure { frames := 2, cells := 0, slots := 0, locals := 42 }).room s m args below meth c H locs 0 0 (MQ below (QcI D A g out.1 (fun (_ : Unit) => w_Mo g a0 out.2 ++ (rest))) args s 0 0 A) (F0 m 0 ls []) := by
  have X1 := X
  obtain ⟨hx, hb, hml, hown, hts, hr, hlocks, hKK⟩ := X1
  have ht : ∀ w ∈ TB, w.before args s = true := fun w h => hts w (List.mem_cons_of_mem _ h)
  have hK := hKK.1
  unfold B_Mo_measure_0 at h
  refine lv_iconst (v := 1) hx hb d_Mo_measure_0 (by decide) ?_
  refine lv_istore_n hx hb d_Mo_measure_1 rfl hl (Nat.le_of_ble_eq_true rfl) rfl (fun ls hl => ?_)
  have hl : lv_has ls 7 [(3, .int (1 : Int32)), (0, .ref (a0 0)), (1, .int x1), (2, .int x2)] := hl
  refine lv_sipush (v := 130) hx hb d_Mo_measure_2 (by decide) ?_
  refine lv_iload_n hx hb d_Mo_measure_5 rfl (lv_at hl 2 rfl) ?_
  refine lv_imul hx hb d_Mo_measure_6 ?_
  refine lv_aload_n hx hb d_Mo_measure_7 rfl (lv_at hl 1 rfl) ?_
  refine gt_Mo_count hx hb ht hown hK hI (ht _ m_822) d_Mo_measure_8 ?_
  refine lv_iload_n hx hb d_Mo_measure_11 rfl (lv_at hl 2 rfl) ?_
  by_cases hc1 : (x1 < 0 ∨ 2 ≤ x1.toNatClampNeg)
  · exact no_s (it_t h hc1)
  have h := it_f h hc1
  refine al_Mo_count hx hb hK hI hc1 d_Mo_measure_12 ?_
  refine lv_iadd hx hb d_Mo_measure_13 ?_
  refine lv_iconst (v := 1) hx hb d_Mo_measure_14 (by decide) ?_
  refine lv_isub hx hb d_Mo_measure_15 ?_
  refine lv_istore hx hb d_Mo_measure_16 hl (Nat.le_of_ble_eq_true rfl) rfl (fun ls hl => ?_)
  have hl : lv_has ls 7 [(4, .int ((((130 : Int32) * x1) + ((Mo_count s0) x1.toNatClampNeg)) - (1 : Int32))), (3, .int (1 : Int32)), (0, .ref (a0 0)), (1, .int x1), (2, .int x2)] := hl
  exact T_Mo_measure_18 X (lv_sub hl [2, 3, 4, 1, 0] rfl) hI hS h
set_option maxRecDepth 100000 in
set_option maxHeartbeats 4000000 in
theorem c_Mo_measure {l : Launch} {D : va_G} {A : Nat → Prop} {g : Nat → ClassId} {rest : va_W} {a0 : Nat → Nat} {s0 : S_Mo} {x1 : Int32} {x2 : Int32} {out : Int32 × S_Mo} (h : F_Mo_measure s0 x1 x2 = some out) : Met l y_Mo_measure ws_Mo_measure { frames := 2, cells := 0, slots := 0, locals := 42 } (PcW D A g [.ref (a0 0), .int x1, .int x2] (w_Mo g a0 s0 ++ (rest))) (QcI D A g out.1 (fun (_ : Unit) => w_Mo g a0 out.2 ++ (rest))) 0 0 A := by
  refine Met.ofW (cc := prog_11_method_15_code) (maxL := 7) (ret := (some .boolean)) (by decide) rfl ?_
  intro p e s m args below meth c s₁ B hml hv
  obtain ⟨rfl, hI, hK⟩ := hv
  have hl := lv_entry [.ref (a0 0), .int x1, .int x2] (n := 7) (Nat.le_of_ble_eq_true rfl)
  rw [lg_entry_eq]
  generalize (lg_sl [.ref (a0 0), .int x1, .int x2] ++ List.replicate (7 - (lg_sl [.ref (a0 0), .int x1, .int x2]).length) Slot.unset).toArray = ls at hl ⊢
  have hl : lv_has ls 7 [(0, .ref (a0 0)), (1, .int x1), (2, .int x2)] := hl
  exact t_Mo_measure_0 ⟨B.exec, B.bytes, hml, findClass_of_methodNamed B.named, atoms_spec (ws := ws_Mo_measure) B.pre, B.returns, B.notSynchronized, hK⟩ (lv_sub hl [0, 1, 2] rfl) hI va_S.rf h
def ws_Mo_write : List Cond := .code y_Mo_write prog_11_method_17_code 6 none :: TB
def B_Mo_write_209 (s0 : S_Mo) : Option S_Mo :=
  some s0
def B_Mo_write_203 (k3 : S_Mo × Int32 × Int32 × Int32 → Option S_Mo) (s0 : S_Mo) (x2 : Int32) (x3 : Int32) (x4 : Int32) : Option S_Mo :=
  (k3 (s0, x2, x3, (x4 + 1)))
def B_Mo_write_194 (k3 : S_Mo × Int32 × Int32 × Int32 → Option S_Mo) (k138 : S_Mo × Int32 × Int32 × Int32 × Int32 → Option S_Mo) (s0 : S_Mo) (x2 : Int32) (x3 : Int32) (x4 : Int32) (x5 : Int32) (y0 : Int32) : Option S_Mo :=
  ((F_Mo_make s0 y0).bind fun o1 => (k138 (o1, x2, x3, x4, (x5 + 1))))
def B_Mo_write_192 (k3 : S_Mo × Int32 × Int32 × Int32 → Option S_Mo) (k138 : S_Mo × Int32 × Int32 × Int32 × Int32 → Option S_Mo) (s0 : S_Mo) (x2 : Int32) (x3 : Int32) (x4 : Int32) (x5 : Int32) : Option S_Mo :=
  (B_Mo_write_194 k3 k138 s0 x2 x3 x4 x5 (32 : Int32))
def B_Mo_write_174 (k3 : S_Mo × Int32 × Int32 × Int32 → Option S_Mo) (k138 : S_Mo × Int32 × Int32 × Int32 × Int32 → Option S_Mo) (s0 : S_Mo) (x2 : Int32) (x3 : Int32) (x4 : Int32) (x5 : Int32) : Option S_Mo :=
  (if (x4 < 0 ∨ 260 ≤ x4.toNatClampNeg) then none else (if ((((Mo_letters s0) x4.toNatClampNeg) + x5) < 0 ∨ 480 ≤ (((Mo_letters s0) x4.toNatClampNeg) + x5).toNatClampNeg) then none else (B_Mo_write_194 k3 k138 s0 x2 x3 x4 x5 ((Mo_chars s0) (((Mo_letters s0) x4.toNatClampNeg) + x5).toNatClampNeg))))
def B_Mo_write_161 (k3 : S_Mo × Int32 × Int32 × Int32 → Option S_Mo) (k138 : S_Mo × Int32 × Int32 × Int32 × Int32 → Option S_Mo) (s0 : S_Mo) (x2 : Int32) (x3 : Int32) (x4 : Int32) (x5 : Int32) : Option S_Mo :=
  (if (x4 < 0 ∨ 260 ≤ x4.toNatClampNeg) then none else (if ((Mo_value s0) x4.toNatClampNeg) ≤ x5 then (B_Mo_write_192 k3 k138 s0 x2 x3 x4 x5) else (B_Mo_write_174 k3 k138 s0 x2 x3 x4 x5)))
def B_Mo_write_150 (k3 : S_Mo × Int32 × Int32 × Int32 → Option S_Mo) (k138 : S_Mo × Int32 × Int32 × Int32 × Int32 → Option S_Mo) (s0 : S_Mo) (x2 : Int32) (x3 : Int32) (x4 : Int32) (x5 : Int32) : Option S_Mo :=
  (if (x4 < 0 ∨ 260 ≤ x4.toNatClampNeg) then none else (if ((Mo_kind s0) x4.toNatClampNeg) = (2 : Int32) then (B_Mo_write_161 k3 k138 s0 x2 x3 x4 x5) else (B_Mo_write_203 k3 s0 x2 x3 x4)))
def B_Mo_write_138 (k3 : S_Mo × Int32 × Int32 × Int32 → Option S_Mo) (k138 : S_Mo × Int32 × Int32 × Int32 × Int32 → Option S_Mo) (s0 : S_Mo) (x2 : Int32) (x3 : Int32) (x4 : Int32) (x5 : Int32) : Option S_Mo :=
  (if (x4 < 0 ∨ 260 ≤ x4.toNatClampNeg) then none else (if ((Mo_size s0) x4.toNatClampNeg) ≤ x5 then (B_Mo_write_203 k3 s0 x2 x3 x4) else (B_Mo_write_150 k3 k138 s0 x2 x3 x4 x5)))
def L_Mo_write_138 (k3 : S_Mo × Int32 × Int32 × Int32 → Option S_Mo) (v : S_Mo × Int32 × Int32 × Int32 × Int32) : Option S_Mo := lp (fun k138 v => B_Mo_write_138 k3 k138  v.1 v.2.1 v.2.2.1 v.2.2.2.1 v.2.2.2.2) FU v
def B_Mo_write_135 (k3 : S_Mo × Int32 × Int32 × Int32 → Option S_Mo) (s0 : S_Mo) (x2 : Int32) (x3 : Int32) (x4 : Int32) : Option S_Mo :=
  (L_Mo_write_138 k3 (s0, x2, x3, x4, (0 : Int32)))
def B_Mo_write_108 (k3 : S_Mo × Int32 × Int32 × Int32 → Option S_Mo) (k85 : S_Mo × Int32 × Int32 × Int32 × Int32 → Option S_Mo) (s0 : S_Mo) (x2 : Int32) (x3 : Int32) (x4 : Int32) (x5 : Int32) : Option S_Mo :=
  (if (x4 < 0 ∨ 260 ≤ x4.toNatClampNeg) then none else ((F_Mo_make s0 ((((Mo_value s0) x4.toNatClampNeg) >>> (((8 : Int32) * x5) &&& 31)) &&& (255 : Int32))).bind fun o2 => (k85 (o2, x2, x3, x4, (x5 + 1)))))
def B_Mo_write_97 (k3 : S_Mo × Int32 × Int32 × Int32 → Option S_Mo) (k85 : S_Mo × Int32 × Int32 × Int32 × Int32 → Option S_Mo) (s0 : S_Mo) (x2 : Int32) (x3 : Int32) (x4 : Int32) (x5 : Int32) : Option S_Mo :=
  (if (x4 < 0 ∨ 260 ≤ x4.toNatClampNeg) then none else (if ((Mo_kind s0) x4.toNatClampNeg) = (1 : Int32) then (B_Mo_write_108 k3 k85 s0 x2 x3 x4 x5) else (B_Mo_write_135 k3 s0 x2 x3 x4)))
def B_Mo_write_85 (k3 : S_Mo × Int32 × Int32 × Int32 → Option S_Mo) (k85 : S_Mo × Int32 × Int32 × Int32 × Int32 → Option S_Mo) (s0 : S_Mo) (x2 : Int32) (x3 : Int32) (x4 : Int32) (x5 : Int32) : Option S_Mo :=
  (if (x4 < 0 ∨ 260 ≤ x4.toNatClampNeg) then none else (if ((Mo_size s0) x4.toNatClampNeg) ≤ x5 then (B_Mo_write_135 k3 s0 x2 x3 x4) else (B_Mo_write_97 k3 k85 s0 x2 x3 x4 x5)))
def L_Mo_write_85 (k3 : S_Mo × Int32 × Int32 × Int32 → Option S_Mo) (v : S_Mo × Int32 × Int32 × Int32 × Int32) : Option S_Mo := lp (fun k85 v => B_Mo_write_85 k3 k85  v.1 v.2.1 v.2.2.1 v.2.2.2.1 v.2.2.2.2) FU v
def B_Mo_write_82 (k3 : S_Mo × Int32 × Int32 × Int32 → Option S_Mo) (s0 : S_Mo) (x2 : Int32) (x3 : Int32) (x4 : Int32) : Option S_Mo :=
  (L_Mo_write_85 k3 (s0, x2, x3, x4, (0 : Int32)))
def B_Mo_write_71 (k3 : S_Mo × Int32 × Int32 × Int32 → Option S_Mo) (s0 : S_Mo) (x2 : Int32) (x3 : Int32) (x4 : Int32) : Option S_Mo :=
  (if (x4 < 0 ∨ 260 ≤ x4.toNatClampNeg) then none else ((F_Mo_make s0 ((Mo_size s0) x4.toNatClampNeg)).bind fun o2 => (B_Mo_write_82 k3 o2 x2 x3 x4)))
def B_Mo_write_60 (k3 : S_Mo × Int32 × Int32 × Int32 → Option S_Mo) (s0 : S_Mo) (x2 : Int32) (x3 : Int32) (x4 : Int32) : Option S_Mo :=
  (if (x4 < 0 ∨ 260 ≤ x4.toNatClampNeg) then none else ((F_Mo_make s0 ((Mo_kind s0) x4.toNatClampNeg)).bind fun o2 => (B_Mo_write_71 k3 o2 x2 x3 x4)))
def B_Mo_write_56 (k3 : S_Mo × Int32 × Int32 × Int32 → Option S_Mo) (s0 : S_Mo) (x2 : Int32) (x3 : Int32) (x4 : Int32) : Option S_Mo :=
  (if x3 = 0 then (B_Mo_write_60 k3 s0 x2 x3 x4) else (B_Mo_write_71 k3 s0 x2 x3 x4))
def B_Mo_write_43 (k3 : S_Mo × Int32 × Int32 × Int32 → Option S_Mo) (s0 : S_Mo) (x2 : Int32) (x3 : Int32) (x4 : Int32) (y0 : Int32) : Option S_Mo :=
  ((F_Mo_make s0 y0).bind fun o1 => (if (x4 < 0 ∨ 260 ≤ x4.toNatClampNeg) then none else (if ((Mo_kind o1) x4.toNatClampNeg) = 0 then (B_Mo_write_71 k3 o1 x2 x3 x4) else (B_Mo_write_56 k3 o1 x2 x3 x4))))
def B_Mo_write_36 (k3 : S_Mo × Int32 × Int32 × Int32 → Option S_Mo) (s0 : S_Mo) (x2 : Int32) (x3 : Int32) (x4 : Int32) : Option S_Mo :=
  (if (x4 < 0 ∨ 260 ≤ x4.toNatClampNeg) then none else (B_Mo_write_43 k3 s0 x2 x3 x4 ((Mo_tag s0) x4.toNatClampNeg)))
def B_Mo_write_30 (k3 : S_Mo × Int32 × Int32 × Int32 → Option S_Mo) (s0 : S_Mo) (x2 : Int32) (x3 : Int32) (x4 : Int32) : Option S_Mo :=
  (B_Mo_write_43 k3 s0 x2 x3 x4 (254 : Int32))
def B_Mo_write_19 (k3 : S_Mo × Int32 × Int32 × Int32 → Option S_Mo) (s0 : S_Mo) (x2 : Int32) (x3 : Int32) (x4 : Int32) : Option S_Mo :=
  (if (x4 < 0 ∨ 260 ≤ x4.toNatClampNeg) then none else (if ((Mo_kind s0) x4.toNatClampNeg) = 0 then (B_Mo_write_30 k3 s0 x2 x3 x4) else (B_Mo_write_36 k3 s0 x2 x3 x4)))
def B_Mo_write_9 (k3 : S_Mo × Int32 × Int32 × Int32 → Option S_Mo) (s0 : S_Mo) (x2 : Int32) (x3 : Int32) (x4 : Int32) : Option S_Mo :=
  (if (x4 < 0 ∨ 260 ≤ x4.toNatClampNeg) then none else (if ((Mo_parent s0) x4.toNatClampNeg) < 0 then (B_Mo_write_82 k3 s0 x2 x3 x4) else (B_Mo_write_19 k3 s0 x2 x3 x4)))
def B_Mo_write_3 (k3 : S_Mo × Int32 × Int32 × Int32 → Option S_Mo) (s0 : S_Mo) (x2 : Int32) (x3 : Int32) (x4 : Int32) : Option S_Mo :=
  (if x2 ≤ x4 then (B_Mo_write_209 s0) else (B_Mo_write_9 k3 s0 x2 x3 x4))
def L_Mo_write_3 (v : S_Mo × Int32 × Int32 × Int32) : Option S_Mo := lp (fun k3 v => B_Mo_write_3  k3  v.1 v.2.1 v.2.2.1 v.2.2.2) FU v
def B_Mo_write_0 (s0 : S_Mo) (x1 : Int32) (x2 : Int32) (x3 : Int32) : Option S_Mo :=
  (L_Mo_write_3 (s0, x2, x3, x1))
def F_Mo_write (s0 : S_Mo) (x1 : Int32) (x2 : Int32) (x3 : Int32) : Option S_Mo := B_Mo_write_0 s0 x1 x2 x3
set_option maxRecDepth 100000 in
set_option maxHeartbeats 4000000 in
theorem t_Mo_write_209 {p : Program} {l : Launch} {e : Env} {s : State} {m : MethodId} {args : Array Value} {below : List Frame} {meth : Method} {c : Code} {D : va_G} {A : Nat → Prop} {g : Nat → ClassId} {rest : va_W} {a0 : Nat → Nat} {ls : Array Slot} {H : Heap} {locs : List Loc} {s0 : S_Mo} {out : S_Mo} (X : Cx p s m args meth c prog_11_method_17_code 6 ws_Mo_write R_Mo none D g) (hl : lv_has ls 6 []) (hI : Iw D A (w_Mo g a0 s0 ++ (rest)) H) (hS : va_S A s.heap H locs) (h : B_Mo_write_209  s0 = some out) : W p l e (headSpec ws_Mo_write { frames := 1, cells := 0, slots := 0, locals := 21 }).room s m args below meth c H locs 0 0 (MQ below (QcV D A g (fun (_ : Unit) => w_Mo g a0 out ++ (rest))) args s 0 0 A) (F0 m 209 ls []) := by
  have X1 := X
  obtain ⟨hx, hb, hml, hown, hts, hr, hlocks, hKK⟩ := X1
  have ht : ∀ w ∈ TB, w.before args s = true := fun w h => hts w (List.mem_cons_of_mem _ h)
  have hK := hKK.1
  unfold B_Mo_write_209 at h
  have h9 := Option.some.inj h
  subst h9
  exact W.vret hx hb hr (fun t ht hW => ⟨⟨(), rfl, trivial, ⟨by rw [ht]; exact hI, hKK.moved hW⟩⟩, hS.F ht⟩) hS.2.2 d_Mo_write_209
set_option maxRecDepth 100000 in
set_option maxHeartbeats 4000000 in
theorem t_Mo_write_203 {p : Program} {l : Launch} {e : Env} {s : State} {m : MethodId} {args : Array Value} {below : List Frame} {meth : Method} {c : Code} {D : va_G} {A : Nat → Prop} {g : Nat → ClassId} {rest : va_W} {a0 : Nat → Nat} {ls : Array Slot} {H : Heap} {locs : List Loc} {k3 : S_Mo × Int32 × Int32 × Int32 → Option S_Mo} {s0 : S_Mo} {x2 : Int32} {x3 : Int32} {x4 : Int32} {out : S_Mo} (X : Cx p s m args meth c prog_11_method_17_code 6 ws_Mo_write R_Mo none D g) (hk3 : ∀ (v : S_Mo × Int32 × Int32 × Int32) (ls : Array Slot) (H : Heap) (locs : List Loc), lv_has ls 6 [(0, .ref (a0 0)), (2, .int v.2.1), (3, .int v.2.2.1), (4, .int v.2.2.2)] → Iw D A (w_Mo g a0 v.1 ++ (rest)) H → va_S A s.heap H locs → k3 v = some out → W p l e (headSpec ws_Mo_write { frames := 1, cells := 0, slots := 0, locals := 21 }).room s m args below meth c H locs 0 0 (MQ below (QcV D A g (fun (_ : Unit) => w_Mo g a0 out ++ (rest))) args s 0 0 A) (F0 m 3 ls [])) (hl : lv_has ls 6 [(0, .ref (a0 0)), (2, .int x2), (3, .int x3), (4, .int x4)]) (hI : Iw D A (w_Mo g a0 s0 ++ (rest)) H) (hS : va_S A s.heap H locs) (h : B_Mo_write_203 k3 s0 x2 x3 x4 = some out) : W p l e (headSpec ws_Mo_write { frames := 1, cells := 0, slots := 0, locals := 21 }).room s m args below meth c H locs 0 0 (MQ below (QcV D A g (fun (_ : Unit) => w_Mo g a0 out ++ (rest))) args s 0 0 A) (F0 m 203 ls []) := by
  have X1 := X
  obtain ⟨hx, hb, hml, hown, hts, hr, hlocks, hKK⟩ := X1
  have ht : ∀ w ∈ TB, w.before args s = true := fun w h => hts w (List.mem_cons_of_mem _ h)
  have hK := hKK.1
  unfold B_Mo_write_203 at h
  refine lv_iinc (k := 3) (v := (x4 + 1)) hx hb d_Mo_write_203 hl rfl (congrArg (fun z => x4 + z) (by decide)) (Nat.le_of_ble_eq_true rfl) rfl (fun ls hl => ?_)
  have hl : lv_has ls 6 [(4, .int (x4 + 1)), (0, .ref (a0 0)), (2, .int x2), (3, .int x3)] := hl
  refine lv_goto (tgt := 3) hx hb d_Mo_write_206 (by decide) ?_
  exact hk3 (s0, x2, x3, (x4 + 1)) _ _ _ (lv_sub hl [1, 2, 3, 0] rfl) hI hS h
set_option maxRecDepth 100000 in
set_option maxHeartbeats 4000000 in
theorem t_Mo_write_194 {p : Program} {l : Launch} {e : Env} {s : State} {m : MethodId} {args : Array Value} {below : List Frame} {meth : Method} {c : Code} {D : va_G} {A : Nat → Prop} {g : Nat → ClassId} {rest : va_W} {a0 : Nat → Nat} {ls : Array Slot} {H : Heap} {locs : List Loc} {k3 : S_Mo × Int32 × Int32 × Int32 → Option S_Mo} {k138 : S_Mo × Int32 × Int32 × Int32 × Int32 → Option S_Mo} {s0 : S_Mo} {x2 : Int32} {x3 : Int32} {x4 : Int32} {x5 : Int32} {y0 : Int32} {out : S_Mo} (X : Cx p s m args meth c prog_11_method_17_code 6 ws_Mo_write R_Mo none D g) (hk3 : ∀ (v : S_Mo × Int32 × Int32 × Int32) (ls : Array Slot) (H : Heap) (locs : List Loc), lv_has ls 6 [(0, .ref (a0 0)), (2, .int v.2.1), (3, .int v.2.2.1), (4, .int v.2.2.2)] → Iw D A (w_Mo g a0 v.1 ++ (rest)) H → va_S A s.heap H locs → k3 v = some out → W p l e (headSpec ws_Mo_write { frames := 1, cells := 0, slots := 0, locals := 21 }).room s m args below meth c H locs 0 0 (MQ below (QcV D A g (fun (_ : Unit) => w_Mo g a0 out ++ (rest))) args s 0 0 A) (F0 m 3 ls [])) (hk138 : ∀ (v : S_Mo × Int32 × Int32 × Int32 × Int32) (ls : Array Slot) (H : Heap) (locs : List Loc), lv_has ls 6 [(0, .ref (a0 0)), (2, .int v.2.1), (3, .int v.2.2.1), (4, .int v.2.2.2.1), (5, .int v.2.2.2.2)] → Iw D A (w_Mo g a0 v.1 ++ (rest)) H → va_S A s.heap H locs → k138 v = some out → W p l e (headSpec ws_Mo_write { frames := 1, cells := 0, slots := 0, locals := 21 }).room s m args below meth c H locs 0 0 (MQ below (QcV D A g (fun (_ : Unit) => w_Mo g a0 out ++ (rest))) args s 0 0 A) (F0 m 138 ls [])) (hl : lv_has ls 6 [(0, .ref (a0 0)), (2, .int x2), (3, .int x3), (4, .int x4), (5, .int x5)]) (hI : Iw D A (w_Mo g a0 s0 ++ (rest)) H) (hS : va_S A s.heap H locs) (h : B_Mo_write_194 k3 k138 s0 x2 x3 x4 x5 y0 = some out) : W p l e (headSpec ws_Mo_write { frames := 1, cells := 0, slots := 0, locals := 21 }).room s m args below meth c H locs 0 0 (MQ below (QcV D A g (fun (_ : Unit) => w_Mo g a0 out ++ (rest))) args s 0 0 A) (F0 m 194 ls [.int y0, .ref (a0 0)]) := by
  have X1 := X
  obtain ⟨hx, hb, hml, hown, hts, hr, hlocks, hKK⟩ := X1
  have ht : ∀ w ∈ TB, w.before args s = true := fun w h => hts w (List.mem_cons_of_mem _ h)
  have hK := hKK.1
  unfold B_Mo_write_194 at h
  obtain ⟨o1, ho2, h⟩ := bd_s h
  refine cl_v (W1 := fun (_ : Unit) => w_Mo g a0 o1 ++ (rest)) (va_runV (As := [.int y0]) (rest := []) ⟨hx, hb, hml, hown, ht⟩ (c_Mo_make (l := l) (D := D) (A := A) (g := g) (rest := rest) (a0 := a0) ho2) (cwV 1 ht (gd_V m_1048 m_1050 mp_50 m_11 m_1051) rfl rfl rfl (by decide +kernel) ⟨(Nat.le_of_ble_eq_true rfl), (Nat.le_of_ble_eq_true rfl)⟩) (prV (ci := 9) (q0 := 0) hKK hI (List.Perm.refl _) rfl rfl rfl) rfl rfl hl.1 rfl (lv_room (Nat.le_of_ble_eq_true rfl)) d_Mo_write_194 ⟨(Nat.le_of_ble_eq_true rfl), (Nat.le_of_ble_eq_true rfl)⟩) hS (fun _ => ((List.Perm.refl _)).symm) (fun _ H locs hI hS => ?_)
  have hI : Iw D A (w_Mo g a0 o1 ++ (rest)) H := hI
  refine lv_iinc (k := 4) (v := (x5 + 1)) hx hb d_Mo_write_197 hl rfl (congrArg (fun z => x5 + z) (by decide)) (Nat.le_of_ble_eq_true rfl) rfl (fun ls hl => ?_)
  have hl : lv_has ls 6 [(5, .int (x5 + 1)), (0, .ref (a0 0)), (2, .int x2), (3, .int x3), (4, .int x4)] := hl
  refine lv_goto (tgt := 138) hx hb d_Mo_write_200 (by decide) ?_
  exact hk138 (o1, x2, x3, x4, (x5 + 1)) _ _ _ (lv_sub hl [1, 2, 3, 4, 0] rfl) hI hS h
set_option maxRecDepth 100000 in
set_option maxHeartbeats 4000000 in
theorem t_Mo_write_192 {p : Program} {l : Launch} {e : Env} {s : State} {m : MethodId} {args : Array Value} {below : List Frame} {meth : Method} {c : Code} {D : va_G} {A : Nat → Prop} {g : Nat → ClassId} {rest : va_W} {a0 : Nat → Nat} {ls : Array Slot} {H : Heap} {locs : List Loc} {k3 : S_Mo × Int32 × Int32 × Int32 → Option S_Mo} {k138 : S_Mo × Int32 × Int32 × Int32 × Int32 → Option S_Mo} {s0 : S_Mo} {x2 : Int32} {x3 : Int32} {x4 : Int32} {x5 : Int32} {out : S_Mo} (X : Cx p s m args meth c prog_11_method_17_code 6 ws_Mo_write R_Mo none D g) (hk3 : ∀ (v : S_Mo × Int32 × Int32 × Int32) (ls : Array Slot) (H : Heap) (locs : List Loc), lv_has ls 6 [(0, .ref (a0 0)), (2, .int v.2.1), (3, .int v.2.2.1), (4, .int v.2.2.2)] → Iw D A (w_Mo g a0 v.1 ++ (rest)) H → va_S A s.heap H locs → k3 v = some out → W p l e (headSpec ws_Mo_write { frames := 1, cells := 0, slots := 0, locals := 21 }).room s m args below meth c H locs 0 0 (MQ below (QcV D A g (fun (_ : Unit) => w_Mo g a0 out ++ (rest))) args s 0 0 A) (F0 m 3 ls [])) (hk138 : ∀ (v : S_Mo × Int32 × Int32 × Int32 × Int32) (ls : Array Slot) (H : Heap) (locs : List Loc), lv_has ls 6 [(0, .ref (a0 0)), (2, .int v.2.1), (3, .int v.2.2.1), (4, .int v.2.2.2.1), (5, .int v.2.2.2.2)] → Iw D A (w_Mo g a0 v.1 ++ (rest)) H → va_S A s.heap H locs → k138 v = some out → W p l e (headSpec ws_Mo_write { frames := 1, cells := 0, slots := 0, locals := 21 }).room s m args below meth c H locs 0 0 (MQ below (QcV D A g (fun (_ : Unit) => w_Mo g a0 out ++ (rest))) args s 0 0 A) (F0 m 138 ls [])) (hl : lv_has ls 6 [(0, .ref (a0 0)), (2, .int x2), (3, .int x3), (4, .int x4), (5, .int x5)]) (hI : Iw D A (w_Mo g a0 s0 ++ (rest)) H) (hS : va_S A s.heap H locs) (h : B_Mo_write_192 k3 k138 s0 x2 x3 x4 x5 = some out) : W p l e (headSpec ws_Mo_write { frames := 1, cells := 0, slots := 0, locals := 21 }).room s m args below meth c H locs 0 0 (MQ below (QcV D A g (fun (_ : Unit) => w_Mo g a0 out ++ (rest))) args s 0 0 A) (F0 m 192 ls [.ref (a0 0)]) := by
  have X1 := X
  obtain ⟨hx, hb, hml, hown, hts, hr, hlocks, hKK⟩ := X1
  have ht : ∀ w ∈ TB, w.before args s = true := fun w h => hts w (List.mem_cons_of_mem _ h)
  have hK := hKK.1
  unfold B_Mo_write_192 at h
  refine lv_bipush (v := 32) hx hb d_Mo_write_192 (by decide) ?_
  exact t_Mo_write_194 X hk3 hk138 (lv_sub hl [0, 1, 2, 3, 4] rfl) hI hS h
set_option maxRecDepth 100000 in
set_option maxHeartbeats 4000000 in
theorem t_Mo_write_174 {p : Program} {l : Launch} {e : Env} {s : State} {m : MethodId} {args : Array Value} {below : List Frame} {meth : Method} {c : Code} {D : va_G} {A : Nat → Prop} {g : Nat → ClassId} {rest : va_W} {a0 : Nat → Nat} {ls : Array Slot} {H : Heap} {locs : List Loc} {k3 : S_Mo × Int32 × Int32 × Int32 → Option S_Mo} {k138 : S_Mo × Int32 × Int32 × Int32 × Int32 → Option S_Mo} {s0 : S_Mo} {x2 : Int32} {x3 : Int32} {x4 : Int32} {x5 : Int32} {out : S_Mo} (X : Cx p s m args meth c prog_11_method_17_code 6 ws_Mo_write R_Mo none D g) (hk3 : ∀ (v : S_Mo × Int32 × Int32 × Int32) (ls : Array Slot) (H : Heap) (locs : List Loc), lv_has ls 6 [(0, .ref (a0 0)), (2, .int v.2.1), (3, .int v.2.2.1), (4, .int v.2.2.2)] → Iw D A (w_Mo g a0 v.1 ++ (rest)) H → va_S A s.heap H locs → k3 v = some out → W p l e (headSpec ws_Mo_write { frames := 1, cells := 0, slots := 0, locals := 21 }).room s m args below meth c H locs 0 0 (MQ below (QcV D A g (fun (_ : Unit) => w_Mo g a0 out ++ (rest))) args s 0 0 A) (F0 m 3 ls [])) (hk138 : ∀ (v : S_Mo × Int32 × Int32 × Int32 × Int32) (ls : Array Slot) (H : Heap) (locs : List Loc), lv_has ls 6 [(0, .ref (a0 0)), (2, .int v.2.1), (3, .int v.2.2.1), (4, .int v.2.2.2.1), (5, .int v.2.2.2.2)] → Iw D A (w_Mo g a0 v.1 ++ (rest)) H → va_S A s.heap H locs → k138 v = some out → W p l e (headSpec ws_Mo_write { frames := 1, cells := 0, slots := 0, locals := 21 }).room s m args below meth c H locs 0 0 (MQ below (QcV D A g (fun (_ : Unit) => w_Mo g a0 out ++ (rest))) args s 0 0 A) (F0 m 138 ls [])) (hl : lv_has ls 6 [(0, .ref (a0 0)), (2, .int x2), (3, .int x3), (4, .int x4), (5, .int x5)]) (hI : Iw D A (w_Mo g a0 s0 ++ (rest)) H) (hS : va_S A s.heap H locs) (h : B_Mo_write_174 k3 k138 s0 x2 x3 x4 x5 = some out) : W p l e (headSpec ws_Mo_write { frames := 1, cells := 0, slots := 0, locals := 21 }).room s m args below meth c H locs 0 0 (MQ below (QcV D A g (fun (_ : Unit) => w_Mo g a0 out ++ (rest))) args s 0 0 A) (F0 m 174 ls [.ref (a0 0)]) := by
  have X1 := X
  obtain ⟨hx, hb, hml, hown, hts, hr, hlocks, hKK⟩ := X1
  have ht : ∀ w ∈ TB, w.before args s = true := fun w h => hts w (List.mem_cons_of_mem _ h)
  have hK := hKK.1
  unfold B_Mo_write_174 at h
  refine lv_aload_n hx hb d_Mo_write_174 rfl (lv_at hl 0 rfl) ?_
  refine gt_Mo_chars hx hb ht hown hK hI (ht _ m_834) d_Mo_write_175 ?_
  refine lv_aload_n hx hb d_Mo_write_178 rfl (lv_at hl 0 rfl) ?_
  refine gt_Mo_letters hx hb ht hown hK hI (ht _ m_826) d_Mo_write_179 ?_
  refine lv_iload hx hb d_Mo_write_182 (lv_at hl 3 rfl) ?_
  by_cases hc1 : (x4 < 0 ∨ 260 ≤ x4.toNatClampNeg)
  · exact no_s (it_t h hc1)
  have h := it_f h hc1
  refine al_Mo_letters hx hb hK hI hc1 d_Mo_write_184 ?_
  refine lv_iload hx hb d_Mo_write_185 (lv_at hl 4 rfl) ?_
  refine lv_iadd hx hb d_Mo_write_187 ?_
  by_cases hc2 : ((((Mo_letters s0) x4.toNatClampNeg) + x5) < 0 ∨ 480 ≤ (((Mo_letters s0) x4.toNatClampNeg) + x5).toNatClampNeg)
  · exact no_s (it_t h hc2)
  have h := it_f h hc2
  refine al_Mo_chars hx hb hK hI hc2 d_Mo_write_188 ?_
  refine lv_goto (tgt := 194) hx hb d_Mo_write_189 (by decide) ?_
  exact t_Mo_write_194 X hk3 hk138 (lv_sub hl [0, 1, 2, 3, 4] rfl) hI hS h
set_option maxRecDepth 100000 in
set_option maxHeartbeats 4000000 in
theorem t_Mo_write_161 {p : Program} {l : Launch} {e : Env} {s : State} {m : MethodId} {args : Array Value} {below : List Frame} {meth : Method} {c : Code} {D : va_G} {A : Nat → Prop} {g : Nat → ClassId} {rest : va_W} {a0 : Nat → Nat} {ls : Array Slot} {H : Heap} {locs : List Loc} {k3 : S_Mo × Int32 × Int32 × Int32 → Option S_Mo} {k138 : S_Mo × Int32 × Int32 × Int32 × Int32 → Option S_Mo} {s0 : S_Mo} {x2 : Int32} {x3 : Int32} {x4 : Int32} {x5 : Int32} {out : S_Mo} (X : Cx p s m args meth c prog_11_method_17_code 6 ws_Mo_write R_Mo none D g) (hk3 : ∀ (v : S_Mo × Int32 × Int32 × Int32) (ls : Array Slot) (H : Heap) (locs : List Loc), lv_has ls 6 [(0, .ref (a0 0)), (2, .int v.2.1), (3, .int v.2.2.1), (4, .int v.2.2.2)] → Iw D A (w_Mo g a0 v.1 ++ (rest)) H → va_S A s.heap H locs → k3 v = some out → W p l e (headSpec ws_Mo_write { frames := 1, cells := 0, slots := 0, locals := 21 }).room s m args below meth c H locs 0 0 (MQ below (QcV D A g (fun (_ : Unit) => w_Mo g a0 out ++ (rest))) args s 0 0 A) (F0 m 3 ls [])) (hk138 : ∀ (v : S_Mo × Int32 × Int32 × Int32 × Int32) (ls : Array Slot) (H : Heap) (locs : List Loc), lv_has ls 6 [(0, .ref (a0 0)), (2, .int v.2.1), (3, .int v.2.2.1), (4, .int v.2.2.2.1), (5, .int v.2.2.2.2)] → Iw D A (w_Mo g a0 v.1 ++ (rest)) H → va_S A s.heap H locs → k138 v = some out → W p l e (headSpec ws_Mo_write { frames := 1, cells := 0, slots := 0, locals := 21 }).room s m args below meth c H locs 0 0 (MQ below (QcV D A g (fun (_ : Unit) => w_Mo g a0 out ++ (rest))) args s 0 0 A) (F0 m 138 ls [])) (hl : lv_has ls 6 [(0, .ref (a0 0)), (2, .int x2), (3, .int x3), (4, .int x4), (5, .int x5)]) (hI : Iw D A (w_Mo g a0 s0 ++ (rest)) H) (hS : va_S A s.heap H locs) (h : B_Mo_write_161 k3 k138 s0 x2 x3 x4 x5 = some out) : W p l e (headSpec ws_Mo_write { frames := 1, cells := 0, slots := 0, locals := 21 }).room s m args below meth c H locs 0 0 (MQ below (QcV D A g (fun (_ : Unit) => w_Mo g a0 out ++ (rest))) args s 0 0 A) (F0 m 161 ls []) := by
  have X1 := X
  obtain ⟨hx, hb, hml, hown, hts, hr, hlocks, hKK⟩ := X1
  have ht : ∀ w ∈ TB, w.before args s = true := fun w h => hts w (List.mem_cons_of_mem _ h)
  have hK := hKK.1
  unfold B_Mo_write_161 at h
  refine lv_aload_n hx hb d_Mo_write_161 rfl (lv_at hl 0 rfl) ?_
  refine lv_iload hx hb d_Mo_write_162 (lv_at hl 4 rfl) ?_
  refine lv_aload_n hx hb d_Mo_write_164 rfl (lv_at hl 0 rfl) ?_
  refine gt_Mo_value hx hb ht hown hK hI (ht _ m_825) d_Mo_write_165 ?_
  refine lv_iload hx hb d_Mo_write_168 (lv_at hl 3 rfl) ?_
  by_cases hc1 : (x4 < 0 ∨ 260 ≤ x4.toNatClampNeg)
  · exact no_s (it_t h hc1)
  have h := it_f h hc1
  refine al_Mo_value hx hb hK hI hc1 d_Mo_write_170 ?_
  refine lv_icmp_ge (tgt := 192) hx hb d_Mo_write_171 (by decide) (fun hc => ?_) (fun hc => ?_)
  · have h := it_t h hc
    exact t_Mo_write_192 X hk3 hk138 (lv_sub hl [0, 1, 2, 3, 4] rfl) hI hS h
  · have h := it_f h hc
    exact t_Mo_write_174 X hk3 hk138 (lv_sub hl [0, 1, 2, 3, 4] rfl) hI hS h
set_option maxRecDepth 100000 in
set_option maxHeartbeats 4000000 in
theorem t_Mo_write_150 {p : Program} {l : Launch} {e : Env} {s : State} {m : MethodId} {args : Array Value} {below : List Frame} {meth : Method} {c : Code} {D : va_G} {A : Nat → Prop} {g : Nat → ClassId} {rest : va_W} {a0 : Nat → Nat} {ls : Array Slot} {H : Heap} {locs : List Loc} {k3 : S_Mo × Int32 × Int32 × Int32 → Option S_Mo} {k138 : S_Mo × Int32 × Int32 × Int32 × Int32 → Option S_Mo} {s0 : S_Mo} {x2 : Int32} {x3 : Int32} {x4 : Int32} {x5 : Int32} {out : S_Mo} (X : Cx p s m args meth c prog_11_method_17_code 6 ws_Mo_write R_Mo none D g) (hk3 : ∀ (v : S_Mo × Int32 × Int32 × Int32) (ls : Array Slot) (H : Heap) (locs : List Loc), lv_has ls 6 [(0, .ref (a0 0)), (2, .int v.2.1), (3, .int v.2.2.1), (4, .int v.2.2.2)] → Iw D A (w_Mo g a0 v.1 ++ (rest)) H → va_S A s.heap H locs → k3 v = some out → W p l e (headSpec ws_Mo_write { frames := 1, cells := 0, slots := 0, locals := 21 }).room s m args below meth c H locs 0 0 (MQ below (QcV D A g (fun (_ : Unit) => w_Mo g a0 out ++ (rest))) args s 0 0 A) (F0 m 3 ls [])) (hk138 : ∀ (v : S_Mo × Int32 × Int32 × Int32 × Int32) (ls : Array Slot) (H : Heap) (locs : List Loc), lv_has ls 6 [(0, .ref (a0 0)), (2, .int v.2.1), (3, .int v.2.2.1), (4, .int v.2.2.2.1), (5, .int v.2.2.2.2)] → Iw D A (w_Mo g a0 v.1 ++ (rest)) H → va_S A s.heap H locs → k138 v = some out → W p l e (headSpec ws_Mo_write { frames := 1, cells := 0, slots := 0, locals := 21 }).room s m args below meth c H locs 0 0 (MQ below (QcV D A g (fun (_ : Unit) => w_Mo g a0 out ++ (rest))) args s 0 0 A) (F0 m 138 ls [])) (hl : lv_has ls 6 [(0, .ref (a0 0)), (2, .int x2), (3, .int x3), (4, .int x4), (5, .int x5)]) (hI : Iw D A (w_Mo g a0 s0 ++ (rest)) H) (hS : va_S A s.heap H locs) (h : B_Mo_write_150 k3 k138 s0 x2 x3 x4 x5 = some out) : W p l e (headSpec ws_Mo_write { frames := 1, cells := 0, slots := 0, locals := 21 }).room s m args below meth c H locs 0 0 (MQ below (QcV D A g (fun (_ : Unit) => w_Mo g a0 out ++ (rest))) args s 0 0 A) (F0 m 150 ls []) := by
  have X1 := X
  obtain ⟨hx, hb, hml, hown, hts, hr, hlocks, hKK⟩ := X1
  have ht : ∀ w ∈ TB, w.before args s = true := fun w h => hts w (List.mem_cons_of_mem _ h)
  have hK := hKK.1
  unfold B_Mo_write_150 at h
  refine lv_aload_n hx hb d_Mo_write_150 rfl (lv_at hl 0 rfl) ?_
  refine gt_Mo_kind hx hb ht hown hK hI (ht _ m_823) d_Mo_write_151 ?_
  refine lv_iload hx hb d_Mo_write_154 (lv_at hl 3 rfl) ?_
  by_cases hc1 : (x4 < 0 ∨ 260 ≤ x4.toNatClampNeg)
  · exact no_s (it_t h hc1)
  have h := it_f h hc1
  refine al_Mo_kind hx hb hK hI hc1 d_Mo_write_156 ?_
  refine lv_iconst (v := 2) hx hb d_Mo_write_157 (by decide) ?_
  refine lv_icmp_ne (tgt := 203) hx hb d_Mo_write_158 (by decide) (fun hc => ?_) (fun hc => ?_)
  · have h := it_f h hc
    exact t_Mo_write_203 X hk3 (lv_sub hl [0, 1, 2, 3] rfl) hI hS h
  · have h := it_t h hc
    exact t_Mo_write_161 X hk3 hk138 (lv_sub hl [0, 1, 2, 3, 4] rfl) hI hS h
set_option maxRecDepth 100000 in
set_option maxHeartbeats 4000000 in
theorem t_Mo_write_138 {p : Program} {l : Launch} {e : Env} {s : State} {m : MethodId} {args : Array Value} {below : List Frame} {meth : Method} {c : Code} {D : va_G} {A : Nat → Prop} {g : Nat → ClassId} {rest : va_W} {a0 : Nat → Nat} {ls : Array Slot} {H : Heap} {locs : List Loc} {k3 : S_Mo × Int32 × Int32 × Int32 → Option S_Mo} {k138 : S_Mo × Int32 × Int32 × Int32 × Int32 → Option S_Mo} {s0 : S_Mo} {x2 : Int32} {x3 : Int32} {x4 : Int32} {x5 : Int32} {out : S_Mo} (X : Cx p s m args meth c prog_11_method_17_code 6 ws_Mo_write R_Mo none D g) (hk3 : ∀ (v : S_Mo × Int32 × Int32 × Int32) (ls : Array Slot) (H : Heap) (locs : List Loc), lv_has ls 6 [(0, .ref (a0 0)), (2, .int v.2.1), (3, .int v.2.2.1), (4, .int v.2.2.2)] → Iw D A (w_Mo g a0 v.1 ++ (rest)) H → va_S A s.heap H locs → k3 v = some out → W p l e (headSpec ws_Mo_write { frames := 1, cells := 0, slots := 0, locals := 21 }).room s m args below meth c H locs 0 0 (MQ below (QcV D A g (fun (_ : Unit) => w_Mo g a0 out ++ (rest))) args s 0 0 A) (F0 m 3 ls [])) (hk138 : ∀ (v : S_Mo × Int32 × Int32 × Int32 × Int32) (ls : Array Slot) (H : Heap) (locs : List Loc), lv_has ls 6 [(0, .ref (a0 0)), (2, .int v.2.1), (3, .int v.2.2.1), (4, .int v.2.2.2.1), (5, .int v.2.2.2.2)] → Iw D A (w_Mo g a0 v.1 ++ (rest)) H → va_S A s.heap H locs → k138 v = some out → W p l e (headSpec ws_Mo_write { frames := 1, cells := 0, slots := 0, locals := 21 }).room s m args below meth c H locs 0 0 (MQ below (QcV D A g (fun (_ : Unit) => w_Mo g a0 out ++ (rest))) args s 0 0 A) (F0 m 138 ls [])) (hl : lv_has ls 6 [(0, .ref (a0 0)), (2, .int x2), (3, .int x3), (4, .int x4), (5, .int x5)]) (hI : Iw D A (w_Mo g a0 s0 ++ (rest)) H) (hS : va_S A s.heap H locs) (h : B_Mo_write_138 k3 k138 s0 x2 x3 x4 x5 = some out) : W p l e (headSpec ws_Mo_write { frames := 1, cells := 0, slots := 0, locals := 21 }).room s m args below meth c H locs 0 0 (MQ below (QcV D A g (fun (_ : Unit) => w_Mo g a0 out ++ (rest))) args s 0 0 A) (F0 m 138 ls []) := by
  have X1 := X
  obtain ⟨hx, hb, hml, hown, hts, hr, hlocks, hKK⟩ := X1
  have ht : ∀ w ∈ TB, w.before args s = true := fun w h => hts w (List.mem_cons_of_mem _ h)
  have hK := hKK.1
  unfold B_Mo_write_138 at h
  refine lv_iload hx hb d_Mo_write_138 (lv_at hl 4 rfl) ?_
  refine lv_aload_n hx hb d_Mo_write_140 rfl (lv_at hl 0 rfl) ?_
  refine gt_Mo_size hx hb ht hown hK hI (ht _ m_832) d_Mo_write_141 ?_
  refine lv_iload hx hb d_Mo_write_144 (lv_at hl 3 rfl) ?_
  by_cases hc1 : (x4 < 0 ∨ 260 ≤ x4.toNatClampNeg)
  · exact no_s (it_t h hc1)
  have h := it_f h hc1
  refine al_Mo_size hx hb hK hI hc1 d_Mo_write_146 ?_
  refine lv_icmp_ge (tgt := 203) hx hb d_Mo_write_147 (by decide) (fun hc => ?_) (fun hc => ?_)
  · have h := it_t h hc
    exact t_Mo_write_203 X hk3 (lv_sub hl [0, 1, 2, 3] rfl) hI hS h
  · have h := it_f h hc
    exact t_Mo_write_150 X hk3 hk138 (lv_sub hl [0, 1, 2, 3, 4] rfl) hI hS h
set_option maxRecDepth 100000 in
set_option maxHeartbeats 4000000 in
theorem T_Mo_write_138 {p : Program} {l : Launch} {e : Env} {s : State} {m : MethodId} {args : Array Value} {below : List Frame} {meth : Method} {c : Code} {D : va_G} {A : Nat → Prop} {g : Nat → ClassId} {rest : va_W} {a0 : Nat → Nat} {ls : Array Slot} {H : Heap} {locs : List Loc} {k3 : S_Mo × Int32 × Int32 × Int32 → Option S_Mo} {s0 : S_Mo} {x2 : Int32} {x3 : Int32} {x4 : Int32} {x5 : Int32} {out : S_Mo} (X : Cx p s m args meth c prog_11_method_17_code 6 ws_Mo_write R_Mo none D g) (hk3 : ∀ (v : S_Mo × Int32 × Int32 × Int32) (ls : Array Slot) (H : Heap) (locs : List Loc), lv_has ls 6 [(0, .ref (a0 0)), (2, .int v.2.1), (3, .int v.2.2.1), (4, .int v.2.2.2)] → Iw D A (w_Mo g a0 v.1 ++ (rest)) H → va_S A s.heap H locs → k3 v = some out → W p l e (headSpec ws_Mo_write { frames := 1, cells := 0, slots := 0, locals := 21 }).room s m args below meth c H locs 0 0 (MQ below (QcV D A g (fun (_ : Unit) => w_Mo g a0 out ++ (rest))) args s 0 0 A) (F0 m 3 ls [])) (hl : lv_has ls 6 [(0, .ref (a0 0)), (2, .int x2), (3, .int x3), (4, .int x4), (5, .int x5)]) (hI : Iw D A (w_Mo g a0 s0 ++ (rest)) H) (hS : va_S A s.heap H locs) (h : L_Mo_write_138 k3  (s0, x2, x3, x4, x5) = some out) : W p l e (headSpec ws_Mo_write { frames := 1, cells := 0, slots := 0, locals := 21 }).room s m args below meth c H locs 0 0 (MQ below (QcV D A g (fun (_ : Unit) => w_Mo g a0 out ++ (rest))) args s 0 0 A) (F0 m 138 ls []) := by
  unfold L_Mo_write_138 at h
  exact lp_ind (P := fun v => ∀ (ls : Array Slot) (H : Heap) (locs : List Loc), lv_has ls 6 [(0, .ref (a0 0)), (2, .int v.2.1), (3, .int v.2.2.1), (4, .int v.2.2.2.1), (5, .int v.2.2.2.2)] → Iw D A (w_Mo g a0 v.1 ++ (rest)) H → va_S A s.heap H locs → W p l e (headSpec ws_Mo_write { frames := 1, cells := 0, slots := 0, locals := 21 }).room s m args below meth c H locs 0 0 (MQ below (QcV D A g (fun (_ : Unit) => w_Mo g a0 out ++ (rest))) args s 0 0 A) (F0 m 138 ls [])) (fun k v ih hb ls H locs  hl hI hS => t_Mo_write_138 X hk3 (fun v' ls H locs  hl hI hS h' => ih v' h' ls H locs  hl hI hS) hl hI hS hb) FU _ h ls H locs  hl hI hS
set_option maxRecDepth 100000 in
set_option maxHeartbeats 4000000 in
theorem t_Mo_write_135 {p : Program} {l : Launch} {e : Env} {s : State} {m : MethodId} {args : Array Value} {below : List Frame} {meth : Method} {c : Code} {D : va_G} {A : Nat → Prop} {g : Nat → ClassId} {rest : va_W} {a0 : Nat → Nat} {ls : Array Slot} {H : Heap} {locs : List Loc} {k3 : S_Mo × Int32 × Int32 × Int32 → Option S_Mo} {s0 : S_Mo} {x2 : Int32} {x3 : Int32} {x4 : Int32} {out : S_Mo} (X : Cx p s m args meth c prog_11_method_17_code 6 ws_Mo_write R_Mo none D g) (hk3 : ∀ (v : S_Mo × Int32 × Int32 × Int32) (ls : Array Slot) (H : Heap) (locs : List Loc), lv_has ls 6 [(0, .ref (a0 0)), (2, .int v.2.1), (3, .int v.2.2.1), (4, .int v.2.2.2)] → Iw D A (w_Mo g a0 v.1 ++ (rest)) H → va_S A s.heap H locs → k3 v = some out → W p l e (headSpec ws_Mo_write { frames := 1, cells := 0, slots := 0, locals := 21 }).room s m args below meth c H locs 0 0 (MQ below (QcV D A g (fun (_ : Unit) => w_Mo g a0 out ++ (rest))) args s 0 0 A) (F0 m 3 ls [])) (hl : lv_has ls 6 [(0, .ref (a0 0)), (2, .int x2), (3, .int x3), (4, .int x4)]) (hI : Iw D A (w_Mo g a0 s0 ++ (rest)) H) (hS : va_S A s.heap H locs) (h : B_Mo_write_135 k3 s0 x2 x3 x4 = some out) : W p l e (headSpec ws_Mo_write { frames := 1, cells := 0, slots := 0, locals := 21 }).room s m args below meth c H locs 0 0 (MQ below (QcV D A g (fun (_ : Unit) => w_Mo g a0 out ++ (rest))) args s 0 0 A) (F0 m 135 ls []) := by
  have X1 := X
  obtain ⟨hx, hb, hml, hown, hts, hr, hlocks, hKK⟩ := X1
  have ht : ∀ w ∈ TB, w.before args s = true := fun w h => hts w (List.mem_cons_of_mem _ h)
  have hK := hKK.1
  unfold B_Mo_write_135 at h
  refine lv_iconst (v := 0) hx hb d_Mo_write_135 (by decide) ?_
  refine lv_istore hx hb d_Mo_write_136 hl (Nat.le_of_ble_eq_true rfl) rfl (fun ls hl => ?_)
  have hl : lv_has ls 6 [(5, .int (0 : Int32)), (0, .ref (a0 0)), (2, .int x2), (3, .int x3), (4, .int x4)] := hl
  exact T_Mo_write_138 X hk3 (lv_sub hl [1, 2, 3, 4, 0] rfl) hI hS h
set_option maxRecDepth 100000 in
set_option maxHeartbeats 4000000 in
theorem t_Mo_write_108 {p : Program} {l : Launch} {e : Env} {s : State} {m : MethodId} {args : Array Value} {below : List Frame} {meth : Method} {c : Code} {D : va_G} {A : Nat → Prop} {g : Nat → ClassId} {rest : va_W} {a0 : Nat → Nat} {ls : Array Slot} {H : Heap} {locs : List Loc} {k3 : S_Mo × Int32 × Int32 × Int32 → Option S_Mo} {k85 : S_Mo × Int32 × Int32 × Int32 × Int32 → Option S_Mo} {s0 : S_Mo} {x2 : Int32} {x3 : Int32} {x4 : Int32} {x5 : Int32} {out : S_Mo} (X : Cx p s m args meth c prog_11_method_17_code 6 ws_Mo_write R_Mo none D g) (hk3 : ∀ (v : S_Mo × Int32 × Int32 × Int32) (ls : Array Slot) (H : Heap) (locs : List Loc), lv_has ls 6 [(0, .ref (a0 0)), (2, .int v.2.1), (3, .int v.2.2.1), (4, .int v.2.2.2)] → Iw D A (w_Mo g a0 v.1 ++ (rest)) H → va_S A s.heap H locs → k3 v = some out → W p l e (headSpec ws_Mo_write { frames := 1, cells := 0, slots := 0, locals := 21 }).room s m args below meth c H locs 0 0 (MQ below (QcV D A g (fun (_ : Unit) => w_Mo g a0 out ++ (rest))) args s 0 0 A) (F0 m 3 ls [])) (hk85 : ∀ (v : S_Mo × Int32 × Int32 × Int32 × Int32) (ls : Array Slot) (H : Heap) (locs : List Loc), lv_has ls 6 [(0, .ref (a0 0)), (2, .int v.2.1), (3, .int v.2.2.1), (4, .int v.2.2.2.1), (5, .int v.2.2.2.2)] → Iw D A (w_Mo g a0 v.1 ++ (rest)) H → va_S A s.heap H locs → k85 v = some out → W p l e (headSpec ws_Mo_write { frames := 1, cells := 0, slots := 0, locals := 21 }).room s m args below meth c H locs 0 0 (MQ below (QcV D A g (fun (_ : Unit) => w_Mo g a0 out ++ (rest))) args s 0 0 A) (F0 m 85 ls [])) (hl : lv_has ls 6 [(0, .ref (a0 0)), (2, .int x2), (3, .int x3), (4, .int x4), (5, .int x5)]) (hI : Iw D A (w_Mo g a0 s0 ++ (rest)) H) (hS : va_S A s.heap H locs) (h : B_Mo_write_108 k3 k85 s0 x2 x3 x4 x5 = some out) : W p l e (headSpec ws_Mo_write { frames := 1, cells := 0, slots := 0, locals := 21 }).room s m args below meth c H locs 0 0 (MQ below (QcV D A g (fun (_ : Unit) => w_Mo g a0 out ++ (rest))) args s 0 0 A) (F0 m 108 ls []) := by
  have X1 := X
  obtain ⟨hx, hb, hml, hown, hts, hr, hlocks, hKK⟩ := X1
  have ht : ∀ w ∈ TB, w.before args s = true := fun w h => hts w (List.mem_cons_of_mem _ h)
  have hK := hKK.1
  unfold B_Mo_write_108 at h
  refine lv_aload_n hx hb d_Mo_write_108 rfl (lv_at hl 0 rfl) ?_
  refine lv_aload_n hx hb d_Mo_write_109 rfl (lv_at hl 0 rfl) ?_
  refine gt_Mo_value hx hb ht hown hK hI (ht _ m_825) d_Mo_write_110 ?_
  refine lv_iload hx hb d_Mo_write_113 (lv_at hl 3 rfl) ?_
  by_cases hc1 : (x4 < 0 ∨ 260 ≤ x4.toNatClampNeg)
  · exact no_s (it_t h hc1)
  have h := it_f h hc1
  refine al_Mo_value hx hb hK hI hc1 d_Mo_write_115 ?_
  refine lv_bipush (v := 8) hx hb d_Mo_write_116 (by decide) ?_
  refine lv_iload hx hb d_Mo_write_118 (lv_at hl 4 rfl) ?_
  refine lv_imul hx hb d_Mo_write_120 ?_
  refine lv_ishr hx hb d_Mo_write_121 ?_
  refine lv_sipush (v := 255) hx hb d_Mo_write_122 (by decide) ?_
  refine lv_iand hx hb d_Mo_write_125 ?_
  obtain ⟨o2, ho3, h⟩ := bd_s h
  refine cl_v (W1 := fun (_ : Unit) => w_Mo g a0 o2 ++ (rest)) (va_runV (As := [.int ((((Mo_value s0) x4.toNatClampNeg) >>> (((8 : Int32) * x5) &&& 31)) &&& (255 : Int32))]) (rest := []) ⟨hx, hb, hml, hown, ht⟩ (c_Mo_make (l := l) (D := D) (A := A) (g := g) (rest := rest) (a0 := a0) ho3) (cwV 1 ht (gd_V m_1048 m_1050 mp_50 m_11 m_1051) rfl rfl rfl (by decide +kernel) ⟨(Nat.le_of_ble_eq_true rfl), (Nat.le_of_ble_eq_true rfl)⟩) (prV (ci := 9) (q0 := 0) hKK hI (List.Perm.refl _) rfl rfl rfl) rfl rfl hl.1 rfl (lv_room (Nat.le_of_ble_eq_true rfl)) d_Mo_write_126 ⟨(Nat.le_of_ble_eq_true rfl), (Nat.le_of_ble_eq_true rfl)⟩) hS (fun _ => ((List.Perm.refl _)).symm) (fun _ H locs hI hS => ?_)
  have hI : Iw D A (w_Mo g a0 o2 ++ (rest)) H := hI
  refine lv_iinc (k := 4) (v := (x5 + 1)) hx hb d_Mo_write_129 hl rfl (congrArg (fun z => x5 + z) (by decide)) (Nat.le_of_ble_eq_true rfl) rfl (fun ls hl => ?_)
  have hl : lv_has ls 6 [(5, .int (x5 + 1)), (0, .ref (a0 0)), (2, .int x2), (3, .int x3), (4, .int x4)] := hl
  refine lv_goto (tgt := 85) hx hb d_Mo_write_132 (by decide) ?_
  exact hk85 (o2, x2, x3, x4, (x5 + 1)) _ _ _ (lv_sub hl [1, 2, 3, 4, 0] rfl) hI hS h
set_option maxRecDepth 100000 in
set_option maxHeartbeats 4000000 in
theorem t_Mo_write_97 {p : Program} {l : Launch} {e : Env} {s : State} {m : MethodId} {args : Array Value} {below : List Frame} {meth : Method} {c : Code} {D : va_G} {A : Nat → Prop} {g : Nat → ClassId} {rest : va_W} {a0 : Nat → Nat} {ls : Array Slot} {H : Heap} {locs : List Loc} {k3 : S_Mo × Int32 × Int32 × Int32 → Option S_Mo} {k85 : S_Mo × Int32 × Int32 × Int32 × Int32 → Option S_Mo} {s0 : S_Mo} {x2 : Int32} {x3 : Int32} {x4 : Int32} {x5 : Int32} {out : S_Mo} (X : Cx p s m args meth c prog_11_method_17_code 6 ws_Mo_write R_Mo none D g) (hk3 : ∀ (v : S_Mo × Int32 × Int32 × Int32) (ls : Array Slot) (H : Heap) (locs : List Loc), lv_has ls 6 [(0, .ref (a0 0)), (2, .int v.2.1), (3, .int v.2.2.1), (4, .int v.2.2.2)] → Iw D A (w_Mo g a0 v.1 ++ (rest)) H → va_S A s.heap H locs → k3 v = some out → W p l e (headSpec ws_Mo_write { frames := 1, cells := 0, slots := 0, locals := 21 }).room s m args below meth c H locs 0 0 (MQ below (QcV D A g (fun (_ : Unit) => w_Mo g a0 out ++ (rest))) args s 0 0 A) (F0 m 3 ls [])) (hk85 : ∀ (v : S_Mo × Int32 × Int32 × Int32 × Int32) (ls : Array Slot) (H : Heap) (locs : List Loc), lv_has ls 6 [(0, .ref (a0 0)), (2, .int v.2.1), (3, .int v.2.2.1), (4, .int v.2.2.2.1), (5, .int v.2.2.2.2)] → Iw D A (w_Mo g a0 v.1 ++ (rest)) H → va_S A s.heap H locs → k85 v = some out → W p l e (headSpec ws_Mo_write { frames := 1, cells := 0, slots := 0, locals := 21 }).room s m args below meth c H locs 0 0 (MQ below (QcV D A g (fun (_ : Unit) => w_Mo g a0 out ++ (rest))) args s 0 0 A) (F0 m 85 ls [])) (hl : lv_has ls 6 [(0, .ref (a0 0)), (2, .int x2), (3, .int x3), (4, .int x4), (5, .int x5)]) (hI : Iw D A (w_Mo g a0 s0 ++ (rest)) H) (hS : va_S A s.heap H locs) (h : B_Mo_write_97 k3 k85 s0 x2 x3 x4 x5 = some out) : W p l e (headSpec ws_Mo_write { frames := 1, cells := 0, slots := 0, locals := 21 }).room s m args below meth c H locs 0 0 (MQ below (QcV D A g (fun (_ : Unit) => w_Mo g a0 out ++ (rest))) args s 0 0 A) (F0 m 97 ls []) := by
  have X1 := X
  obtain ⟨hx, hb, hml, hown, hts, hr, hlocks, hKK⟩ := X1
  have ht : ∀ w ∈ TB, w.before args s = true := fun w h => hts w (List.mem_cons_of_mem _ h)
  have hK := hKK.1
  unfold B_Mo_write_97 at h
  refine lv_aload_n hx hb d_Mo_write_97 rfl (lv_at hl 0 rfl) ?_
  refine gt_Mo_kind hx hb ht hown hK hI (ht _ m_823) d_Mo_write_98 ?_
  refine lv_iload hx hb d_Mo_write_101 (lv_at hl 3 rfl) ?_
  by_cases hc1 : (x4 < 0 ∨ 260 ≤ x4.toNatClampNeg)
  · exact no_s (it_t h hc1)
  have h := it_f h hc1
  refine al_Mo_kind hx hb hK hI hc1 d_Mo_write_103 ?_
  refine lv_iconst (v := 1) hx hb d_Mo_write_104 (by decide) ?_
  refine lv_icmp_ne (tgt := 135) hx hb d_Mo_write_105 (by decide) (fun hc => ?_) (fun hc => ?_)
  · have h := it_f h hc
    exact t_Mo_write_135 X hk3 (lv_sub hl [0, 1, 2, 3] rfl) hI hS h
  · have h := it_t h hc
    exact t_Mo_write_108 X hk3 hk85 (lv_sub hl [0, 1, 2, 3, 4] rfl) hI hS h
set_option maxRecDepth 100000 in
set_option maxHeartbeats 4000000 in
theorem t_Mo_write_85 {p : Program} {l : Launch} {e : Env} {s : State} {m : MethodId} {args : Array Value} {below : List Frame} {meth : Method} {c : Code} {D : va_G} {A : Nat → Prop} {g : Nat → ClassId} {rest : va_W} {a0 : Nat → Nat} {ls : Array Slot} {H : Heap} {locs : List Loc} {k3 : S_Mo × Int32 × Int32 × Int32 → Option S_Mo} {k85 : S_Mo × Int32 × Int32 × Int32 × Int32 → Option S_Mo} {s0 : S_Mo} {x2 : Int32} {x3 : Int32} {x4 : Int32} {x5 : Int32} {out : S_Mo} (X : Cx p s m args meth c prog_11_method_17_code 6 ws_Mo_write R_Mo none D g) (hk3 : ∀ (v : S_Mo × Int32 × Int32 × Int32) (ls : Array Slot) (H : Heap) (locs : List Loc), lv_has ls 6 [(0, .ref (a0 0)), (2, .int v.2.1), (3, .int v.2.2.1), (4, .int v.2.2.2)] → Iw D A (w_Mo g a0 v.1 ++ (rest)) H → va_S A s.heap H locs → k3 v = some out → W p l e (headSpec ws_Mo_write { frames := 1, cells := 0, slots := 0, locals := 21 }).room s m args below meth c H locs 0 0 (MQ below (QcV D A g (fun (_ : Unit) => w_Mo g a0 out ++ (rest))) args s 0 0 A) (F0 m 3 ls [])) (hk85 : ∀ (v : S_Mo × Int32 × Int32 × Int32 × Int32) (ls : Array Slot) (H : Heap) (locs : List Loc), lv_has ls 6 [(0, .ref (a0 0)), (2, .int v.2.1), (3, .int v.2.2.1), (4, .int v.2.2.2.1), (5, .int v.2.2.2.2)] → Iw D A (w_Mo g a0 v.1 ++ (rest)) H → va_S A s.heap H locs → k85 v = some out → W p l e (headSpec ws_Mo_write { frames := 1, cells := 0, slots := 0, locals := 21 }).room s m args below meth c H locs 0 0 (MQ below (QcV D A g (fun (_ : Unit) => w_Mo g a0 out ++ (rest))) args s 0 0 A) (F0 m 85 ls [])) (hl : lv_has ls 6 [(0, .ref (a0 0)), (2, .int x2), (3, .int x3), (4, .int x4), (5, .int x5)]) (hI : Iw D A (w_Mo g a0 s0 ++ (rest)) H) (hS : va_S A s.heap H locs) (h : B_Mo_write_85 k3 k85 s0 x2 x3 x4 x5 = some out) : W p l e (headSpec ws_Mo_write { frames := 1, cells := 0, slots := 0, locals := 21 }).room s m args below meth c H locs 0 0 (MQ below (QcV D A g (fun (_ : Unit) => w_Mo g a0 out ++ (rest))) args s 0 0 A) (F0 m 85 ls []) := by
  have X1 := X
  obtain ⟨hx, hb, hml, hown, hts, hr, hlocks, hKK⟩ := X1
  have ht : ∀ w ∈ TB, w.before args s = true := fun w h => hts w (List.mem_cons_of_mem _ h)
  have hK := hKK.1
  unfold B_Mo_write_85 at h
  refine lv_iload hx hb d_Mo_write_85 (lv_at hl 4 rfl) ?_
  refine lv_aload_n hx hb d_Mo_write_87 rfl (lv_at hl 0 rfl) ?_
  refine gt_Mo_size hx hb ht hown hK hI (ht _ m_832) d_Mo_write_88 ?_
  refine lv_iload hx hb d_Mo_write_91 (lv_at hl 3 rfl) ?_
  by_cases hc1 : (x4 < 0 ∨ 260 ≤ x4.toNatClampNeg)
  · exact no_s (it_t h hc1)
  have h := it_f h hc1
  refine al_Mo_size hx hb hK hI hc1 d_Mo_write_93 ?_
  refine lv_icmp_ge (tgt := 135) hx hb d_Mo_write_94 (by decide) (fun hc => ?_) (fun hc => ?_)
  · have h := it_t h hc
    exact t_Mo_write_135 X hk3 (lv_sub hl [0, 1, 2, 3] rfl) hI hS h
  · have h := it_f h hc
    exact t_Mo_write_97 X hk3 hk85 (lv_sub hl [0, 1, 2, 3, 4] rfl) hI hS h
set_option maxRecDepth 100000 in
set_option maxHeartbeats 4000000 in
theorem T_Mo_write_85 {p : Program} {l : Launch} {e : Env} {s : State} {m : MethodId} {args : Array Value} {below : List Frame} {meth : Method} {c : Code} {D : va_G} {A : Nat → Prop} {g : Nat → ClassId} {rest : va_W} {a0 : Nat → Nat} {ls : Array Slot} {H : Heap} {locs : List Loc} {k3 : S_Mo × Int32 × Int32 × Int32 → Option S_Mo} {s0 : S_Mo} {x2 : Int32} {x3 : Int32} {x4 : Int32} {x5 : Int32} {out : S_Mo} (X : Cx p s m args meth c prog_11_method_17_code 6 ws_Mo_write R_Mo none D g) (hk3 : ∀ (v : S_Mo × Int32 × Int32 × Int32) (ls : Array Slot) (H : Heap) (locs : List Loc), lv_has ls 6 [(0, .ref (a0 0)), (2, .int v.2.1), (3, .int v.2.2.1), (4, .int v.2.2.2)] → Iw D A (w_Mo g a0 v.1 ++ (rest)) H → va_S A s.heap H locs → k3 v = some out → W p l e (headSpec ws_Mo_write { frames := 1, cells := 0, slots := 0, locals := 21 }).room s m args below meth c H locs 0 0 (MQ below (QcV D A g (fun (_ : Unit) => w_Mo g a0 out ++ (rest))) args s 0 0 A) (F0 m 3 ls [])) (hl : lv_has ls 6 [(0, .ref (a0 0)), (2, .int x2), (3, .int x3), (4, .int x4), (5, .int x5)]) (hI : Iw D A (w_Mo g a0 s0 ++ (rest)) H) (hS : va_S A s.heap H locs) (h : L_Mo_write_85 k3  (s0, x2, x3, x4, x5) = some out) : W p l e (headSpec ws_Mo_write { frames := 1, cells := 0, slots := 0, locals := 21 }).room s m args below meth c H locs 0 0 (MQ below (QcV D A g (fun (_ : Unit) => w_Mo g a0 out ++ (rest))) args s 0 0 A) (F0 m 85 ls []) := by
  unfold L_Mo_write_85 at h
  exact lp_ind (P := fun v => ∀ (ls : Array Slot) (H : Heap) (locs : List Loc), lv_has ls 6 [(0, .ref (a0 0)), (2, .int v.2.1), (3, .int v.2.2.1), (4, .int v.2.2.2.1), (5, .int v.2.2.2.2)] → Iw D A (w_Mo g a0 v.1 ++ (rest)) H → va_S A s.heap H locs → W p l e (headSpec ws_Mo_write { frames := 1, cells := 0, slots := 0, locals := 21 }).room s m args below meth c H locs 0 0 (MQ below (QcV D A g (fun (_ : Unit) => w_Mo g a0 out ++ (rest))) args s 0 0 A) (F0 m 85 ls [])) (fun k v ih hb ls H locs  hl hI hS => t_Mo_write_85 X hk3 (fun v' ls H locs  hl hI hS h' => ih v' h' ls H locs  hl hI hS) hl hI hS hb) FU _ h ls H locs  hl hI hS
set_option maxRecDepth 100000 in
set_option maxHeartbeats 4000000 in
theorem t_Mo_write_82 {p : Program} {l : Launch} {e : Env} {s : State} {m : MethodId} {args : Array Value} {below : List Frame} {meth : Method} {c : Code} {D : va_G} {A : Nat → Prop} {g : Nat → ClassId} {rest : va_W} {a0 : Nat → Nat} {ls : Array Slot} {H : Heap} {locs : List Loc} {k3 : S_Mo × Int32 × Int32 × Int32 → Option S_Mo} {s0 : S_Mo} {x2 : Int32} {x3 : Int32} {x4 : Int32} {out : S_Mo} (X : Cx p s m args meth c prog_11_method_17_code 6 ws_Mo_write R_Mo none D g) (hk3 : ∀ (v : S_Mo × Int32 × Int32 × Int32) (ls : Array Slot) (H : Heap) (locs : List Loc), lv_has ls 6 [(0, .ref (a0 0)), (2, .int v.2.1), (3, .int v.2.2.1), (4, .int v.2.2.2)] → Iw D A (w_Mo g a0 v.1 ++ (rest)) H → va_S A s.heap H locs → k3 v = some out → W p l e (headSpec ws_Mo_write { frames := 1, cells := 0, slots := 0, locals := 21 }).room s m args below meth c H locs 0 0 (MQ below (QcV D A g (fun (_ : Unit) => w_Mo g a0 out ++ (rest))) args s 0 0 A) (F0 m 3 ls [])) (hl : lv_has ls 6 [(0, .ref (a0 0)), (2, .int x2), (3, .int x3), (4, .int x4)]) (hI : Iw D A (w_Mo g a0 s0 ++ (rest)) H) (hS : va_S A s.heap H locs) (h : B_Mo_write_82 k3 s0 x2 x3 x4 = some out) : W p l e (headSpec ws_Mo_write { frames := 1, cells := 0, slots := 0, locals := 21 }).room s m args below meth c H locs 0 0 (MQ below (QcV D A g (fun (_ : Unit) => w_Mo g a0 out ++ (rest))) args s 0 0 A) (F0 m 82 ls []) := by
  have X1 := X
  obtain ⟨hx, hb, hml, hown, hts, hr, hlocks, hKK⟩ := X1
  have ht : ∀ w ∈ TB, w.before args s = true := fun w h => hts w (List.mem_cons_of_mem _ h)
  have hK := hKK.1
  unfold B_Mo_write_82 at h
  refine lv_iconst (v := 0) hx hb d_Mo_write_82 (by decide) ?_
  refine lv_istore hx hb d_Mo_write_83 hl (Nat.le_of_ble_eq_true rfl) rfl (fun ls hl => ?_)
  have hl : lv_has ls 6 [(5, .int (0 : Int32)), (0, .ref (a0 0)), (2, .int x2), (3, .int x3), (4, .int x4)] := hl
  exact T_Mo_write_85 X hk3 (lv_sub hl [1, 2, 3, 4, 0] rfl) hI hS h
set_option maxRecDepth 100000 in
set_option maxHeartbeats 4000000 in
theorem t_Mo_write_71 {p : Program} {l : Launch} {e : Env} {s : State} {m : MethodId} {args : Array Value} {below : List Frame} {meth : Method} {c : Code} {D : va_G} {A : Nat → Prop} {g : Nat → ClassId} {rest : va_W} {a0 : Nat → Nat} {ls : Array Slot} {H : Heap} {locs : List Loc} {k3 : S_Mo × Int32 × Int32 × Int32 → Option S_Mo} {s0 : S_Mo} {x2 : Int32} {x3 : Int32} {x4 : Int32} {out : S_Mo} (X : Cx p s m args meth c prog_11_method_17_code 6 ws_Mo_write R_Mo none D g) (hk3 : ∀ (v : S_Mo × Int32 × Int32 × Int32) (ls : Array Slot) (H : Heap) (locs : List Loc), lv_has ls 6 [(0, .ref (a0 0)), (2, .int v.2.1), (3, .int v.2.2.1), (4, .int v.2.2.2)] → Iw D A (w_Mo g a0 v.1 ++ (rest)) H → va_S A s.heap H locs → k3 v = some out → W p l e (headSpec ws_Mo_write { frames := 1, cells := 0, slots := 0, locals := 21 }).room s m args below meth c H locs 0 0 (MQ below (QcV D A g (fun (_ : Unit) => w_Mo g a0 out ++ (rest))) args s 0 0 A) (F0 m 3 ls [])) (hl : lv_has ls 6 [(0, .ref (a0 0)), (2, .int x2), (3, .int x3), (4, .int x4)]) (hI : Iw D A (w_Mo g a0 s0 ++ (rest)) H) (hS : va_S A s.heap H locs) (h : B_Mo_write_71 k3 s0 x2 x3 x4 = some out) : W p l e (headSpec ws_Mo_write { frames := 1, cells := 0, slots := 0, locals := 21 }).room s m args below meth c H locs 0 0 (MQ below (QcV D A g (fun (_ : Unit) => w_Mo g a0 out ++ (rest))) args s 0 0 A) (F0 m 71 ls []) := by
  have X1 := X
  obtain ⟨hx, hb, hml, hown, hts, hr, hlocks, hKK⟩ := X1
  have ht : ∀ w ∈ TB, w.before args s = true := fun w h => hts w (List.mem_cons_of_mem _ h)
  have hK := hKK.1
  unfold B_Mo_write_71 at h
  refine lv_aload_n hx hb d_Mo_write_71 rfl (lv_at hl 0 rfl) ?_
  refine lv_aload_n hx hb d_Mo_write_72 rfl (lv_at hl 0 rfl) ?_
  refine gt_Mo_size hx hb ht hown hK hI (ht _ m_832) d_Mo_write_73 ?_
  refine lv_iload hx hb d_Mo_write_76 (lv_at hl 3 rfl) ?_
  by_cases hc1 : (x4 < 0 ∨ 260 ≤ x4.toNatClampNeg)
  · exact no_s (it_t h hc1)
  have h := it_f h hc1
  refine al_Mo_size hx hb hK hI hc1 d_Mo_write_78 ?_
  obtain ⟨o2, ho3, h⟩ := bd_s h
  refine cl_v (W1 := fun (_ : Unit) => w_Mo g a0 o2 ++ (rest)) (va_runV (As := [.int ((Mo_size s0) x4.toNatClampNeg)]) (rest := []) ⟨hx, hb, hml, hown, ht⟩ (c_Mo_make (l := l) (D := D) (A := A) (g := g) (rest := rest) (a0 := a0) ho3) (cwV 1 ht (gd_V m_1048 m_1050 mp_50 m_11 m_1051) rfl rfl rfl (by decide +kernel) ⟨(Nat.le_of_ble_eq_true rfl), (Nat.le_of_ble_eq_true rfl)⟩) (prV (ci := 9) (q0 := 0) hKK hI (List.Perm.refl _) rfl rfl rfl) rfl rfl hl.1 rfl (lv_room (Nat.le_of_ble_eq_true rfl)) d_Mo_write_79 ⟨(Nat.le_of_ble_eq_true rfl), (Nat.le_of_ble_eq_true rfl)⟩) hS (fun _ => ((List.Perm.refl _)).symm) (fun _ H locs hI hS => ?_)
  have hI : Iw D A (w_Mo g a0 o2 ++ (rest)) H := hI
  exact t_Mo_write_82 X hk3 (lv_sub hl [0, 1, 2, 3] rfl) hI hS h
set_option maxRecDepth 100000 in
set_option maxHeartbeats 4000000 in
theorem t_Mo_write_60 {p : Program} {l : Launch} {e : Env} {s : State} {m : MethodId} {args : Array Value} {below : List Frame} {meth : Method} {c : Code} {D : va_G} {A : Nat → Prop} {g : Nat → ClassId} {rest : va_W} {a0 : Nat → Nat} {ls : Array Slot} {H : Heap} {locs : List Loc} {k3 : S_Mo × Int32 × Int32 × Int32 → Option S_Mo} {s0 : S_Mo} {x2 : Int32} {x3 : Int32} {x4 : Int32} {out : S_Mo} (X : Cx p s m args meth c prog_11_method_17_code 6 ws_Mo_write R_Mo none D g) (hk3 : ∀ (v : S_Mo × Int32 × Int32 × Int32) (ls : Array Slot) (H : Heap) (locs : List Loc), lv_has ls 6 [(0, .ref (a0 0)), (2, .int v.2.1), (3, .int v.2.2.1), (4, .int v.2.2.2)] → Iw D A (w_Mo g a0 v.1 ++ (rest)) H → va_S A s.heap H locs → k3 v = some out → W p l e (headSpec ws_Mo_write { frames := 1, cells := 0, slots := 0, locals := 21 }).room s m args below meth c H locs 0 0 (MQ below (QcV D A g (fun (_ : Unit) => w_Mo g a0 out ++ (rest))) args s 0 0 A) (F0 m 3 ls [])) (hl : lv_has ls 6 [(0, .ref (a0 0)), (2, .int x2), (3, .int x3), (4, .int x4)]) (hI : Iw D A (w_Mo g a0 s0 ++ (rest)) H) (hS : va_S A s.heap H locs) (h : B_Mo_write_60 k3 s0 x2 x3 x4 = some out) : W p l e (headSpec ws_Mo_write { frames := 1, cells := 0, slots := 0, locals := 21 }).room s m args below meth c H locs 0 0 (MQ below (QcV D A g (fun (_ : Unit) => w_Mo g a0 out ++ (rest))) args s 0 0 A) (F0 m 60 ls []) := by
  have X1 := X
  obtain ⟨hx, hb, hml, hown, hts, hr, hlocks, hKK⟩ := X1
  have ht : ∀ w ∈ TB, w.before args s = true := fun w h => hts w (List.mem_cons_of_mem _ h)
  have hK := hKK.1
  unfold B_Mo_write_60 at h
  refine lv_aload_n hx hb d_Mo_write_60 rfl (lv_at hl 0 rfl) ?_
  refine lv_aload_n hx hb d_Mo_write_61 rfl (lv_at hl 0 rfl) ?_
  refine gt_Mo_kind hx hb ht hown hK hI (ht _ m_823) d_Mo_write_62 ?_
  refine lv_iload hx hb d_Mo_write_65 (lv_at hl 3 rfl) ?_
  by_cases hc1 : (x4 < 0 ∨ 260 ≤ x4.toNatClampNeg)
  · exact no_s (it_t h hc1)
  have h := it_f h hc1
  refine al_Mo_kind hx hb hK hI hc1 d_Mo_write_67 ?_
  obtain ⟨o2, ho3, h⟩ := bd_s h
  refine cl_v (W1 := fun (_ : Unit) => w_Mo g a0 o2 ++ (rest)) (va_runV (As := [.int ((Mo_kind s0) x4.toNatClampNeg)]) (rest := []) ⟨hx, hb, hml, hown, ht⟩ (c_Mo_make (l := l) (D := D) (A := A) (g := g) (rest := rest) (a0 := a0) ho3) (cwV 1 ht (gd_V m_1048 m_1050 mp_50 m_11 m_1051) rfl rfl rfl (by decide +kernel) ⟨(Nat.le_of_ble_eq_true rfl), (Nat.le_of_ble_eq_true rfl)⟩) (prV (ci := 9) (q0 := 0) hKK hI (List.Perm.refl _) rfl rfl rfl) rfl rfl hl.1 rfl (lv_room (Nat.le_of_ble_eq_true rfl)) d_Mo_write_68 ⟨(Nat.le_of_ble_eq_true rfl), (Nat.le_of_ble_eq_true rfl)⟩) hS (fun _ => ((List.Perm.refl _)).symm) (fun _ H locs hI hS => ?_)
  have hI : Iw D A (w_Mo g a0 o2 ++ (rest)) H := hI
  exact t_Mo_write_71 X hk3 (lv_sub hl [0, 1, 2, 3] rfl) hI hS h
set_option maxRecDepth 100000 in
set_option maxHeartbeats 4000000 in
theorem t_Mo_write_56 {p : Program} {l : Launch} {e : Env} {s : State} {m : MethodId} {args : Array Value} {below : List Frame} {meth : Method} {c : Code} {D : va_G} {A : Nat → Prop} {g : Nat → ClassId} {rest : va_W} {a0 : Nat → Nat} {ls : Array Slot} {H : Heap} {locs : List Loc} {k3 : S_Mo × Int32 × Int32 × Int32 → Option S_Mo} {s0 : S_Mo} {x2 : Int32} {x3 : Int32} {x4 : Int32} {out : S_Mo} (X : Cx p s m args meth c prog_11_method_17_code 6 ws_Mo_write R_Mo none D g) (hk3 : ∀ (v : S_Mo × Int32 × Int32 × Int32) (ls : Array Slot) (H : Heap) (locs : List Loc), lv_has ls 6 [(0, .ref (a0 0)), (2, .int v.2.1), (3, .int v.2.2.1), (4, .int v.2.2.2)] → Iw D A (w_Mo g a0 v.1 ++ (rest)) H → va_S A s.heap H locs → k3 v = some out → W p l e (headSpec ws_Mo_write { frames := 1, cells := 0, slots := 0, locals := 21 }).room s m args below meth c H locs 0 0 (MQ below (QcV D A g (fun (_ : Unit) => w_Mo g a0 out ++ (rest))) args s 0 0 A) (F0 m 3 ls [])) (hl : lv_has ls 6 [(0, .ref (a0 0)), (2, .int x2), (3, .int x3), (4, .int x4)]) (hI : Iw D A (w_Mo g a0 s0 ++ (rest)) H) (hS : va_S A s.heap H locs) (h : B_Mo_write_56 k3 s0 x2 x3 x4 = some out) : W p l e (headSpec ws_Mo_write { frames := 1, cells := 0, slots := 0, locals := 21 }).room s m args below meth c H locs 0 0 (MQ below (QcV D A g (fun (_ : Unit) => w_Mo g a0 out ++ (rest))) args s 0 0 A) (F0 m 56 ls []) := by
  have X1 := X
  obtain ⟨hx, hb, hml, hown, hts, hr, hlocks, hKK⟩ := X1
  have ht : ∀ w ∈ TB, w.before args s = true := fun w h => hts w (List.mem_cons_of_mem _ h)
  have hK := hKK.1
  unfold B_Mo_write_56 at h
  refine lv_iload_n hx hb d_Mo_write_56 rfl (lv_at hl 2 rfl) ?_
  refine lv_if_ne (tgt := 71) hx hb d_Mo_write_57 (by decide) (fun hc => ?_) (fun hc => ?_)
  · have h := it_f h hc
    exact t_Mo_write_71 X hk3 (lv_sub hl [0, 1, 2, 3] rfl) hI hS h
  · have h := it_t h hc
    exact t_Mo_write_60 X hk3 (lv_sub hl [0, 1, 2, 3] rfl) hI hS h
set_option maxRecDepth 100000 in
set_option maxHeartbeats 4000000 in
theorem t_Mo_write_43 {p : Program} {l : Launch} {e : Env} {s : State} {m : MethodId} {args : Array Value} {below : List Frame} {meth : Method} {c : Code} {D : va_G} {A : Nat → Prop} {g : Nat → ClassId} {rest : va_W} {a0 : Nat → Nat} {ls : Array Slot} {H : Heap} {locs : List Loc} {k3 : S_Mo × Int32 × Int32 × Int32 → Option S_Mo} {s0 : S_Mo} {x2 : Int32} {x3 : Int32} {x4 : Int32} {y0 : Int32} {out : S_Mo} (X : Cx p s m args meth c prog_11_method_17_code 6 ws_Mo_write R_Mo none D g) (hk3 : ∀ (v : S_Mo × Int32 × Int32 × Int32) (ls : Array Slot) (H : Heap) (locs : List Loc), lv_has ls 6 [(0, .ref (a0 0)), (2, .int v.2.1), (3, .int v.2.2.1), (4, .int v.2.2.2)] → Iw D A (w_Mo g a0 v.1 ++ (rest)) H → va_S A s.heap H locs → k3 v = some out → W p l e (headSpec ws_Mo_write { frames := 1, cells := 0, slots := 0, locals := 21 }).room s m args below meth c H locs 0 0 (MQ below (QcV D A g (fun (_ : Unit) => w_Mo g a0 out ++ (rest))) args s 0 0 A) (F0 m 3 ls [])) (hl : lv_has ls 6 [(0, .ref (a0 0)), (2, .int x2), (3, .int x3), (4, .int x4)]) (hI : Iw D A (w_Mo g a0 s0 ++ (rest)) H) (hS : va_S A s.heap H locs) (h : B_Mo_write_43 k3 s0 x2 x3 x4 y0 = some out) : W p l e (headSpec ws_Mo_write { frames := 1, cells := 0, slots := 0, locals := 21 }).room s m args below meth c H locs 0 0 (MQ below (QcV D A g (fun (_ : Unit) => w_Mo g a0 out ++ (rest))) args s 0 0 A) (F0 m 43 ls [.int y0, .ref (a0 0)]) := by
  have X1 := X
  obtain ⟨hx, hb, hml, hown, hts, hr, hlocks, hKK⟩ := X1
  have ht : ∀ w ∈ TB, w.before args s = true := fun w h => hts w (List.mem_cons_of_mem _ h)
  have hK := hKK.1
  unfold B_Mo_write_43 at h
  obtain ⟨o1, ho2, h⟩ := bd_s h
  refine cl_v (W1 := fun (_ : Unit) => w_Mo g a0 o1 ++ (rest)) (va_runV (As := [.int y0]) (rest := []) ⟨hx, hb, hml, hown, ht⟩ (c_Mo_make (l := l) (D := D) (A := A) (g := g) (rest := rest) (a0 := a0) ho2) (cwV 1 ht (gd_V m_1048 m_1050 mp_50 m_11 m_1051) rfl rfl rfl (by decide +kernel) ⟨(Nat.le_of_ble_eq_true rfl), (Nat.le_of_ble_eq_true rfl)⟩) (prV (ci := 9) (q0 := 0) hKK hI (List.Perm.refl _) rfl rfl rfl) rfl rfl hl.1 rfl (lv_room (Nat.le_of_ble_eq_true rfl)) d_Mo_write_43 ⟨(Nat.le_of_ble_eq_true rfl), (Nat.le_of_ble_eq_true rfl)⟩) hS (fun _ => ((List.Perm.refl _)).symm) (fun _ H locs hI hS => ?_)
  have hI : Iw D A (w_Mo g a0 o1 ++ (rest)) H := hI
  refine lv_aload_n hx hb d_Mo_write_46 rfl (lv_at hl 0 rfl) ?_
  refine gt_Mo_kind hx hb ht hown hK hI (ht _ m_823) d_Mo_write_47 ?_
  refine lv_iload hx hb d_Mo_write_50 (lv_at hl 3 rfl) ?_
  by_cases hc3 : (x4 < 0 ∨ 260 ≤ x4.toNatClampNeg)
  · exact no_s (it_t h hc3)
  have h := it_f h hc3
  refine al_Mo_kind hx hb hK hI hc3 d_Mo_write_52 ?_
  refine lv_if_eq (tgt := 71) hx hb d_Mo_write_53 (by decide) (fun hc => ?_) (fun hc => ?_)
  · have h := it_t h hc
    exact t_Mo_write_71 X hk3 (lv_sub hl [0, 1, 2, 3] rfl) hI hS h
  · have h := it_f h hc
    exact t_Mo_write_56 X hk3 (lv_sub hl [0, 1, 2, 3] rfl) hI hS h
set_option maxRecDepth 100000 in
set_option maxHeartbeats 4000000 in
theorem t_Mo_write_36 {p : Program} {l : Launch} {e : Env} {s : State} {m : MethodId} {args : Array Value} {below : List Frame} {meth : Method} {c : Code} {D : va_G} {A : Nat → Prop} {g : Nat → ClassId} {rest : va_W} {a0 : Nat → Nat} {ls : Array Slot} {H : Heap} {locs : List Loc} {k3 : S_Mo × Int32 × Int32 × Int32 → Option S_Mo} {s0 : S_Mo} {x2 : Int32} {x3 : Int32} {x4 : Int32} {out : S_Mo} (X : Cx p s m args meth c prog_11_method_17_code 6 ws_Mo_write R_Mo none D g) (hk3 : ∀ (v : S_Mo × Int32 × Int32 × Int32) (ls : Array Slot) (H : Heap) (locs : List Loc), lv_has ls 6 [(0, .ref (a0 0)), (2, .int v.2.1), (3, .int v.2.2.1), (4, .int v.2.2.2)] → Iw D A (w_Mo g a0 v.1 ++ (rest)) H → va_S A s.heap H locs → k3 v = some out → W p l e (headSpec ws_Mo_write { frames := 1, cells := 0, slots := 0, locals := 21 }).room s m args below meth c H locs 0 0 (MQ below (QcV D A g (fun (_ : Unit) => w_Mo g a0 out ++ (rest))) args s 0 0 A) (F0 m 3 ls [])) (hl : lv_has ls 6 [(0, .ref (a0 0)), (2, .int x2), (3, .int x3), (4, .int x4)]) (hI : Iw D A (w_Mo g a0 s0 ++ (rest)) H) (hS : va_S A s.heap H locs) (h : B_Mo_write_36 k3 s0 x2 x3 x4 = some out) : W p l e (headSpec ws_Mo_write { frames := 1, cells := 0, slots := 0, locals := 21 }).room s m args below meth c H locs 0 0 (MQ below (QcV D A g (fun (_ : Unit) => w_Mo g a0 out ++ (rest))) args s 0 0 A) (F0 m 36 ls [.ref (a0 0)]) := by
  have X1 := X
  obtain ⟨hx, hb, hml, hown, hts, hr, hlocks, hKK⟩ := X1
  have ht : ∀ w ∈ TB, w.before args s = true := fun w h => hts w (List.mem_cons_of_mem _ h)
  have hK := hKK.1
  unfold B_Mo_write_36 at h
  refine lv_aload_n hx hb d_Mo_write_36 rfl (lv_at hl 0 rfl) ?_
  refine gt_Mo_tag hx hb ht hown hK hI (ht _ m_824) d_Mo_write_37 ?_
  refine lv_iload hx hb d_Mo_write_40 (lv_at hl 3 rfl) ?_
  by_cases hc1 : (x4 < 0 ∨ 260 ≤ x4.toNatClampNeg)
  · exact no_s (it_t h hc1)
  have h := it_f h hc1
  refine al_Mo_tag hx hb hK hI hc1 d_Mo_write_42 ?_
  exact t_Mo_write_43 X hk3 (lv_sub hl [0, 1, 2, 3] rfl) hI hS h
set_option maxRecDepth 100000 in
set_option maxHeartbeats 4000000 in
theorem t_Mo_write_30 {p : Program} {l : Launch} {e : Env} {s : State} {m : MethodId} {args : Array Value} {below : List Frame} {meth : Method} {c : Code} {D : va_G} {A : Nat → Prop} {g : Nat → ClassId} {rest : va_W} {a0 : Nat → Nat} {ls : Array Slot} {H : Heap} {locs : List Loc} {k3 : S_Mo × Int32 × Int32 × Int32 → Option S_Mo} {s0 : S_Mo} {x2 : Int32} {x3 : Int32} {x4 : Int32} {out : S_Mo} (X : Cx p s m args meth c prog_11_method_17_code 6 ws_Mo_write R_Mo none D g) (hk3 : ∀ (v : S_Mo × Int32 × Int32 × Int32) (ls : Array Slot) (H : Heap) (locs : List Loc), lv_has ls 6 [(0, .ref (a0 0)), (2, .int v.2.1), (3, .int v.2.2.1), (4, .int v.2.2.2)] → Iw D A (w_Mo g a0 v.1 ++ (rest)) H → va_S A s.heap H locs → k3 v = some out → W p l e (headSpec ws_Mo_write { frames := 1, cells := 0, slots := 0, locals := 21 }).room s m args below meth c H locs 0 0 (MQ below (QcV D A g (fun (_ : Unit) => w_Mo g a0 out ++ (rest))) args s 0 0 A) (F0 m 3 ls [])) (hl : lv_has ls 6 [(0, .ref (a0 0)), (2, .int x2), (3, .int x3), (4, .int x4)]) (hI : Iw D A (w_Mo g a0 s0 ++ (rest)) H) (hS : va_S A s.heap H locs) (h : B_Mo_write_30 k3 s0 x2 x3 x4 = some out) : W p l e (headSpec ws_Mo_write { frames := 1, cells := 0, slots := 0, locals := 21 }).room s m args below meth c H locs 0 0 (MQ below (QcV D A g (fun (_ : Unit) => w_Mo g a0 out ++ (rest))) args s 0 0 A) (F0 m 30 ls [.ref (a0 0)]) := by
  have X1 := X
  obtain ⟨hx, hb, hml, hown, hts, hr, hlocks, hKK⟩ := X1
  have ht : ∀ w ∈ TB, w.before args s = true := fun w h => hts w (List.mem_cons_of_mem _ h)
  have hK := hKK.1
  unfold B_Mo_write_30 at h
  refine lv_sipush (v := 254) hx hb d_Mo_write_30 (by decide) ?_
  refine lv_goto (tgt := 43) hx hb d_Mo_write_33 (by decide) ?_
  exact t_Mo_write_43 X hk3 (lv_sub hl [0, 1, 2, 3] rfl) hI hS h
set_option maxRecDepth 100000 in
set_option maxHeartbeats 4000000 in
theorem t_Mo_write_19 {p : Program} {l : Launch} {e : Env} {s : State} {m : MethodId} {args : Array Value} {below : List Frame} {meth : Method} {c : Code} {D : va_G} {A : Nat → Prop} {g : Nat → ClassId} {rest : va_W} {a0 : Nat → Nat} {ls : Array Slot} {H : Heap} {locs : List Loc} {k3 : S_Mo × Int32 × Int32 × Int32 → Option S_Mo} {s0 : S_Mo} {x2 : Int32} {x3 : Int32} {x4 : Int32} {out : S_Mo} (X : Cx p s m args meth c prog_11_method_17_code 6 ws_Mo_write R_Mo none D g) (hk3 : ∀ (v : S_Mo × Int32 × Int32 × Int32) (ls : Array Slot) (H : Heap) (locs : List Loc), lv_has ls 6 [(0, .ref (a0 0)), (2, .int v.2.1), (3, .int v.2.2.1), (4, .int v.2.2.2)] → Iw D A (w_Mo g a0 v.1 ++ (rest)) H → va_S A s.heap H locs → k3 v = some out → W p l e (headSpec ws_Mo_write { frames := 1, cells := 0, slots := 0, locals := 21 }).room s m args below meth c H locs 0 0 (MQ below (QcV D A g (fun (_ : Unit) => w_Mo g a0 out ++ (rest))) args s 0 0 A) (F0 m 3 ls [])) (hl : lv_has ls 6 [(0, .ref (a0 0)), (2, .int x2), (3, .int x3), (4, .int x4)]) (hI : Iw D A (w_Mo g a0 s0 ++ (rest)) H) (hS : va_S A s.heap H locs) (h : B_Mo_write_19 k3 s0 x2 x3 x4 = some out) : W p l e (headSpec ws_Mo_write { frames := 1, cells := 0, slots := 0, locals := 21 }).room s m args below meth c H locs 0 0 (MQ below (QcV D A g (fun (_ : Unit) => w_Mo g a0 out ++ (rest))) args s 0 0 A) (F0 m 19 ls []) := by
  have X1 := X
  obtain ⟨hx, hb, hml, hown, hts, hr, hlocks, hKK⟩ := X1
  have ht : ∀ w ∈ TB, w.before args s = true := fun w h => hts w (List.mem_cons_of_mem _ h)
  have hK := hKK.1
  unfold B_Mo_write_19 at h
  refine lv_aload_n hx hb d_Mo_write_19 rfl (lv_at hl 0 rfl) ?_
  refine lv_aload_n hx hb d_Mo_write_20 rfl (lv_at hl 0 rfl) ?_
  refine gt_Mo_kind hx hb ht hown hK hI (ht _ m_823) d_Mo_write_21 ?_
  refine lv_iload hx hb d_Mo_write_24 (lv_at hl 3 rfl) ?_
  by_cases hc1 : (x4 < 0 ∨ 260 ≤ x4.toNatClampNeg)
  · exact no_s (it_t h hc1)
  have h := it_f h hc1
  refine al_Mo_kind hx hb hK hI hc1 d_Mo_write_26 ?_
  refine lv_if_ne (tgt := 36) hx hb d_Mo_write_27 (by decide) (fun hc => ?_) (fun hc => ?_)
  · have h := it_f h hc
    exact t_Mo_write_36 X hk3 (lv_sub hl [0, 1, 2, 3] rfl) hI hS h
  · have h := it_t h hc
    exact t_Mo_write_30 X hk3 (lv_sub hl [0, 1, 2, 3] rfl) hI hS h
set_option maxRecDepth 100000 in
set_option maxHeartbeats 4000000 in
theorem t_Mo_write_9 {p : Program} {l : Launch} {e : Env} {s : State} {m : MethodId} {args : Array Value} {below : List Frame} {meth : Method} {c : Code} {D : va_G} {A : Nat → Prop} {g : Nat → ClassId} {rest : va_W} {a0 : Nat → Nat} {ls : Array Slot} {H : Heap} {locs : List Loc} {k3 : S_Mo × Int32 × Int32 × Int32 → Option S_Mo} {s0 : S_Mo} {x2 : Int32} {x3 : Int32} {x4 : Int32} {out : S_Mo} (X : Cx p s m args meth c prog_11_method_17_code 6 ws_Mo_write R_Mo none D g) (hk3 : ∀ (v : S_Mo × Int32 × Int32 × Int32) (ls : Array Slot) (H : Heap) (locs : List Loc), lv_has ls 6 [(0, .ref (a0 0)), (2, .int v.2.1), (3, .int v.2.2.1), (4, .int v.2.2.2)] → Iw D A (w_Mo g a0 v.1 ++ (rest)) H → va_S A s.heap H locs → k3 v = some out → W p l e (headSpec ws_Mo_write { frames := 1, cells := 0, slots := 0, locals := 21 }).room s m args below meth c H locs 0 0 (MQ below (QcV D A g (fun (_ : Unit) => w_Mo g a0 out ++ (rest))) args s 0 0 A) (F0 m 3 ls [])) (hl : lv_has ls 6 [(0, .ref (a0 0)), (2, .int x2), (3, .int x3), (4, .int x4)]) (hI : Iw D A (w_Mo g a0 s0 ++ (rest)) H) (hS : va_S A s.heap H locs) (h : B_Mo_write_9 k3 s0 x2 x3 x4 = some out) : W p l e (headSpec ws_Mo_write { frames := 1, cells := 0, slots := 0, locals := 21 }).room s m args below meth c H locs 0 0 (MQ below (QcV D A g (fun (_ : Unit) => w_Mo g a0 out ++ (rest))) args s 0 0 A) (F0 m 9 ls []) := by
  have X1 := X
  obtain ⟨hx, hb, hml, hown, hts, hr, hlocks, hKK⟩ := X1
  have ht : ∀ w ∈ TB, w.before args s = true := fun w h => hts w (List.mem_cons_of_mem _ h)
  have hK := hKK.1
  unfold B_Mo_write_9 at h
  refine lv_aload_n hx hb d_Mo_write_9 rfl (lv_at hl 0 rfl) ?_
  refine gt_Mo_parent hx hb ht hown hK hI (ht _ m_827) d_Mo_write_10 ?_
  refine lv_iload hx hb d_Mo_write_13 (lv_at hl 3 rfl) ?_
  by_cases hc1 : (x4 < 0 ∨ 260 ≤ x4.toNatClampNeg)
  · exact no_s (it_t h hc1)
  have h := it_f h hc1
  refine al_Mo_parent hx hb hK hI hc1 d_Mo_write_15 ?_
  refine lv_if_lt (tgt := 82) hx hb d_Mo_write_16 (by decide) (fun hc => ?_) (fun hc => ?_)
  · have h := it_t h hc
    exact t_Mo_write_82 X hk3 (lv_sub hl [0, 1, 2, 3] rfl) hI hS h
  · have h := it_f h hc
    exact t_Mo_write_19 X hk3 (lv_sub hl [0, 1, 2, 3] rfl) hI hS h
set_option maxRecDepth 100000 in
set_option maxHeartbeats 4000000 in
theorem t_Mo_write_3 {p : Program} {l : Launch} {e : Env} {s : State} {m : MethodId} {args : Array Value} {below : List Frame} {meth : Method} {c : Code} {D : va_G} {A : Nat → Prop} {g : Nat → ClassId} {rest : va_W} {a0 : Nat → Nat} {ls : Array Slot} {H : Heap} {locs : List Loc} {k3 : S_Mo × Int32 × Int32 × Int32 → Option S_Mo} {s0 : S_Mo} {x2 : Int32} {x3 : Int32} {x4 : Int32} {out : S_Mo} (X : Cx p s m args meth c prog_11_method_17_code 6 ws_Mo_write R_Mo none D g) (hk3 : ∀ (v : S_Mo × Int32 × Int32 × Int32) (ls : Array Slot) (H : Heap) (locs : List Loc), lv_has ls 6 [(0, .ref (a0 0)), (2, .int v.2.1), (3, .int v.2.2.1), (4, .int v.2.2.2)] → Iw D A (w_Mo g a0 v.1 ++ (rest)) H → va_S A s.heap H locs → k3 v = some out → W p l e (headSpec ws_Mo_write { frames := 1, cells := 0, slots := 0, locals := 21 }).room s m args below meth c H locs 0 0 (MQ below (QcV D A g (fun (_ : Unit) => w_Mo g a0 out ++ (rest))) args s 0 0 A) (F0 m 3 ls [])) (hl : lv_has ls 6 [(0, .ref (a0 0)), (2, .int x2), (3, .int x3), (4, .int x4)]) (hI : Iw D A (w_Mo g a0 s0 ++ (rest)) H) (hS : va_S A s.heap H locs) (h : B_Mo_write_3 k3 s0 x2 x3 x4 = some out) : W p l e (headSpec ws_Mo_write { frames := 1, cells := 0, slots := 0, locals := 21 }).room s m args below meth c H locs 0 0 (MQ below (QcV D A g (fun (_ : Unit) => w_Mo g a0 out ++ (rest))) args s 0 0 A) (F0 m 3 ls []) := by
  have X1 := X
  obtain ⟨hx, hb, hml, hown, hts, hr, hlocks, hKK⟩ := X1
  have ht : ∀ w ∈ TB, w.before args s = true := fun w h => hts w (List.mem_cons_of_mem _ h)
  have hK := hKK.1
  unfold B_Mo_write_3 at h
  refine lv_iload hx hb d_Mo_write_3 (lv_at hl 3 rfl) ?_
  refine lv_iload_n hx hb d_Mo_write_5 rfl (lv_at hl 1 rfl) ?_
  refine lv_icmp_ge (tgt := 209) hx hb d_Mo_write_6 (by decide) (fun hc => ?_) (fun hc => ?_)
  · have h := it_t h hc
    exact t_Mo_write_209 X (lv_sub hl [] rfl) hI hS h
  · have h := it_f h hc
    exact t_Mo_write_9 X hk3 (lv_sub hl [0, 1, 2, 3] rfl) hI hS h
set_option maxRecDepth 100000 in
set_option maxHeartbeats 4000000 in
theorem T_Mo_write_3 {p : Program} {l : Launch} {e : Env} {s : State} {m : MethodId} {args : Array Value} {below : List Frame} {meth : Method} {c : Code} {D : va_G} {A : Nat → Prop} {g : Nat → ClassId} {rest : va_W} {a0 : Nat → Nat} {ls : Array Slot} {H : Heap} {locs : List Loc} {s0 : S_Mo} {x2 : Int32} {x3 : Int32} {x4 : Int32} {out : S_Mo} (X : Cx p s m args meth c prog_11_method_17_code 6 ws_Mo_write R_Mo none D g) (hl : lv_has ls 6 [(0, .ref (a0 0)), (2, .int x2), (3, .int x3), (4, .int x4)]) (hI : Iw D A (w_Mo g a0 s0 ++ (rest)) H) (hS : va_S A s.heap H locs) (h : L_Mo_write_3   (s0, x2, x3, x4) = some out) : W p l e (headSpec ws_Mo_write { frames := 1, cells := 0, slots := 0, locals := 21 }).room s m args below meth c H locs 0 0 (MQ below (QcV D A g (fun (_ : Unit) => w_Mo g a0 out ++ (rest))) args s 0 0 A) (F0 m 3 ls []) := by
  unfold L_Mo_write_3 at h
  exact lp_ind (P := fun v => ∀ (ls : Array Slot) (H : Heap) (locs : List Loc), lv_has ls 6 [(0, .ref (a0 0)), (2, .int v.2.1), (3, .int v.2.2.1), (4, .int v.2.2.2)] → Iw D A (w_Mo g a0 v.1 ++ (rest)) H → va_S A s.heap H locs → W p l e (headSpec ws_Mo_write { frames := 1, cells := 0, slots := 0, locals := 21 }).room s m args below meth c H locs 0 0 (MQ below (QcV D A g (fun (_ : Unit) => w_Mo g a0 out ++ (rest))) args s 0 0 A) (F0 m 3 ls [])) (fun k v ih hb ls H locs  hl hI hS => t_Mo_write_3 X  (fun v' ls H locs  hl hI hS h' => ih v' h' ls H locs  hl hI hS) hl hI hS hb) FU _ h ls H locs  hl hI hS
set_option maxRecDepth 100000 in
set_option maxHeartbeats 4000000 in
theorem t_Mo_write_0 {p : Program} {l : Launch} {e : Env} {s : State} {m : MethodId} {args : Array Value} {below : List Frame} {meth : Method} {c : Code} {D : va_G} {A : Nat → Prop} {g : Nat → ClassId} {rest : va_W} {a0 : Nat → Nat} {ls : Array Slot} {H : Heap} {locs : List Loc} {s0 : S_Mo} {x1 : Int32} {x2 : Int32} {x3 : Int32} {out : S_Mo} (X : Cx p s m args meth c prog_11_method_17_code 6 ws_Mo_write R_Mo none D g) (hl : lv_has ls 6 [(0, .ref (a0 0)), (1, .int x1), (2, .int x2), (3, .int x3)]) (hI : Iw D A (w_Mo g a0 s0 ++ (rest)) H) (hS : va_S A s.heap H locs) (h : B_Mo_write_0  s0 x1 x2 x3 = some out) : W p l e (headSpec ws_Mo_write { frames := 1, cells := 0, slots := 0, locals := 21 }).room s m args below meth c H locs 0 0 (MQ below (QcV D A g (fun (_ : Unit) => w_Mo g a0 out ++ (rest))) args s 0 0 A) (F0 m 0 ls []) := by
  have X1 := X
  obtain ⟨hx, hb, hml, hown, hts, hr, hlocks, hKK⟩ := X1
  have ht : ∀ w ∈ TB, w.before args s = true := fun w h => hts w (List.mem_cons_of_mem _ h)
  have hK := hKK.1
  unfold B_Mo_write_0 at h
  refine lv_iload_n hx hb d_Mo_write_0 rfl (lv_at hl 1 rfl) ?_
  refine lv_istore hx hb d_Mo_write_1 hl (Nat.le_of_ble_eq_true rfl) rfl (fun ls hl => ?_)
  have hl : lv_has ls 6 [(4, .int x1), (0, .ref (a0 0)), (1, .int x1), (2, .int x2), (3, .int x3)] := hl
  exact T_Mo_write_3 X (lv_sub hl [1, 3, 4, 0] rfl) hI hS h
set_option maxRecDepth 100000 in
set_option maxHeartbeats 4000000 in
theorem c_Mo_write {l : Launch} {D : va_G} {A : Nat → Prop} {g : Nat → ClassId} {rest : va_W} {a0 : Nat → Nat} {s0 : S_Mo} {x1 : Int32} {x2 : Int32} {x3 : Int32} {out : S_Mo} (h : F_Mo_write s0 x1 x2 x3 = some out) : Met l y_Mo_write ws_Mo_write { frames := 1, cells := 0, slots := 0, locals := 21 } (PcW D A g [.ref (a0 0), .int x1, .int x2, .int x3] (w_Mo g a0 s0 ++ (rest))) (QcV D A g (fun (_ : Unit) => w_Mo g a0 out ++ (rest))) 0 0 A := by
  refine Met.ofW (cc := prog_11_method_17_code) (maxL := 6) (ret := none) (by decide) rfl ?_
  intro p e s m args below meth c s₁ B hml hv
  obtain ⟨rfl, hI, hK⟩ := hv
  have hl := lv_entry [.ref (a0 0), .int x1, .int x2, .int x3] (n := 6) (Nat.le_of_ble_eq_true rfl)
  rw [lg_entry_eq]
  generalize (lg_sl [.ref (a0 0), .int x1, .int x2, .int x3] ++ List.replicate (6 - (lg_sl [.ref (a0 0), .int x1, .int x2, .int x3]).length) Slot.unset).toArray = ls at hl ⊢
  have hl : lv_has ls 6 [(0, .ref (a0 0)), (1, .int x1), (2, .int x2), (3, .int x3)] := hl
  exact t_Mo_write_0 ⟨B.exec, B.bytes, hml, findClass_of_methodNamed B.named, atoms_spec (ws := ws_Mo_write) B.pre, B.returns, B.notSynchronized, hK⟩ (lv_sub hl [0, 1, 2, 3] rfl) hI va_S.rf h
def ws_Mo_canonical : List Cond := .code y_Mo_canonical prog_11_method_18_code 4 (some .boolean) :: TB
def B_Mo_canonical_61 (s0 : S_Mo) : Option (Int32 × S_Mo) :=
  some ((1 : Int32), s0)
def B_Mo_canonical_51 (s0 : S_Mo) (x3 : Int32) : Option (Int32 × S_Mo) :=
  (if (x3 < 0 ∨ 260 ≤ x3.toNatClampNeg) then none else (B_Mo_canonical_61 (Mo_set_makes s0 ((Mo_size s0) x3.toNatClampNeg))))
def B_Mo_canonical_34 (s0 : S_Mo) (x1 : Int32) (x2 : Int32) (x3 : Int32) : Option (Int32 × S_Mo) :=
  (if (x1 < 0 ∨ 2 ≤ x1.toNatClampNeg) then none else ((F_Mo_write s0 x3 (x3 + ((Mo_count s0) x1.toNatClampNeg)) x2).bind fun o2 => (B_Mo_canonical_61 o2)))
def B_Mo_canonical_16 (s0 : S_Mo) (x1 : Int32) (x2 : Int32) : Option (Int32 × S_Mo) :=
  (if (((130 : Int32) * x1) < 0 ∨ 260 ≤ ((130 : Int32) * x1).toNatClampNeg) then none else (if (900 : Int32) < ((Mo_size s0) ((130 : Int32) * x1).toNatClampNeg) then (B_Mo_canonical_51 s0 ((130 : Int32) * x1)) else (B_Mo_canonical_34 s0 x1 x2 ((130 : Int32) * x1))))
def B_Mo_canonical_14 (s0 : S_Mo) : Option (Int32 × S_Mo) :=
  some ((0 : Int32), s0)
def B_Mo_canonical_0 (s0 : S_Mo) (x1 : Int32) (x2 : Int32) : Option (Int32 × S_Mo) :=
  ((F_Mo_measure (Mo_set_makes s0 (0 : Int32)) x1 x2).bind fun o1 => (if o1.1 = 0 then (B_Mo_canonical_14 o1.2) else (B_Mo_canonical_16 o1.2 x1 x2)))
def F_Mo_canonical (s0 : S_Mo) (x1 : Int32) (x2 : Int32) : Option (Int32 × S_Mo) := B_Mo_canonical_0 s0 x1 x2
set_option maxRecDepth 100000 in
set_option maxHeartbeats 4000000 in
theorem t_Mo_canonical_61 {p : Program} {l : Launch} {e : Env} {s : State} {m : MethodId} {args : Array Value} {below : List Frame} {meth : Method} {c : Code} {D : va_G} {A : Nat → Prop} {g : Nat → ClassId} {rest : va_W} {a0 : Nat → Nat} {ls : Array Slot} {H : Heap} {locs : List Loc} {s0 : S_Mo} {out : Int32 × S_Mo} (X : Cx p s m args meth c prog_11_method_18_code 4 ws_Mo_canonical R_Mo (some .boolean) D g) (hl : lv_has ls 4 []) (hI : Iw D A (w_Mo g a0 s0 ++ (rest)) H) (hS : va_S A s.heap H locs) (h : B_Mo_canonical_61  s0 = some out) : W p l e (headSpec ws_Mo_canonical { frames := 3, cells := 0, slots := 0, locals := 68 }).room s m args below meth c H locs 0 0 (MQ below (QcI D A g out.1 (fun (_ : Unit) => w_Mo g a0 out.2 ++ (rest))) args s 0 0 A) (F0 m 61 ls []) := by
  have X1 := X
  obtain ⟨hx, hb, hml, hown, hts, hr, hlocks, hKK⟩ := X1
  have ht : ∀ w ∈ TB, w.before args s = true := fun w h => hts w (List.mem_cons_of_mem _ h)
  have hK := hKK.1
  unfold B_Mo_canonical_61 at h
  refine lv_iconst (v := 1) hx hb d_Mo_canonical_61 (by decide) ?_
  have h9 := Option.some.inj h
  subst h9
  exact W.zret (v := (1 : Int32)) hx hb hr rfl (fun t ht hW => ⟨⟨_, (), rfl, rfl, ⟨by rw [ht]; exact hI, hKK.moved hW⟩⟩, hS.F ht⟩) hS.2.2 d_Mo_canonical_62
set_option maxRecDepth 100000 in
set_option maxHeartbeats 4000000 in
theorem t_Mo_canonical_51 {p : Program} {l : Launch} {e : Env} {s : State} {m : MethodId} {args : Array Value} {below : List Frame} {meth : Method} {c : Code} {D : va_G} {A : Nat → Prop} {g : Nat → ClassId} {rest : va_W} {a0 : Nat → Nat} {ls : Array Slot} {H : Heap} {locs : List Loc} {s0 : S_Mo} {x3 : Int32} {out : Int32 × S_Mo} (X : Cx p s m args meth c prog_11_method_18_code 4 ws_Mo_canonical R_Mo (some .boolean) D g) (hl : lv_has ls 4 [(0, .ref (a0 0)), (3, .int x3)]) (hI : Iw D A (w_Mo g a0 s0 ++ (rest)) H) (hS : va_S A s.heap H locs) (h : B_Mo_canonical_51  s0 x3 = some out) : W p l e (headSpec ws_Mo_canonical { frames := 3, cells := 0, slots := 0, locals := 68 }).room s m args below meth c H locs 0 0 (MQ below (QcI D A g out.1 (fun (_ : Unit) => w_Mo g a0 out.2 ++ (rest))) args s 0 0 A) (F0 m 51 ls []) := by
  have X1 := X
  obtain ⟨hx, hb, hml, hown, hts, hr, hlocks, hKK⟩ := X1
  have ht : ∀ w ∈ TB, w.before args s = true := fun w h => hts w (List.mem_cons_of_mem _ h)
  have hK := hKK.1
  unfold B_Mo_canonical_51 at h
  refine lv_aload_n hx hb d_Mo_canonical_51 rfl (lv_at hl 0 rfl) ?_
  refine lv_aload_n hx hb d_Mo_canonical_52 rfl (lv_at hl 0 rfl) ?_
  refine gt_Mo_size hx hb ht hown hK hI (ht _ m_832) d_Mo_canonical_53 ?_
  refine lv_iload_n hx hb d_Mo_canonical_56 rfl (lv_at hl 1 rfl) ?_
  by_cases hc1 : (x3 < 0 ∨ 260 ≤ x3.toNatClampNeg)
  · exact no_s (it_t h hc1)
  have h := it_f h hc1
  refine al_Mo_size hx hb hK hI hc1 d_Mo_canonical_57 ?_
  refine pt_Mo_makes hx hb ht hown hK hI hS (ht _ m_843) d_Mo_canonical_58 (fun H locs hI hS => ?_)
  exact t_Mo_canonical_61 X (lv_sub hl [] rfl) hI hS h
set_option maxRecDepth 100000 in
set_option maxHeartbeats 4000000 in
theorem t_Mo_canonical_34 {p : Program} {l : Launch} {e : Env} {s : State} {m : MethodId} {args : Array Value} {below : List Frame} {meth : Method} {c : Code} {D : va_G} {A : Nat → Prop} {g : Nat → ClassId} {rest : va_W} {a0 : Nat → Nat} {ls : Array Slot} {H : Heap} {locs : List Loc} {s0 : S_Mo} {x1 : Int32} {x2 : Int32} {x3 : Int32} {out : Int32 × S_Mo} (X : Cx p s m args meth c prog_11_method_18_code 4 ws_Mo_canonical R_Mo (some .boolean) D g) (hl : lv_has ls 4 [(0, .ref (a0 0)), (1, .int x1), (2, .int x2), (3, .int x3)]) (hI : Iw D A (w_Mo g a0 s0 ++ (rest)) H) (hS : va_S A s.heap H locs) (h : B_Mo_canonical_34  s0 x1 x2 x3 = some out) : W p l e (headSpec ws_Mo_canonical { frames := 3, cells := 0, slots := 0, locals := 68 }).room s m args below meth c H locs 0 0 (MQ below (QcI D A g out.1 (fun (_ : Unit) => w_Mo g a0 out.2 ++ (rest))) args s 0 0 A) (F0 m 34 ls []) := by
  have X1 := X
  obtain ⟨hx, hb, hml, hown, hts, hr, hlocks, hKK⟩ := X1
  have ht : ∀ w ∈ TB, w.before args s = true := fun w h => hts w (List.mem_cons_of_mem _ h)
  have hK := hKK.1
  unfold B_Mo_canonical_34 at h
  refine lv_aload_n hx hb d_Mo_canonical_34 rfl (lv_at hl 0 rfl) ?_
  refine lv_iload_n hx hb d_Mo_canonical_35 rfl (lv_at hl 3 rfl) ?_
  refine lv_iload_n hx hb d_Mo_canonical_36 rfl (lv_at hl 3 rfl) ?_
  refine lv_aload_n hx hb d_Mo_canonical_37 rfl (lv_at hl 0 rfl) ?_
  refine gt_Mo_count hx hb ht hown hK hI (ht _ m_822) d_Mo_canonical_38 ?_
  refine lv_iload_n hx hb d_Mo_canonical_41 rfl (lv_at hl 1 rfl) ?_
  by_cases hc1 : (x1 < 0 ∨ 2 ≤ x1.toNatClampNeg)
  · exact no_s (it_t h hc1)
  have h := it_f h hc1
  refine al_Mo_count hx hb hK hI hc1 d_Mo_canonical_42 ?_
  refine lv_iadd hx hb d_Mo_canonical_43 ?_
  refine lv_iload_n hx hb d_Mo_canonical_44 rfl (lv_at hl 2 rfl) ?_
  obtain ⟨o2, ho3, h⟩ := bd_s h
  refine cl_v (W1 := fun (_ : Unit) => w_Mo g a0 o2 ++ (rest)) (va_runV (As := [.int x3, .int (x3 + ((Mo_count s0) x1.toNatClampNeg)), .int x2]) (rest := []) ⟨hx, hb, hml, hown, ht⟩ (c_Mo_write (l := l) (D := D) (A := A) (g := g) (rest := rest) (a0 := a0) ho3) (cwV 3 ht (gd_V m_1044 m_1046 mp_49 m_11 m_1047) rfl rfl rfl (by decide +kernel) ⟨(Nat.le_of_ble_eq_true rfl), (Nat.le_of_ble_eq_true rfl)⟩) (prV (ci := 9) (q0 := 0) hKK hI (List.Perm.refl _) rfl rfl rfl) rfl rfl hl.1 rfl (lv_room (Nat.le_of_ble_eq_true rfl)) d_Mo_canonical_45 ⟨(Nat.le_of_ble_eq_true rfl), (Nat.le_of_ble_eq_true rfl)⟩) hS (fun _ => ((List.Perm.refl _)).symm) (fun _ H locs hI hS => ?_)
  have hI : Iw D A (w_Mo g a0 o2 ++ (rest)) H := hI
  refine lv_goto (tgt := 61) hx hb d_Mo_canonical_48 (by decide) ?_
  exact t_Mo_canonical_61 X (lv_sub hl [] rfl) hI hS h
set_option maxRecDepth 100000 in
set_option maxHeartbeats 4000000 in
theorem t_Mo_canonical_16 {p : Program} {l : Launch} {e : Env} {s : State} {m : MethodId} {args : Array Value} {below : List Frame} {meth : Method} {c : Code} {D : va_G} {A : Nat → Prop} {g : Nat → ClassId} {rest : va_W} {a0 : Nat → Nat} {ls : Array Slot} {H : Heap} {locs : List Loc} {s0 : S_Mo} {x1 : Int32} {x2 : Int32} {out : Int32 × S_Mo} (X : Cx p s m args meth c prog_11_method_18_code 4 ws_Mo_canonical R_Mo (some .boolean) D g) (hl : lv_has ls 4 [(0, .ref (a0 0)), (1, .int x1), (2, .int x2)]) (hI : Iw D A (w_Mo g a0 s0 ++ (rest)) H) (hS : va_S A s.heap H locs) (h : B_Mo_canonical_16  s0 x1 x2 = some out) : W p l e (headSpec ws_Mo_canonical { frames := 3, cells := 0, slots := 0, locals := 68 }).room s m args below meth c H locs 0 0 (MQ below (QcI D A g out.1 (fun (_ : Unit) => w_Mo g a0 out.2 ++ (rest))) args s 0 0 A) (F0 m 16 ls []) := by
  have X1 := X
  obtain ⟨hx, hb, hml, hown, hts, hr, hlocks, hKK⟩ := X1
  have ht : ∀ w ∈ TB, w.before args s = true := fun w h => hts w (List.mem_cons_of_mem _ h)
  have hK := hKK.1
  unfold B_Mo_canonical_16 at h
  refine lv_sipush (v := 130) hx hb d_Mo_canonical_16 (by decide) ?_
  refine lv_iload_n hx hb d_Mo_canonical_19 rfl (lv_at hl 1 rfl) ?_
  refine lv_imul hx hb d_Mo_canonical_20 ?_
  refine lv_istore_n hx hb d_Mo_canonical_21 rfl hl (Nat.le_of_ble_eq_true rfl) rfl (fun ls hl => ?_)
  have hl : lv_has ls 4 [(3, .int ((130 : Int32) * x1)), (0, .ref (a0 0)), (1, .int x1), (2, .int x2)] := hl
  refine lv_aload_n hx hb d_Mo_canonical_22 rfl (lv_at hl 1 rfl) ?_
  refine gt_Mo_size hx hb ht hown hK hI (ht _ m_832) d_Mo_canonical_23 ?_
  refine lv_iload_n hx hb d_Mo_canonical_26 rfl (lv_at hl 0 rfl) ?_
  by_cases hc1 : (((130 : Int32) * x1) < 0 ∨ 260 ≤ ((130 : Int32) * x1).toNatClampNeg)
  · exact no_s (it_t h hc1)
  have h := it_f h hc1
  refine al_Mo_size hx hb hK hI hc1 d_Mo_canonical_27 ?_
  refine lv_sipush (v := 900) hx hb d_Mo_canonical_28 (by decide) ?_
  refine lv_icmp_gt (tgt := 51) hx hb d_Mo_canonical_31 (by decide) (fun hc => ?_) (fun hc => ?_)
  · have h := it_t h hc
    exact t_Mo_canonical_51 X (lv_sub hl [1, 0] rfl) hI hS h
  · have h := it_f h hc
    exact t_Mo_canonical_34 X (lv_sub hl [1, 2, 3, 0] rfl) hI hS h
set_option maxRecDepth 100000 in
set_option maxHeartbeats 4000000 in
theorem t_Mo_canonical_14 {p : Program} {l : Launch} {e : Env} {s : State} {m : MethodId} {args : Array Value} {below : List Frame} {meth : Method} {c : Code} {D : va_G} {A : Nat → Prop} {g : Nat → ClassId} {rest : va_W} {a0 : Nat → Nat} {ls : Array Slot} {H : Heap} {locs : List Loc} {s0 : S_Mo} {out : Int32 × S_Mo} (X : Cx p s m args meth c prog_11_method_18_code 4 ws_Mo_canonical R_Mo (some .boolean) D g) (hl : lv_has ls 4 []) (hI : Iw D A (w_Mo g a0 s0 ++ (rest)) H) (hS : va_S A s.heap H locs) (h : B_Mo_canonical_14  s0 = some out) : W p l e (headSpec ws_Mo_canonical { frames := 3, cells := 0, slots := 0, locals := 68 }).room s m args below meth c H locs 0 0 (MQ below (QcI D A g out.1 (fun (_ : Unit) => w_Mo g a0 out.2 ++ (rest))) args s 0 0 A) (F0 m 14 ls []) := by
  have X1 := X
  obtain ⟨hx, hb, hml, hown, hts, hr, hlocks, hKK⟩ := X1
  have ht : ∀ w ∈ TB, w.before args s = true := fun w h => hts w (List.mem_cons_of_mem _ h)
  have hK := hKK.1
  unfold B_Mo_canonical_14 at h
  refine lv_iconst (v := 0) hx hb d_Mo_canonical_14 (by decide) ?_
  have h9 := Option.some.inj h
  subst h9
  exact W.zret (v := (0 : Int32)) hx hb hr rfl (fun t ht hW => ⟨⟨_, (), rfl, rfl, ⟨by rw [ht]; exact hI, hKK.moved hW⟩⟩, hS.F ht⟩) hS.2.2 d_Mo_canonical_15
set_option maxRecDepth 100000 in
set_option maxHeartbeats 4000000 in
theorem t_Mo_canonical_0 {p : Program} {l : Launch} {e : Env} {s : State} {m : MethodId} {args : Array Value} {below : List Frame} {meth : Method} {c : Code} {D : va_G} {A : Nat → Prop} {g : Nat → ClassId} {rest : va_W} {a0 : Nat → Nat} {ls : Array Slot} {H : Heap} {locs : List Loc} {s0 : S_Mo} {x1 : Int32} {x2 : Int32} {out : Int32 × S_Mo} (X : Cx p s m args meth c prog_11_method_18_code 4 ws_Mo_canonical R_Mo (some .boolean) D g) (hl : lv_has ls 4 [(0, .ref (a0 0)), (1, .int x1), (2, .int x2)]) (hI : Iw D A (w_Mo g a0 s0 ++ (rest)) H) (hS : va_S A s.heap H locs) (h : B_Mo_canonical_0  s0 x1 x2 = some out) : W p l e (headSpec ws_Mo_canonical { frames := 3, cells := 0, slots := 0, locals := 68 }).room s m args below meth c H locs 0 0 (MQ below (QcI D A g out.1 (fun (_ : Unit) => w_Mo g a0 out.2 ++ (rest))) args s 0 0 A) (F0 m 0 ls []) := by
  have X1 := X
  obtain ⟨hx, hb, hml, hown, hts, hr, hlocks, hKK⟩ := X1
  have ht : ∀ w ∈ TB, w.before args s = true := fun w h => hts w (List.mem_cons_of_mem _ h)
  have hK := hKK.1
  unfold B_Mo_canonical_0 at h
  refine lv_aload_n hx hb d_Mo_canonical_0 rfl (lv_at hl 0 rfl) ?_
  refine lv_iconst (v := 0) hx hb d_Mo_canonical_1 (by decide) ?_
  refine pt_Mo_makes hx hb ht hown hK hI hS (ht _ m_843) d_Mo_canonical_2 (fun H locs hI hS => ?_)
  refine lv_aload_n hx hb d_Mo_canonical_5 rfl (lv_at hl 0 rfl) ?_
  refine lv_iload_n hx hb d_Mo_canonical_6 rfl (lv_at hl 1 rfl) ?_
  refine lv_iload_n hx hb d_Mo_canonical_7 rfl (lv_at hl 2 rfl) ?_
  obtain ⟨o1, ho2, h⟩ := bd_s h
  refine cl_i (W1 := fun (_ : Unit) => w_Mo g a0 o1.2 ++ (rest)) (va_runV (As := [.int x1, .int x2]) (rest := []) ⟨hx, hb, hml, hown, ht⟩ (c_Mo_measure (l := l) (D := D) (A := A) (g := g) (rest := rest) (a0 := a0) ho2) (cwV 2 ht (gd_V m_1035 m_1037 mp_48 m_11 m_1038) rfl rfl rfl (by decide +kernel) ⟨(Nat.le_of_ble_eq_true rfl), (Nat.le_of_ble_eq_true rfl)⟩) (prV (ci := 9) (q0 := 0) hKK hI (List.Perm.refl _) rfl rfl rfl) rfl rfl hl.1 rfl (lv_room (Nat.le_of_ble_eq_true rfl)) d_Mo_canonical_8 ⟨(Nat.le_of_ble_eq_true rfl), (Nat.le_of_ble_eq_true rfl)⟩) hS (fun _ => ((List.Perm.refl _)).symm) (fun _ H locs hI hS => ?_)
  have hI : Iw D A (w_Mo g a0 o1.2 ++ (rest)) H := hI
  refine lv_if_ne (tgt := 16) hx hb d_Mo_canonical_11 (by decide) (fun hc => ?_) (fun hc => ?_)
  · have h := it_f h hc
    exact t_Mo_canonical_16 X (lv_sub hl [0, 1, 2] rfl) hI hS h
  · have h := it_t h hc
    exact t_Mo_canonical_14 X (lv_sub hl [] rfl) hI hS h
set_option maxRecDepth 100000 in
set_option maxHeartbeats 4000000 in
theorem c_Mo_canonical {l : Launch} {D : va_G} {A : Nat → Prop} {g : Nat → ClassId} {rest : va_W} {a0 : Nat → Nat} {s0 : S_Mo} {x1 : Int32} {x2 : Int32} {out : Int32 × S_Mo} (h : F_Mo_canonical s0 x1 x2 = some out) : Met l y_Mo_canonical ws_Mo_canonical { frames := 3, cells := 0, slots := 0, locals := 68 } (PcW D A g [.ref (a0 0), .int x1, .int x2] (w_Mo g a0 s0 ++ (rest))) (QcI D A g out.1 (fun (_ : Unit) => w_Mo g a0 out.2 ++ (rest))) 0 0 A := by
  refine Met.ofW (cc := prog_11_method_18_code) (maxL := 4) (ret := (some .boolean)) (by decide) rfl ?_
  intro p e s m args below meth c s₁ B hml hv
  obtain ⟨rfl, hI, hK⟩ := hv
  have hl := lv_entry [.ref (a0 0), .int x1, .int x2] (n := 4) (Nat.le_of_ble_eq_true rfl)
  rw [lg_entry_eq]
  generalize (lg_sl [.ref (a0 0), .int x1, .int x2] ++ List.replicate (4 - (lg_sl [.ref (a0 0), .int x1, .int x2]).length) Slot.unset).toArray = ls at hl ⊢
  have hl : lv_has ls 4 [(0, .ref (a0 0)), (1, .int x1), (2, .int x2)] := hl
  exact t_Mo_canonical_0 ⟨B.exec, B.bytes, hml, findClass_of_methodNamed B.named, atoms_spec (ws := ws_Mo_canonical) B.pre, B.returns, B.notSynchronized, hK⟩ (lv_sub hl [0, 1, 2] rfl) hI va_S.rf h
def ws_Mo_convert : List Cond := .code y_Mo_convert prog_11_method_23_code 5 (some .int) :: TB
def B_Mo_convert_72 (s0 : S_Mo) : Option (Int32 × S_Mo) :=
  ((F_Mo_fails s0 (2 : Int32)).bind fun o1 => some (o1.1, o1.2))
def B_Mo_convert_110 (s0 : S_Mo) : Option (Int32 × S_Mo) :=
  some ((Mo_drafted (Mo_set_drafted s0 (Mo_makes s0))), (Mo_set_drafted s0 (Mo_makes s0)))
def B_Mo_convert_90 (k81 : S_Mo × Int32 → Option (Int32 × S_Mo)) (s0 : S_Mo) (x4 : Int32) : Option (Int32 × S_Mo) :=
  (if (x4 < 0 ∨ 1000 ≤ x4.toNatClampNeg) then none else (if (x4 < 0 ∨ 120 ≤ x4.toNatClampNeg) then none else (k81 ((Mo_set_draft s0 (upd (Mo_draft s0) x4.toNatClampNeg ((Mo_made s0) x4.toNatClampNeg))), (x4 + 1)))))
def B_Mo_convert_81 (k81 : S_Mo × Int32 → Option (Int32 × S_Mo)) (s0 : S_Mo) (x4 : Int32) : Option (Int32 × S_Mo) :=
  (if (Mo_makes s0) ≤ x4 then (B_Mo_convert_110 s0) else (B_Mo_convert_90 k81 s0 x4))
def L_Mo_convert_81 (v : S_Mo × Int32) : Option (Int32 × S_Mo) := lp (fun k81 v => B_Mo_convert_81  k81  v.1 v.2) FU v
def B_Mo_convert_78 (s0 : S_Mo) : Option (Int32 × S_Mo) :=
  (L_Mo_convert_81 (s0, (0 : Int32)))
def B_Mo_convert_63 (s0 : S_Mo) : Option (Int32 × S_Mo) :=
  (if (Mo_makes s0) ≤ (120 : Int32) then (B_Mo_convert_78 s0) else (B_Mo_convert_72 s0))
def B_Mo_convert_58 (s0 : S_Mo) (y0 : Int32) : Option (Int32 × S_Mo) :=
  (if y0 = 0 then (B_Mo_convert_72 s0) else (B_Mo_convert_63 s0))
def B_Mo_convert_57 (s0 : S_Mo) : Option (Int32 × S_Mo) :=
  (B_Mo_convert_58 s0 (0 : Int32))
def B_Mo_convert_53 (s0 : S_Mo) : Option (Int32 × S_Mo) :=
  (B_Mo_convert_58 s0 (1 : Int32))
def B_Mo_convert_44 (s0 : S_Mo) (x2 : Int32) : Option (Int32 × S_Mo) :=
  ((F_Mo_canonical s0 (0 : Int32) x2).bind fun o1 => (if o1.1 = 0 then (B_Mo_convert_57 o1.2) else (B_Mo_convert_53 o1.2)))
def B_Mo_convert_36 (s0 : S_Mo) (x1 : Int32) (x2 : Int32) : Option (Int32 × S_Mo) :=
  ((F_Mo_readDraft s0 x1).bind fun o1 => (if o1.1 = 0 then (B_Mo_convert_57 o1.2) else (B_Mo_convert_44 o1.2 x2)))
def B_Mo_convert_34 (s0 : S_Mo) : Option (Int32 × S_Mo) :=
  some ((0 : Int32), s0)
def B_Mo_convert_24 (s0 : S_Mo) (x1 : Int32) (x2 : Int32) (y0 : Int32) : Option (Int32 × S_Mo) :=
  (if (Mo_code (Mo_set_code s0 y0)) ≤ 0 then (B_Mo_convert_36 (Mo_set_code s0 y0) x1 x2) else (B_Mo_convert_34 (Mo_set_code s0 y0)))
def B_Mo_convert_23 (s0 : S_Mo) (x1 : Int32) (x2 : Int32) : Option (Int32 × S_Mo) :=
  (B_Mo_convert_24 s0 x1 x2 (1 : Int32))
def B_Mo_convert_19 (s0 : S_Mo) (x1 : Int32) (x2 : Int32) : Option (Int32 × S_Mo) :=
  (B_Mo_convert_24 s0 x1 x2 (0 : Int32))
def B_Mo_convert_10 (s0 : S_Mo) (x1 : Int32) (x2 : Int32) : Option (Int32 × S_Mo) :=
  ((F_Mo_in x2 (0 : Int32) (1 : Int32)).bind fun o1 => (if o1 = 0 then (B_Mo_convert_23 s0 x1 x2) else (B_Mo_convert_19 s0 x1 x2)))
def B_Mo_convert_0 (s0 : S_Mo) (x1 : Int32) (x2 : Int32) : Option (Int32 × S_Mo) :=
  ((F_Mo_in x1 (0 : Int32) (1 : Int32)).bind fun o1 => (if o1 = 0 then (B_Mo_convert_23 s0 x1 x2) else (B_Mo_convert_10 s0 x1 x2)))
def F_Mo_convert (s0 : S_Mo) (x1 : Int32) (x2 : Int32) : Option (Int32 × S_Mo) := B_Mo_convert_0 s0 x1 x2
set_option maxRecDepth 100000 in
set_option maxHeartbeats 4000000 in
theorem t_Mo_convert_72 {p : Program} {l : Launch} {e : Env} {s : State} {m : MethodId} {args : Array Value} {below : List Frame} {meth : Method} {c : Code} {D : va_G} {A : Nat → Prop} {g : Nat → ClassId} {rest : va_W} {a0 : Nat → Nat} {ls : Array Slot} {H : Heap} {locs : List Loc} {s0 : S_Mo} {out : Int32 × S_Mo} (X : Cx p s m args meth c prog_11_method_23_code 5 ws_Mo_convert R_Mo (some .int) D g) (hl : lv_has ls 5 [(0, .ref (a0 0))]) (hI : Iw D A (w_Mo g a0 s0 ++ (rest)) H) (hS : va_S A s.heap H locs) (h : B_Mo_convert_72  s0 = some out) : W p l e (headSpec ws_Mo_convert { frames := 6, cells := 0, slots := 0, locals := 150 }).room s m args below meth c H locs 0 0 (MQ below (QcI D A g out.1 (fun (_ : Unit) => w_Mo g a0 out.2 ++ (rest))) args s 0 0 A) (F0 m 72 ls []) := by
  have X1 := X
  obtain ⟨hx, hb, hml, hown, hts, hr, hlocks, hKK⟩ := X1
  have ht : ∀ w ∈ TB, w.before args s = true := fun w h => hts w (List.mem_cons_of_mem _ h)
  have hK := hKK.1
  unfold B_Mo_convert_72 at h
  refine lv_aload_n hx hb d_Mo_convert_72 rfl (lv_at hl 0 rfl) ?_
  refine lv_iconst (v := 2) hx hb d_Mo_convert_73 (by decide) ?_
  obtain ⟨o1, ho2, h⟩ := bd_s h
  refine cl_i (W1 := fun (_ : Unit) => w_Mo g a0 o1.2 ++ (rest)) (va_runV (As := [.int (2 : Int32)]) (rest := []) ⟨hx, hb, hml, hown, ht⟩ (c_Mo_fails (l := l) (D := D) (A := A) (g := g) (rest := rest) (a0 := a0) ho2) (cwV 1 ht (gd_V m_1052 m_1054 mp_51 m_11 m_1055) rfl rfl rfl (by decide +kernel) ⟨(Nat.le_of_ble_eq_true rfl), (Nat.le_of_ble_eq_true rfl)⟩) (prV (ci := 9) (q0 := 0) hKK hI (List.Perm.refl _) rfl rfl rfl) rfl rfl hl.1 rfl (lv_room (Nat.le_of_ble_eq_true rfl)) d_Mo_convert_74 ⟨(Nat.le_of_ble_eq_true rfl), (Nat.le_of_ble_eq_true rfl)⟩) hS (fun _ => ((List.Perm.refl _)).symm) (fun _ H locs hI hS => ?_)
  have hI : Iw D A (w_Mo g a0 o1.2 ++ (rest)) H := hI
  have h9 := Option.some.inj h
  subst h9
  exact W.iret (v := o1.1) hx hb hr (fun t ht hW => ⟨⟨_, (), rfl, rfl, ⟨by rw [ht]; exact hI, hKK.moved hW⟩⟩, hS.F ht⟩) hS.2.2 d_Mo_convert_77
set_option maxRecDepth 100000 in
set_option maxHeartbeats 4000000 in
theorem t_Mo_convert_110 {p : Program} {l : Launch} {e : Env} {s : State} {m : MethodId} {args : Array Value} {below : List Frame} {meth : Method} {c : Code} {D : va_G} {A : Nat → Prop} {g : Nat → ClassId} {rest : va_W} {a0 : Nat → Nat} {ls : Array Slot} {H : Heap} {locs : List Loc} {s0 : S_Mo} {out : Int32 × S_Mo} (X : Cx p s m args meth c prog_11_method_23_code 5 ws_Mo_convert R_Mo (some .int) D g) (hl : lv_has ls 5 [(0, .ref (a0 0))]) (hI : Iw D A (w_Mo g a0 s0 ++ (rest)) H) (hS : va_S A s.heap H locs) (h : B_Mo_convert_110  s0 = some out) : W p l e (headSpec ws_Mo_convert { frames := 6, cells := 0, slots := 0, locals := 150 }).room s m args below meth c H locs 0 0 (MQ below (QcI D A g out.1 (fun (_ : Unit) => w_Mo g a0 out.2 ++ (rest))) args s 0 0 A) (F0 m 110 ls []) := by
  have X1 := X
  obtain ⟨hx, hb, hml, hown, hts, hr, hlocks, hKK⟩ := X1
  have ht : ∀ w ∈ TB, w.before args s = true := fun w h => hts w (List.mem_cons_of_mem _ h)
  have hK := hKK.1
  unfold B_Mo_convert_110 at h
  refine lv_aload_n hx hb d_Mo_convert_110 rfl (lv_at hl 0 rfl) ?_
  refine lv_aload_n hx hb d_Mo_convert_111 rfl (lv_at hl 0 rfl) ?_
  refine gt_Mo_makes hx hb ht hown hK hI (ht _ m_843) d_Mo_convert_112 ?_
  refine pt_Mo_drafted hx hb ht hown hK hI hS (ht _ m_819) d_Mo_convert_115 (fun H locs hI hS => ?_)
  refine lv_aload_n hx hb d_Mo_convert_118 rfl (lv_at hl 0 rfl) ?_
  refine gt_Mo_drafted hx hb ht hown hK hI (ht _ m_819) d_Mo_convert_119 ?_
  have h9 := Option.some.inj h
  subst h9
  exact W.iret (v := (Mo_drafted (Mo_set_drafted s0 (Mo_makes s0)))) hx hb hr (fun t ht hW => ⟨⟨_, (), rfl, rfl, ⟨by rw [ht]; exact hI, hKK.moved hW⟩⟩, hS.F ht⟩) hS.2.2 d_Mo_convert_122
set_option maxRecDepth 100000 in
set_option maxHeartbeats 4000000 in
theorem t_Mo_convert_90 {p : Program} {l : Launch} {e : Env} {s : State} {m : MethodId} {args : Array Value} {below : List Frame} {meth : Method} {c : Code} {D : va_G} {A : Nat → Prop} {g : Nat → ClassId} {rest : va_W} {a0 : Nat → Nat} {ls : Array Slot} {H : Heap} {locs : List Loc} {k81 : S_Mo × Int32 → Option (Int32 × S_Mo)} {s0 : S_Mo} {x4 : Int32} {out : Int32 × S_Mo} (X : Cx p s m args meth c prog_11_method_23_code 5 ws_Mo_convert R_Mo (some .int) D g) (hk81 : ∀ (v : S_Mo × Int32) (ls : Array Slot) (H : Heap) (locs : List Loc), lv_has ls 5 [(0, .ref (a0 0)), (4, .int v.2)] → Iw D A (w_Mo g a0 v.1 ++ (rest)) H → va_S A s.heap H locs → k81 v = some out → W p l e (headSpec ws_Mo_convert { frames := 6, cells := 0, slots := 0, locals := 150 }).room s m args below meth c H locs 0 0 (MQ below (QcI D A g out.1 (fun (_ : Unit) => w_Mo g a0 out.2 ++ (rest))) args s 0 0 A) (F0 m 81 ls [])) (hl : lv_has ls 5 [(0, .ref (a0 0)), (4, .int x4)]) (hI : Iw D A (w_Mo g a0 s0 ++ (rest)) H) (hS : va_S A s.heap H locs) (h : B_Mo_convert_90 k81 s0 x4 = some out) : W p l e (headSpec ws_Mo_convert { frames := 6, cells := 0, slots := 0, locals := 150 }).room s m args below meth c H locs 0 0 (MQ below (QcI D A g out.1 (fun (_ : Unit) => w_Mo g a0 out.2 ++ (rest))) args s 0 0 A) (F0 m 90 ls []) := by
  have X1 := X
  obtain ⟨hx, hb, hml, hown, hts, hr, hlocks, hKK⟩ := X1
  have ht : ∀ w ∈ TB, w.before args s = true := fun w h => hts w (List.mem_cons_of_mem _ h)
  have hK := hKK.1
  unfold B_Mo_convert_90 at h
  refine lv_aload_n hx hb d_Mo_convert_90 rfl (lv_at hl 0 rfl) ?_
  refine gt_Mo_draft hx hb ht hown hK hI (ht _ m_818) d_Mo_convert_91 ?_
  refine lv_iload hx hb d_Mo_convert_94 (lv_at hl 1 rfl) ?_
  refine lv_aload_n hx hb d_Mo_convert_96 rfl (lv_at hl 0 rfl) ?_
  refine gt_Mo_made hx hb ht hown hK hI (ht _ m_842) d_Mo_convert_97 ?_
  refine lv_iload hx hb d_Mo_convert_100 (lv_at hl 1 rfl) ?_
  by_cases hc1 : (x4 < 0 ∨ 1000 ≤ x4.toNatClampNeg)
  · exact no_s (it_t h hc1)
  have h := it_f h hc1
  refine al_Mo_made hx hb hK hI hc1 d_Mo_convert_102 ?_
  by_cases hc2 : (x4 < 0 ∨ 120 ≤ x4.toNatClampNeg)
  · exact no_s (it_t h hc2)
  have h := it_f h hc2
  refine as_Mo_draft hx hb hK hI hS hc2 d_Mo_convert_103 (fun H locs hI hS => ?_)
  refine lv_iinc (k := 1) (v := (x4 + 1)) hx hb d_Mo_convert_104 hl rfl (congrArg (fun z => x4 + z) (by decide)) (Nat.le_of_ble_eq_true rfl) rfl (fun ls hl => ?_)
  have hl : lv_has ls 5 [(4, .int (x4 + 1)), (0, .ref (a0 0))] := hl
  refine lv_goto (tgt := 81) hx hb d_Mo_convert_107 (by decide) ?_
  exact hk81 ((Mo_set_draft s0 (upd (Mo_draft s0) x4.toNatClampNeg ((Mo_made s0) x4.toNatClampNeg))), (x4 + 1)) _ _ _ (lv_sub hl [1, 0] rfl) hI hS h
set_option maxRecDepth 100000 in
set_option maxHeartbeats 4000000 in
theorem t_Mo_convert_81 {p : Program} {l : Launch} {e : Env} {s : State} {m : MethodId} {args : Array Value} {below : List Frame} {meth : Method} {c : Code} {D : va_G} {A : Nat → Prop} {g : Nat → ClassId} {rest : va_W} {a0 : Nat → Nat} {ls : Array Slot} {H : Heap} {locs : List Loc} {k81 : S_Mo × Int32 → Option (Int32 × S_Mo)} {s0 : S_Mo} {x4 : Int32} {out : Int32 × S_Mo} (X : Cx p s m args meth c prog_11_method_23_code 5 ws_Mo_convert R_Mo (some .int) D g) (hk81 : ∀ (v : S_Mo × Int32) (ls : Array Slot) (H : Heap) (locs : List Loc), lv_has ls 5 [(0, .ref (a0 0)), (4, .int v.2)] → Iw D A (w_Mo g a0 v.1 ++ (rest)) H → va_S A s.heap H locs → k81 v = some out → W p l e (headSpec ws_Mo_convert { frames := 6, cells := 0, slots := 0, locals := 150 }).room s m args below meth c H locs 0 0 (MQ below (QcI D A g out.1 (fun (_ : Unit) => w_Mo g a0 out.2 ++ (rest))) args s 0 0 A) (F0 m 81 ls [])) (hl : lv_has ls 5 [(0, .ref (a0 0)), (4, .int x4)]) (hI : Iw D A (w_Mo g a0 s0 ++ (rest)) H) (hS : va_S A s.heap H locs) (h : B_Mo_convert_81 k81 s0 x4 = some out) : W p l e (headSpec ws_Mo_convert { frames := 6, cells := 0, slots := 0, locals := 150 }).room s m args below meth c H locs 0 0 (MQ below (QcI D A g out.1 (fun (_ : Unit) => w_Mo g a0 out.2 ++ (rest))) args s 0 0 A) (F0 m 81 ls []) := by
  have X1 := X
  obtain ⟨hx, hb, hml, hown, hts, hr, hlocks, hKK⟩ := X1
  have ht : ∀ w ∈ TB, w.before args s = true := fun w h => hts w (List.mem_cons_of_mem _ h)
  have hK := hKK.1
  unfold B_Mo_convert_81 at h
  refine lv_iload hx hb d_Mo_convert_81 (lv_at hl 1 rfl) ?_
  refine lv_aload_n hx hb d_Mo_convert_83 rfl (lv_at hl 0 rfl) ?_
  refine gt_Mo_makes hx hb ht hown hK hI (ht _ m_843) d_Mo_convert_84 ?_
  refine lv_icmp_ge (tgt := 110) hx hb d_Mo_convert_87 (by decide) (fun hc => ?_) (fun hc => ?_)
  · have h := it_t h hc
    exact t_Mo_convert_110 X (lv_sub hl [0] rfl) hI hS h
  · have h := it_f h hc
    exact t_Mo_convert_90 X hk81 (lv_sub hl [0, 1] rfl) hI hS h
set_option maxRecDepth 100000 in
set_option maxHeartbeats 4000000 in
theorem T_Mo_convert_81 {p : Program} {l : Launch} {e : Env} {s : State} {m : MethodId} {args : Array Value} {below : List Frame} {meth : Method} {c : Code} {D : va_G} {A : Nat → Prop} {g : Nat → ClassId} {rest : va_W} {a0 : Nat → Nat} {ls : Array Slot} {H : Heap} {locs : List Loc} {s0 : S_Mo} {x4 : Int32} {out : Int32 × S_Mo} (X : Cx p s m args meth c prog_11_method_23_code 5 ws_Mo_convert R_Mo (some .int) D g) (hl : lv_has ls 5 [(0, .ref (a0 0)), (4, .int x4)]) (hI : Iw D A (w_Mo g a0 s0 ++ (rest)) H) (hS : va_S A s.heap H locs) (h : L_Mo_convert_81   (s0, x4) = some out) : W p l e (headSpec ws_Mo_convert { frames := 6, cells := 0, slots := 0, locals := 150 }).room s m args below meth c H locs 0 0 (MQ below (QcI D A g out.1 (fun (_ : Unit) => w_Mo g a0 out.2 ++ (rest))) args s 0 0 A) (F0 m 81 ls []) := by
  unfold L_Mo_convert_81 at h
  exact lp_ind (P := fun v => ∀ (ls : Array Slot) (H : Heap) (locs : List Loc), lv_has ls 5 [(0, .ref (a0 0)), (4, .int v.2)] → Iw D A (w_Mo g a0 v.1 ++ (rest)) H → va_S A s.heap H locs → W p l e (headSpec ws_Mo_convert { frames := 6, cells := 0, slots := 0, locals := 150 }).room s m args below meth c H locs 0 0 (MQ below (QcI D A g out.1 (fun (_ : Unit) => w_Mo g a0 out.2 ++ (rest))) args s 0 0 A) (F0 m 81 ls [])) (fun k v ih hb ls H locs  hl hI hS => t_Mo_convert_81 X  (fun v' ls H locs  hl hI hS h' => ih v' h' ls H locs  hl hI hS) hl hI hS hb) FU _ h ls H locs  hl hI hS
set_option maxRecDepth 100000 in
set_option maxHeartbeats 4000000 in
theorem t_Mo_convert_78 {p : Program} {l : Launch} {e : Env} {s : State} {m : MethodId} {args : Array Value} {below : List Frame} {meth : Method} {c : Code} {D : va_G} {A : Nat → Prop} {g : Nat → ClassId} {rest : va_W} {a0 : Nat → Nat} {ls : Array Slot} {H : Heap} {locs : List Loc} {s0 : S_Mo} {out : Int32 × S_Mo} (X : Cx p s m args meth c prog_11_method_23_code 5 ws_Mo_convert R_Mo (some .int) D g) (hl : lv_has ls 5 [(0, .ref (a0 0))]) (hI : Iw D A (w_Mo g a0 s0 ++ (rest)) H) (hS : va_S A s.heap H locs) (h : B_Mo_convert_78  s0 = some out) : W p l e (headSpec ws_Mo_convert { frames := 6, cells := 0, slots := 0, locals := 150 }).room s m args below meth c H locs 0 0 (MQ below (QcI D A g out.1 (fun (_ : Unit) => w_Mo g a0 out.2 ++ (rest))) args s 0 0 A) (F0 m 78 ls []) := by
  have X1 := X
  obtain ⟨hx, hb, hml, hown, hts, hr, hlocks, hKK⟩ := X1
  have ht : ∀ w ∈ TB, w.before args s = true := fun w h => hts w (List.mem_cons_of_mem _ h)
  have hK := hKK.1
  unfold B_Mo_convert_78 at h
  refine lv_iconst (v := 0) hx hb d_Mo_convert_78 (by decide) ?_
  refine lv_istore hx hb d_Mo_convert_79 hl (Nat.le_of_ble_eq_true rfl) rfl (fun ls hl => ?_)
  have hl : lv_has ls 5 [(4, .int (0 : Int32)), (0, .ref (a0 0))] := hl
  exact T_Mo_convert_81 X (lv_sub hl [1, 0] rfl) hI hS h
set_option maxRecDepth 100000 in
set_option maxHeartbeats 4000000 in
theorem t_Mo_convert_63 {p : Program} {l : Launch} {e : Env} {s : State} {m : MethodId} {args : Array Value} {below : List Frame} {meth : Method} {c : Code} {D : va_G} {A : Nat → Prop} {g : Nat → ClassId} {rest : va_W} {a0 : Nat → Nat} {ls : Array Slot} {H : Heap} {locs : List Loc} {s0 : S_Mo} {out : Int32 × S_Mo} (X : Cx p s m args meth c prog_11_method_23_code 5 ws_Mo_convert R_Mo (some .int) D g) (hl : lv_has ls 5 [(0, .ref (a0 0))]) (hI : Iw D A (w_Mo g a0 s0 ++ (rest)) H) (hS : va_S A s.heap H locs) (h : B_Mo_convert_63  s0 = some out) : W p l e (headSpec ws_Mo_convert { frames := 6, cells := 0, slots := 0, locals := 150 }).room s m args below meth c H locs 0 0 (MQ below (QcI D A g out.1 (fun (_ : Unit) => w_Mo g a0 out.2 ++ (rest))) args s 0 0 A) (F0 m 63 ls []) := by
  have X1 := X
  obtain ⟨hx, hb, hml, hown, hts, hr, hlocks, hKK⟩ := X1
  have ht : ∀ w ∈ TB, w.before args s = true := fun w h => hts w (List.mem_cons_of_mem _ h)
  have hK := hKK.1
  unfold B_Mo_convert_63 at h
  refine lv_aload_n hx hb d_Mo_convert_63 rfl (lv_at hl 0 rfl) ?_
  refine gt_Mo_makes hx hb ht hown hK hI (ht _ m_843) d_Mo_convert_64 ?_
  refine lv_bipush (v := 120) hx hb d_Mo_convert_67 (by decide) ?_
  refine lv_icmp_le (tgt := 78) hx hb d_Mo_convert_69 (by decide) (fun hc => ?_) (fun hc => ?_)
  · have h := it_t h hc
    exact t_Mo_convert_78 X (lv_sub hl [0] rfl) hI hS h
  · have h := it_f h hc
    exact t_Mo_convert_72 X (lv_sub hl [0] rfl) hI hS h
set_option maxRecDepth 100000 in
set_option maxHeartbeats 4000000 in
theorem t_Mo_convert_58 {p : Program} {l : Launch} {e : Env} {s : State} {m : MethodId} {args : Array Value} {below : List Frame} {meth : Method} {c : Code} {D : va_G} {A : Nat → Prop} {g : Nat → ClassId} {rest : va_W} {a0 : Nat → Nat} {ls : Array Slot} {H : Heap} {locs : List Loc} {s0 : S_Mo} {y0 : Int32} {out : Int32 × S_Mo} (X : Cx p s m args meth c prog_11_method_23_code 5 ws_Mo_convert R_Mo (some .int) D g) (hl : lv_has ls 5 [(0, .ref (a0 0))]) (hI : Iw D A (w_Mo g a0 s0 ++ (rest)) H) (hS : va_S A s.heap H locs) (h : B_Mo_convert_58  s0 y0 = some out) : W p l e (headSpec ws_Mo_convert { frames := 6, cells := 0, slots := 0, locals := 150 }).room s m args below meth c H locs 0 0 (MQ below (QcI D A g out.1 (fun (_ : Unit) => w_Mo g a0 out.2 ++ (rest))) args s 0 0 A) (F0 m 58 ls [.int y0]) := by
  have X1 := X
  obtain ⟨hx, hb, hml, hown, hts, hr, hlocks, hKK⟩ := X1
  have ht : ∀ w ∈ TB, w.before args s = true := fun w h => hts w (List.mem_cons_of_mem _ h)
  have hK := hKK.1
  unfold B_Mo_convert_58 at h
  refine lv_istore_n hx hb d_Mo_convert_58 rfl hl (Nat.le_of_ble_eq_true rfl) rfl (fun ls hl => ?_)
  have hl : lv_has ls 5 [(3, .int y0), (0, .ref (a0 0))] := hl
  refine lv_iload_n hx hb d_Mo_convert_59 rfl (lv_at hl 0 rfl) ?_
  refine lv_if_eq (tgt := 72) hx hb d_Mo_convert_60 (by decide) (fun hc => ?_) (fun hc => ?_)
  · have h := it_t h hc
    exact t_Mo_convert_72 X (lv_sub hl [1] rfl) hI hS h
  · have h := it_f h hc
    exact t_Mo_convert_63 X (lv_sub hl [1] rfl) hI hS h
set_option maxRecDepth 100000 in
set_option maxHeartbeats 4000000 in
theorem t_Mo_convert_57 {p : Program} {l : Launch} {e : Env} {s : State} {m : MethodId} {args : Array Value} {below : List Frame} {meth : Method} {c : Code} {D : va_G} {A : Nat → Prop} {g : Nat → ClassId} {rest : va_W} {a0 : Nat → Nat} {ls : Array Slot} {H : Heap} {locs : List Loc} {s0 : S_Mo} {out : Int32 × S_Mo} (X : Cx p s m args meth c prog_11_method_23_code 5 ws_Mo_convert R_Mo (some .int) D g) (hl : lv_has ls 5 [(0, .ref (a0 0))]) (hI : Iw D A (w_Mo g a0 s0 ++ (rest)) H) (hS : va_S A s.heap H locs) (h : B_Mo_convert_57  s0 = some out) : W p l e (headSpec ws_Mo_convert { frames := 6, cells := 0, slots := 0, locals := 150 }).room s m args below meth c H locs 0 0 (MQ below (QcI D A g out.1 (fun (_ : Unit) => w_Mo g a0 out.2 ++ (rest))) args s 0 0 A) (F0 m 57 ls []) := by
  have X1 := X
  obtain ⟨hx, hb, hml, hown, hts, hr, hlocks, hKK⟩ := X1
  have ht : ∀ w ∈ TB, w.before args s = true := fun w h => hts w (List.mem_cons_of_mem _ h)
  have hK := hKK.1
  unfold B_Mo_convert_57 at h
  refine lv_iconst (v := 0) hx hb d_Mo_convert_57 (by decide) ?_
  exact t_Mo_convert_58 X (lv_sub hl [0] rfl) hI hS h
set_option maxRecDepth 100000 in
set_option maxHeartbeats 4000000 in
theorem t_Mo_convert_53 {p : Program} {l : Launch} {e : Env} {s : State} {m : MethodId} {args : Array Value} {below : List Frame} {meth : Method} {c : Code} {D : va_G} {A : Nat → Prop} {g : Nat → ClassId} {rest : va_W} {a0 : Nat → Nat} {ls : Array Slot} {H : Heap} {locs : List Loc} {s0 : S_Mo} {out : Int32 × S_Mo} (X : Cx p s m args meth c prog_11_method_23_code 5 ws_Mo_convert R_Mo (some .int) D g) (hl : lv_has ls 5 [(0, .ref (a0 0))]) (hI : Iw D A (w_Mo g a0 s0 ++ (rest)) H) (hS : va_S A s.heap H locs) (h : B_Mo_convert_53  s0 = some out) : W p l e (headSpec ws_Mo_convert { frames := 6, cells := 0, slots := 0, locals := 150 }).room s m args below meth c H locs 0 0 (MQ below (QcI D A g out.1 (fun (_ : Unit) => w_Mo g a0 out.2 ++ (rest))) args s 0 0 A) (F0 m 53 ls []) := by
  have X1 := X
  obtain ⟨hx, hb, hml, hown, hts, hr, hlocks, hKK⟩ := X1
  have ht : ∀ w ∈ TB, w.before args s = true := fun w h => hts w (List.mem_cons_of_mem _ h)
  have hK := hKK.1
  unfold B_Mo_convert_53 at h
  refine lv_iconst (v := 1) hx hb d_Mo_convert_53 (by decide) ?_
  refine lv_goto (tgt := 58) hx hb d_Mo_convert_54 (by decide) ?_
  exact t_Mo_convert_58 X (lv_sub hl [0] rfl) hI hS h
set_option maxRecDepth 100000 in
set_option maxHeartbeats 4000000 in
theorem t_Mo_convert_44 {p : Program} {l : Launch} {e : Env} {s : State} {m : MethodId} {args : Array Value} {below : List Frame} {meth : Method} {c : Code} {D : va_G} {A : Nat → Prop} {g : Nat → ClassId} {rest : va_W} {a0 : Nat → Nat} {ls : Array Slot} {H : Heap} {locs : List Loc} {s0 : S_Mo} {x2 : Int32} {out : Int32 × S_Mo} (X : Cx p s m args meth c prog_11_method_23_code 5 ws_Mo_convert R_Mo (some .int) D g) (hl : lv_has ls 5 [(0, .ref (a0 0)), (2, .int x2)]) (hI : Iw D A (w_Mo g a0 s0 ++ (rest)) H) (hS : va_S A s.heap H locs) (h : B_Mo_convert_44  s0 x2 = some out) : W p l e (headSpec ws_Mo_convert { frames := 6, cells := 0, slots := 0, locals := 150 }).room s m args below meth c H locs 0 0 (MQ below (QcI D A g out.1 (fun (_ : Unit) => w_Mo g a0 out.2 ++ (rest))) args s 0 0 A) (F0 m 44 ls []) := by
  have X1 := X
  obtain ⟨hx, hb, hml, hown, hts, hr, hlocks, hKK⟩ := X1
  have ht : ∀ w ∈ TB, w.before args s = true := fun w h => hts w (List.mem_cons_of_mem _ h)
  have hK := hKK.1
  unfold B_Mo_convert_44 at h
  refine lv_aload_n hx hb d_Mo_convert_44 rfl (lv_at hl 0 rfl) ?_
  refine lv_iconst (v := 0) hx hb d_Mo_convert_45 (by decide) ?_
  refine lv_iload_n hx hb d_Mo_convert_46 rfl (lv_at hl 1 rfl) ?_
  obtain ⟨o1, ho2, h⟩ := bd_s h
  refine cl_i (W1 := fun (_ : Unit) => w_Mo g a0 o1.2 ++ (rest)) (va_runV (As := [.int (0 : Int32), .int x2]) (rest := []) ⟨hx, hb, hml, hown, ht⟩ (c_Mo_canonical (l := l) (D := D) (A := A) (g := g) (rest := rest) (a0 := a0) ho2) (cwV 2 ht (gd_V m_1031 m_1033 mp_47 m_11 m_1034) rfl rfl rfl (by decide +kernel) ⟨(Nat.le_of_ble_eq_true rfl), (Nat.le_of_ble_eq_true rfl)⟩) (prV (ci := 9) (q0 := 0) hKK hI (List.Perm.refl _) rfl rfl rfl) rfl rfl hl.1 rfl (lv_room (Nat.le_of_ble_eq_true rfl)) d_Mo_convert_47 ⟨(Nat.le_of_ble_eq_true rfl), (Nat.le_of_ble_eq_true rfl)⟩) hS (fun _ => ((List.Perm.refl _)).symm) (fun _ H locs hI hS => ?_)
  have hI : Iw D A (w_Mo g a0 o1.2 ++ (rest)) H := hI
  refine lv_if_eq (tgt := 57) hx hb d_Mo_convert_50 (by decide) (fun hc => ?_) (fun hc => ?_)
  · have h := it_t h hc
    exact t_Mo_convert_57 X (lv_sub hl [0] rfl) hI hS h
  · have h := it_f h hc
    exact t_Mo_convert_53 X (lv_sub hl [0] rfl) hI hS h
set_option maxRecDepth 100000 in
set_option maxHeartbeats 4000000 in
theorem t_Mo_convert_36 {p : Program} {l : Launch} {e : Env} {s : State} {m : MethodId} {args : Array Value} {below : List Frame} {meth : Method} {c : Code} {D : va_G} {A : Nat → Prop} {g : Nat → ClassId} {rest : va_W} {a0 : Nat → Nat} {ls : Array Slot} {H : Heap} {locs : List Loc} {s0 : S_Mo} {x1 : Int32} {x2 : Int32} {out : Int32 × S_Mo} (X : Cx p s m args meth c prog_11_method_23_code 5 ws_Mo_convert R_Mo (some .int) D g) (hl : lv_has ls 5 [(0, .ref (a0 0)), (1, .int x1), (2, .int x2)]) (hI : Iw D A (w_Mo g a0 s0 ++ (rest)) H) (hS : va_S A s.heap H locs) (h : B_Mo_convert_36  s0 x1 x2 = some out) : W p l e (headSpec ws_Mo_convert { frames := 6, cells := 0, slots := 0, locals := 150 }).room s m args below meth c H locs 0 0 (MQ below (QcI D A g out.1 (fun (_ : Unit) => w_Mo g a0 out.2 ++ (rest))) args s 0 0 A) (F0 m 36 ls []) := by
  have X1 := X
  obtain ⟨hx, hb, hml, hown, hts, hr, hlocks, hKK⟩ := X1
  have ht : ∀ w ∈ TB, w.before args s = true := fun w h => hts w (List.mem_cons_of_mem _ h)
  have hK := hKK.1
  unfold B_Mo_convert_36 at h
  refine lv_aload_n hx hb d_Mo_convert_36 rfl (lv_at hl 0 rfl) ?_
  refine lv_iload_n hx hb d_Mo_convert_37 rfl (lv_at hl 1 rfl) ?_
  obtain ⟨o1, ho2, h⟩ := bd_s h
  refine cl_i (W1 := fun (_ : Unit) => w_Mo g a0 o1.2 ++ (rest)) (va_runV (As := [.int x1]) (rest := []) ⟨hx, hb, hml, hown, ht⟩ (c_Mo_readDraft (l := l) (D := D) (A := A) (g := g) (rest := rest) (a0 := a0) ho2) (cwV 1 ht (gd_V m_987 m_989 mp_37 m_11 m_990) rfl rfl rfl (by decide +kernel) ⟨(Nat.le_of_ble_eq_true rfl), (Nat.le_of_ble_eq_true rfl)⟩) (prV (ci := 9) (q0 := 0) hKK hI (List.Perm.refl _) rfl rfl rfl) rfl rfl hl.1 rfl (lv_room (Nat.le_of_ble_eq_true rfl)) d_Mo_convert_38 ⟨(Nat.le_of_ble_eq_true rfl), (Nat.le_of_ble_eq_true rfl)⟩) hS (fun _ => ((List.Perm.refl _)).symm) (fun _ H locs hI hS => ?_)
  have hI : Iw D A (w_Mo g a0 o1.2 ++ (rest)) H := hI
  refine lv_if_eq (tgt := 57) hx hb d_Mo_convert_41 (by decide) (fun hc => ?_) (fun hc => ?_)
  · have h := it_t h hc
    exact t_Mo_convert_57 X (lv_sub hl [0] rfl) hI hS h
  · have h := it_f h hc
    exact t_Mo_convert_44 X (lv_sub hl [0, 2] rfl) hI hS h
set_option maxRecDepth 100000 in
set_option maxHeartbeats 4000000 in
theorem t_Mo_convert_34 {p : Program} {l : Launch} {e : Env} {s : State} {m : MethodId} {args : Array Value} {below : List Frame} {meth : Method} {c : Code} {D : va_G} {A : Nat → Prop} {g : Nat → ClassId} {rest : va_W} {a0 : Nat → Nat} {ls : Array Slot} {H : Heap} {locs : List Loc} {s0 : S_Mo} {out : Int32 × S_Mo} (X : Cx p s m args meth c prog_11_method_23_code 5 ws_Mo_convert R_Mo (some .int) D g) (hl : lv_has ls 5 []) (hI : Iw D A (w_Mo g a0 s0 ++ (rest)) H) (hS : va_S A s.heap H locs) (h : B_Mo_convert_34  s0 = some out) : W p l e (headSpec ws_Mo_convert { frames := 6, cells := 0, slots := 0, locals := 150 }).room s m args below meth c H locs 0 0 (MQ below (QcI D A g out.1 (fun (_ : Unit) => w_Mo g a0 out.2 ++ (rest))) args s 0 0 A) (F0 m 34 ls []) := by
  have X1 := X
  obtain ⟨hx, hb, hml, hown, hts, hr, hlocks, hKK⟩ := X1
  have ht : ∀ w ∈ TB, w.before args s = true := fun w h => hts w (List.mem_cons_of_mem _ h)
  have hK := hKK.1
  unfold B_Mo_convert_34 at h
  refine lv_iconst (v := 0) hx hb d_Mo_convert_34 (by decide) ?_
  have h9 := Option.some.inj h
  subst h9
  exact W.iret (v := (0 : Int32)) hx hb hr (fun t ht hW => ⟨⟨_, (), rfl, rfl, ⟨by rw [ht]; exact hI, hKK.moved hW⟩⟩, hS.F ht⟩) hS.2.2 d_Mo_convert_35
set_option maxRecDepth 100000 in
set_option maxHeartbeats 4000000 in
theorem t_Mo_convert_24 {p : Program} {l : Launch} {e : Env} {s : State} {m : MethodId} {args : Array Value} {below : List Frame} {meth : Method} {c : Code} {D : va_G} {A : Nat → Prop} {g : Nat → ClassId} {rest : va_W} {a0 : Nat → Nat} {ls : Array Slot} {H : Heap} {locs : List Loc} {s0 : S_Mo} {x1 : Int32} {x2 : Int32} {y0 : Int32} {out : Int32 × S_Mo} (X : Cx p s m args meth c prog_11_method_23_code 5 ws_Mo_convert R_Mo (some .int) D g) (hl : lv_has ls 5 [(0, .ref (a0 0)), (1, .int x1), (2, .int x2)]) (hI : Iw D A (w_Mo g a0 s0 ++ (rest)) H) (hS : va_S A s.heap H locs) (h : B_Mo_convert_24  s0 x1 x2 y0 = some out) : W p l e (headSpec ws_Mo_convert { frames := 6, cells := 0, slots := 0, locals := 150 }).room s m args below meth c H locs 0 0 (MQ below (QcI D A g out.1 (fun (_ : Unit) => w_Mo g a0 out.2 ++ (rest))) args s 0 0 A) (F0 m 24 ls [.int y0, .ref (a0 0)]) := by
  have X1 := X
  obtain ⟨hx, hb, hml, hown, hts, hr, hlocks, hKK⟩ := X1
  have ht : ∀ w ∈ TB, w.before args s = true := fun w h => hts w (List.mem_cons_of_mem _ h)
  have hK := hKK.1
  unfold B_Mo_convert_24 at h
  refine pt_Mo_code hx hb ht hown hK hI hS (ht _ m_817) d_Mo_convert_24 (fun H locs hI hS => ?_)
  refine lv_aload_n hx hb d_Mo_convert_27 rfl (lv_at hl 0 rfl) ?_
  refine gt_Mo_code hx hb ht hown hK hI (ht _ m_817) d_Mo_convert_28 ?_
  refine lv_if_le (tgt := 36) hx hb d_Mo_convert_31 (by decide) (fun hc => ?_) (fun hc => ?_)
  · have h := it_t h hc
    exact t_Mo_convert_36 X (lv_sub hl [0, 1, 2] rfl) hI hS h
  · have h := it_f h hc
    exact t_Mo_convert_34 X (lv_sub hl [] rfl) hI hS h
set_option maxRecDepth 100000 in
set_option maxHeartbeats 4000000 in
theorem t_Mo_convert_23 {p : Program} {l : Launch} {e : Env} {s : State} {m : MethodId} {args : Array Value} {below : List Frame} {meth : Method} {c : Code} {D : va_G} {A : Nat → Prop} {g : Nat → ClassId} {rest : va_W} {a0 : Nat → Nat} {ls : Array Slot} {H : Heap} {locs : List Loc} {s0 : S_Mo} {x1 : Int32} {x2 : Int32} {out : Int32 × S_Mo} (X : Cx p s m args meth c prog_11_method_23_code 5 ws_Mo_convert R_Mo (some .int) D g) (hl : lv_has ls 5 [(0, .ref (a0 0)), (1, .int x1), (2, .int x2)]) (hI : Iw D A (w_Mo g a0 s0 ++ (rest)) H) (hS : va_S A s.heap H locs) (h : B_Mo_convert_23  s0 x1 x2 = some out) : W p l e (headSpec ws_Mo_convert { frames := 6, cells := 0, slots := 0, locals := 150 }).room s m args below meth c H locs 0 0 (MQ below (QcI D A g out.1 (fun (_ : Unit) => w_Mo g a0 out.2 ++ (rest))) args s 0 0 A) (F0 m 23 ls [.ref (a0 0)]) := by
  have X1 := X
  obtain ⟨hx, hb, hml, hown, hts, hr, hlocks, hKK⟩ := X1
  have ht : ∀ w ∈ TB, w.before args s = true := fun w h => hts w (List.mem_cons_of_mem _ h)
  have hK := hKK.1
  unfold B_Mo_convert_23 at h
  refine lv_iconst (v := 1) hx hb d_Mo_convert_23 (by decide) ?_
  exact t_Mo_convert_24 X (lv_sub hl [0, 1, 2] rfl) hI hS h
set_option maxRecDepth 100000 in
set_option maxHeartbeats 4000000 in
theorem t_Mo_convert_19 {p : Program} {l : Launch} {e : Env} {s : State} {m : MethodId} {args : Array Value} {below : List Frame} {meth : Method} {c : Code} {D : va_G} {A : Nat → Prop} {g : Nat → ClassId} {rest : va_W} {a0 : Nat → Nat} {ls : Array Slot} {H : Heap} {locs : List Loc} {s0 : S_Mo} {x1 : Int32} {x2 : Int32} {out : Int32 × S_Mo} (X : Cx p s m args meth c prog_11_method_23_code 5 ws_Mo_convert R_Mo (some .int) D g) (hl : lv_has ls 5 [(0, .ref (a0 0)), (1, .int x1), (2, .int x2)]) (hI : Iw D A (w_Mo g a0 s0 ++ (rest)) H) (hS : va_S A s.heap H locs) (h : B_Mo_convert_19  s0 x1 x2 = some out) : W p l e (headSpec ws_Mo_convert { frames := 6, cells := 0, slots := 0, locals := 150 }).room s m args below meth c H locs 0 0 (MQ below (QcI D A g out.1 (fun (_ : Unit) => w_Mo g a0 out.2 ++ (rest))) args s 0 0 A) (F0 m 19 ls [.ref (a0 0)]) := by
  have X1 := X
  obtain ⟨hx, hb, hml, hown, hts, hr, hlocks, hKK⟩ := X1
  have ht : ∀ w ∈ TB, w.before args s = true := fun w h => hts w (List.mem_cons_of_mem _ h)
  have hK := hKK.1
  unfold B_Mo_convert_19 at h
  refine lv_iconst (v := 0) hx hb d_Mo_convert_19 (by decide) ?_
  refine lv_goto (tgt := 24) hx hb d_Mo_convert_20 (by decide) ?_
  exact t_Mo_convert_24 X (lv_sub hl [0, 1, 2] rfl) hI hS h
set_option maxRecDepth 100000 in
set_option maxHeartbeats 4000000 in
theorem t_Mo_convert_10 {p : Program} {l : Launch} {e : Env} {s : State} {m : MethodId} {args : Array Value} {below : List Frame} {meth : Method} {c : Code} {D : va_G} {A : Nat → Prop} {g : Nat → ClassId} {rest : va_W} {a0 : Nat → Nat} {ls : Array Slot} {H : Heap} {locs : List Loc} {s0 : S_Mo} {x1 : Int32} {x2 : Int32} {out : Int32 × S_Mo} (X : Cx p s m args meth c prog_11_method_23_code 5 ws_Mo_convert R_Mo (some .int) D g) (hl : lv_has ls 5 [(0, .ref (a0 0)), (1, .int x1), (2, .int x2)]) (hI : Iw D A (w_Mo g a0 s0 ++ (rest)) H) (hS : va_S A s.heap H locs) (h : B_Mo_convert_10  s0 x1 x2 = some out) : W p l e (headSpec ws_Mo_convert { frames := 6, cells := 0, slots := 0, locals := 150 }).room s m args below meth c H locs 0 0 (MQ below (QcI D A g out.1 (fun (_ : Unit) => w_Mo g a0 out.2 ++ (rest))) args s 0 0 A) (F0 m 10 ls [.ref (a0 0)]) := by
  have X1 := X
  obtain ⟨hx, hb, hml, hown, hts, hr, hlocks, hKK⟩ := X1
  have ht : ∀ w ∈ TB, w.before args s = true := fun w h => hts w (List.mem_cons_of_mem _ h)
  have hK := hKK.1
  unfold B_Mo_convert_10 at h
  refine lv_iload_n hx hb d_Mo_convert_10 rfl (lv_at hl 2 rfl) ?_
  refine lv_iconst (v := 0) hx hb d_Mo_convert_11 (by decide) ?_
  refine lv_iconst (v := 1) hx hb d_Mo_convert_12 (by decide) ?_
  obtain ⟨o1, ho2, h⟩ := bd_s h
  refine cl_i (W1 := fun (_ : Unit) => w_Mo g a0 s0 ++ (rest)) (va_runS (As := [.int x2, .int (0 : Int32), .int (1 : Int32)]) (rest := [.ref (a0 0)]) ⟨hx, hb, hml, hown, ht⟩ (c_Mo_in (l := l) (D := D) (A := A) (g := g) (rest := w_Mo g a0 s0 ++ (rest))  ho2) (va_cwS 3 ht (gd_S m_975 m_976 m_11 m_977) rfl rfl rfl (by decide +kernel) ⟨(Nat.le_of_ble_eq_true rfl), (Nat.le_of_ble_eq_true rfl)⟩) (prS hKK hI (List.Perm.refl _)) rfl rfl hl.1 rfl (lv_room (Nat.le_of_ble_eq_true rfl)) d_Mo_convert_13 ⟨(Nat.le_of_ble_eq_true rfl), (Nat.le_of_ble_eq_true rfl)⟩) hS (fun _ => ((List.Perm.refl _)).symm) (fun _ H locs hI hS => ?_)
  have hI : Iw D A (w_Mo g a0 s0 ++ (rest)) H := hI
  refine lv_if_eq (tgt := 23) hx hb d_Mo_convert_16 (by decide) (fun hc => ?_) (fun hc => ?_)
  · have h := it_t h hc
    exact t_Mo_convert_23 X (lv_sub hl [0, 1, 2] rfl) hI hS h
  · have h := it_f h hc
    exact t_Mo_convert_19 X (lv_sub hl [0, 1, 2] rfl) hI hS h
set_option maxRecDepth 100000 in
set_option maxHeartbeats 4000000 in
theorem t_Mo_convert_0 {p : Program} {l : Launch} {e : Env} {s : State} {m : MethodId} {args : Array Value} {below : List Frame} {meth : Method} {c : Code} {D : va_G} {A : Nat → Prop} {g : Nat → ClassId} {rest : va_W} {a0 : Nat → Nat} {ls : Array Slot} {H : Heap} {locs : List Loc} {s0 : S_Mo} {x1 : Int32} {x2 : Int32} {out : Int32 × S_Mo} (X : Cx p s m args meth c prog_11_method_23_code 5 ws_Mo_convert R_Mo (some .int) D g) (hl : lv_has ls 5 [(0, .ref (a0 0)), (1, .int x1), (2, .int x2)]) (hI : Iw D A (w_Mo g a0 s0 ++ (rest)) H) (hS : va_S A s.heap H locs) (h : B_Mo_convert_0  s0 x1 x2 = some out) : W p l e (headSpec ws_Mo_convert { frames := 6, cells := 0, slots := 0, locals := 150 }).room s m args below meth c H locs 0 0 (MQ below (QcI D A g out.1 (fun (_ : Unit) => w_Mo g a0 out.2 ++ (rest))) args s 0 0 A) (F0 m 0 ls []) := by
  have X1 := X
  obtain ⟨hx, hb, hml, hown, hts, hr, hlocks, hKK⟩ := X1
  have ht : ∀ w ∈ TB, w.before args s = true := fun w h => hts w (List.mem_cons_of_mem _ h)
  have hK := hKK.1
  unfold B_Mo_convert_0 at h
  refine lv_aload_n hx hb d_Mo_convert_0 rfl (lv_at hl 0 rfl) ?_
  refine lv_iload_n hx hb d_Mo_convert_1 rfl (lv_at hl 1 rfl) ?_
  refine lv_iconst (v := 0) hx hb d_Mo_convert_2 (by decide) ?_
  refine lv_iconst (v := 1) hx hb d_Mo_convert_3 (by decide) ?_
  obtain ⟨o1, ho2, h⟩ := bd_s h
  refine cl_i (W1 := fun (_ : Unit) => w_Mo g a0 s0 ++ (rest)) (va_runS (As := [.int x1, .int (0 : Int32), .int (1 : Int32)]) (rest := [.ref (a0 0)]) ⟨hx, hb, hml, hown, ht⟩ (c_Mo_in (l := l) (D := D) (A := A) (g := g) (rest := w_Mo g a0 s0 ++ (rest))  ho2) (va_cwS 3 ht (gd_S m_975 m_976 m_11 m_977) rfl rfl rfl (by decide +kernel) ⟨(Nat.le_of_ble_eq_true rfl), (Nat.le_of_ble_eq_true rfl)⟩) (prS hKK hI (List.Perm.refl _)) rfl rfl hl.1 rfl (lv_room (Nat.le_of_ble_eq_true rfl)) d_Mo_convert_4 ⟨(Nat.le_of_ble_eq_true rfl), (Nat.le_of_ble_eq_true rfl)⟩) hS (fun _ => ((List.Perm.refl _)).symm) (fun _ H locs hI hS => ?_)
  have hI : Iw D A (w_Mo g a0 s0 ++ (rest)) H := hI
  refine lv_if_eq (tgt := 23) hx hb d_Mo_convert_7 (by decide) (fun hc => ?_) (fun hc => ?_)
  · have h := it_t h hc
    exact t_Mo_convert_23 X (lv_sub hl [0, 1, 2] rfl) hI hS h
  · have h := it_f h hc
    exact t_Mo_convert_10 X (lv_sub hl [0, 1, 2] rfl) hI hS h
set_option maxRecDepth 100000 in
set_option maxHeartbeats 4000000 in
theorem c_Mo_convert {l : Launch} {D : va_G} {A : Nat → Prop} {g : Nat → ClassId} {rest : va_W} {a0 : Nat → Nat} {s0 : S_Mo} {x1 : Int32} {x2 : Int32} {out : Int32 × S_Mo} (h : F_Mo_convert s0 x1 x2 = some out) : Met l y_Mo_convert ws_Mo_convert { frames := 6, cells := 0, slots := 0, locals := 150 } (PcW D A g [.ref (a0 0), .int x1, .int x2] (w_Mo g a0 s0 ++ (rest))) (QcI D A g out.1 (fun (_ : Unit) => w_Mo g a0 out.2 ++ (rest))) 0 0 A := by
  refine Met.ofW (cc := prog_11_method_23_code) (maxL := 5) (ret := (some .int)) (by decide) rfl ?_
  intro p e s m args below meth c s₁ B hml hv
  obtain ⟨rfl, hI, hK⟩ := hv
  have hl := lv_entry [.ref (a0 0), .int x1, .int x2] (n := 5) (Nat.le_of_ble_eq_true rfl)
  rw [lg_entry_eq]
  generalize (lg_sl [.ref (a0 0), .int x1, .int x2] ++ List.replicate (5 - (lg_sl [.ref (a0 0), .int x1, .int x2]).length) Slot.unset).toArray = ls at hl ⊢
  have hl : lv_has ls 5 [(0, .ref (a0 0)), (1, .int x1), (2, .int x2)] := hl
  exact t_Mo_convert_0 ⟨B.exec, B.bytes, hml, findClass_of_methodNamed B.named, atoms_spec (ws := ws_Mo_convert) B.pre, B.returns, B.notSynchronized, hK⟩ (lv_sub hl [0, 1, 2] rfl) hI va_S.rf h
def ws_Mo_sends : List Cond := .code y_Mo_sends prog_11_method_27_code 3 (some .boolean) :: TB
def B_Mo_sends_83 (s0 : S_Mo) : Option (Int32 × S_Mo) :=
  some ((1 : Int32), (Mo_set_outputs s0 ((Mo_outputs s0) + ((2 : Int32) + (Mo_makes s0)))))
def B_Mo_sends_58 (k50 : S_Mo × Int32 → Option (Int32 × S_Mo)) (s0 : S_Mo) (x2 : Int32) : Option (Int32 × S_Mo) :=
  (if (x2 < 0 ∨ 1000 ≤ x2.toNatClampNeg) then none else (if ((((Mo_outputs s0) + (2 : Int32)) + x2) < 0 ∨ 900 ≤ (((Mo_outputs s0) + (2 : Int32)) + x2).toNatClampNeg) then none else (k50 ((Mo_set_output s0 (upd (Mo_output s0) (((Mo_outputs s0) + (2 : Int32)) + x2).toNatClampNeg ((Mo_made s0) x2.toNatClampNeg))), (x2 + 1)))))
def B_Mo_sends_50 (k50 : S_Mo × Int32 → Option (Int32 × S_Mo)) (s0 : S_Mo) (x2 : Int32) : Option (Int32 × S_Mo) :=
  (if (Mo_makes s0) ≤ x2 then (B_Mo_sends_83 s0) else (B_Mo_sends_58 k50 s0 x2))
def L_Mo_sends_50 (v : S_Mo × Int32) : Option (Int32 × S_Mo) := lp (fun k50 v => B_Mo_sends_50  k50  v.1 v.2) FU v
def B_Mo_sends_23 (s0 : S_Mo) (x1 : Int32) : Option (Int32 × S_Mo) :=
  (if ((Mo_outputs s0) < 0 ∨ 900 ≤ (Mo_outputs s0).toNatClampNeg) then none else (if (((Mo_outputs (Mo_set_output s0 (upd (Mo_output s0) (Mo_outputs s0).toNatClampNeg x1))) + (1 : Int32)) < 0 ∨ 900 ≤ ((Mo_outputs (Mo_set_output s0 (upd (Mo_output s0) (Mo_outputs s0).toNatClampNeg x1))) + (1 : Int32)).toNatClampNeg) then none else (L_Mo_sends_50 ((Mo_set_output (Mo_set_output s0 (upd (Mo_output s0) (Mo_outputs s0).toNatClampNeg x1)) (upd (Mo_output (Mo_set_output s0 (upd (Mo_output s0) (Mo_outputs s0).toNatClampNeg x1))) ((Mo_outputs (Mo_set_output s0 (upd (Mo_output s0) (Mo_outputs s0).toNatClampNeg x1))) + (1 : Int32)).toNatClampNeg (Mo_makes (Mo_set_output s0 (upd (Mo_output s0) (Mo_outputs s0).toNatClampNeg x1))))), (0 : Int32)))))
def B_Mo_sends_17 (s0 : S_Mo) : Option (Int32 × S_Mo) :=
  ((F_Mo_shut s0).bind fun o1 => some ((0 : Int32), o1))
def B_Mo_sends_0 (s0 : S_Mo) (x1 : Int32) : Option (Int32 × S_Mo) :=
  (if (((Mo_outputs s0) + (2 : Int32)) + (Mo_makes s0)) ≤ (900 : Int32) then (B_Mo_sends_23 s0 x1) else (B_Mo_sends_17 s0))
def F_Mo_sends (s0 : S_Mo) (x1 : Int32) : Option (Int32 × S_Mo) := B_Mo_sends_0 s0 x1
set_option maxRecDepth 100000 in
set_option maxHeartbeats 4000000 in
theorem t_Mo_sends_83 {p : Program} {l : Launch} {e : Env} {s : State} {m : MethodId} {args : Array Value} {below : List Frame} {meth : Method} {c : Code} {D : va_G} {A : Nat → Prop} {g : Nat → ClassId} {rest : va_W} {a0 : Nat → Nat} {ls : Array Slot} {H : Heap} {locs : List Loc} {s0 : S_Mo} {out : Int32 × S_Mo} (X : Cx p s m args meth c prog_11_method_27_code 3 ws_Mo_sends R_Mo (some .boolean) D g) (hl : lv_has ls 3 [(0, .ref (a0 0))]) (hI : Iw D A (w_Mo g a0 s0 ++ (rest)) H) (hS : va_S A s.heap H locs) (h : B_Mo_sends_83  s0 = some out) : W p l e (headSpec ws_Mo_sends { frames := 2, cells := 0, slots := 0, locals := 40 }).room s m args below meth c H locs 0 0 (MQ below (QcI D A g out.1 (fun (_ : Unit) => w_Mo g a0 out.2 ++ (rest))) args s 0 0 A) (F0 m 83 ls []) := by
  have X1 := X
  obtain ⟨hx, hb, hml, hown, hts, hr, hlocks, hKK⟩ := X1
  have ht : ∀ w ∈ TB, w.before args s = true := fun w h => hts w (List.mem_cons_of_mem _ h)
  have hK := hKK.1
  unfold B_Mo_sends_83 at h
  refine lv_aload_n hx hb d_Mo_sends_83 rfl (lv_at hl 0 rfl) ?_
  refine lv_dup hx hb d_Mo_sends_84 rfl ?_
  refine gt_Mo_outputs hx hb ht hown hK hI (ht _ m_849) d_Mo_sends_85 ?_
  refine lv_iconst (v := 2) hx hb d_Mo_sends_88 (by decide) ?_
  refine lv_aload_n hx hb d_Mo_sends_89 rfl (lv_at hl 0 rfl) ?_
  refine gt_Mo_makes hx hb ht hown hK hI (ht _ m_843) d_Mo_sends_90 ?_
  refine lv_iadd hx hb d_Mo_sends_93 ?_
  refine lv_iadd hx hb d_Mo_sends_94 ?_
  refine pt_Mo_outputs hx hb ht hown hK hI hS (ht _ m_849) d_Mo_sends_95 (fun H locs hI hS => ?_)
  refine lv_iconst (v := 1) hx hb d_Mo_sends_98 (by decide) ?_
  have h9 := Option.some.inj h
  subst h9
  exact W.zret (v := (1 : Int32)) hx hb hr rfl (fun t ht hW => ⟨⟨_, (), rfl, rfl, ⟨by rw [ht]; exact hI, hKK.moved hW⟩⟩, hS.F ht⟩) hS.2.2 d_Mo_sends_99
set_option maxRecDepth 100000 in
set_option maxHeartbeats 4000000 in
theorem t_Mo_sends_58 {p : Program} {l : Launch} {e : Env} {s : State} {m : MethodId} {args : Array Value} {below : List Frame} {meth : Method} {c : Code} {D : va_G} {A : Nat → Prop} {g : Nat → ClassId} {rest : va_W} {a0 : Nat → Nat} {ls : Array Slot} {H : Heap} {locs : List Loc} {k50 : S_Mo × Int32 → Option (Int32 × S_Mo)} {s0 : S_Mo} {x2 : Int32} {out : Int32 × S_Mo} (X : Cx p s m args meth c prog_11_method_27_code 3 ws_Mo_sends R_Mo (some .boolean) D g) (hk50 : ∀ (v : S_Mo × Int32) (ls : Array Slot) (H : Heap) (locs : List Loc), lv_has ls 3 [(0, .ref (a0 0)), (2, .int v.2)] → Iw D A (w_Mo g a0 v.1 ++ (rest)) H → va_S A s.heap H locs → k50 v = some out → W p l e (headSpec ws_Mo_sends { frames := 2, cells := 0, slots := 0, locals := 40 }).room s m args below meth c H locs 0 0 (MQ below (QcI D A g out.1 (fun (_ : Unit) => w_Mo g a0 out.2 ++ (rest))) args s 0 0 A) (F0 m 50 ls [])) (hl : lv_has ls 3 [(0, .ref (a0 0)), (2, .int x2)]) (hI : Iw D A (w_Mo g a0 s0 ++ (rest)) H) (hS : va_S A s.heap H locs) (h : B_Mo_sends_58 k50 s0 x2 = some out) : W p l e (headSpec ws_Mo_sends { frames := 2, cells := 0, slots := 0, locals := 40 }).room s m args below meth c H locs 0 0 (MQ below (QcI D A g out.1 (fun (_ : Unit) => w_Mo g a0 out.2 ++ (rest))) args s 0 0 A) (F0 m 58 ls []) := by
  have X1 := X
  obtain ⟨hx, hb, hml, hown, hts, hr, hlocks, hKK⟩ := X1
  have ht : ∀ w ∈ TB, w.before args s = true := fun w h => hts w (List.mem_cons_of_mem _ h)
  have hK := hKK.1
  unfold B_Mo_sends_58 at h
  refine lv_aload_n hx hb d_Mo_sends_58 rfl (lv_at hl 0 rfl) ?_
  refine gt_Mo_output hx hb ht hown hK hI (ht _ m_848) d_Mo_sends_59 ?_
  refine lv_aload_n hx hb d_Mo_sends_62 rfl (lv_at hl 0 rfl) ?_
  refine gt_Mo_outputs hx hb ht hown hK hI (ht _ m_849) d_Mo_sends_63 ?_
  refine lv_iconst (v := 2) hx hb d_Mo_sends_66 (by decide) ?_
  refine lv_iadd hx hb d_Mo_sends_67 ?_
  refine lv_iload_n hx hb d_Mo_sends_68 rfl (lv_at hl 1 rfl) ?_
  refine lv_iadd hx hb d_Mo_sends_69 ?_
  refine lv_aload_n hx hb d_Mo_sends_70 rfl (lv_at hl 0 rfl) ?_
  refine gt_Mo_made hx hb ht hown hK hI (ht _ m_842) d_Mo_sends_71 ?_
  refine lv_iload_n hx hb d_Mo_sends_74 rfl (lv_at hl 1 rfl) ?_
  by_cases hc1 : (x2 < 0 ∨ 1000 ≤ x2.toNatClampNeg)
  · exact no_s (it_t h hc1)
  have h := it_f h hc1
  refine al_Mo_made hx hb hK hI hc1 d_Mo_sends_75 ?_
  by_cases hc2 : ((((Mo_outputs s0) + (2 : Int32)) + x2) < 0 ∨ 900 ≤ (((Mo_outputs s0) + (2 : Int32)) + x2).toNatClampNeg)
  · exact no_s (it_t h hc2)
  have h := it_f h hc2
  refine as_Mo_output hx hb hK hI hS hc2 d_Mo_sends_76 (fun H locs hI hS => ?_)
  refine lv_iinc (k := 1) (v := (x2 + 1)) hx hb d_Mo_sends_77 hl rfl (congrArg (fun z => x2 + z) (by decide)) (Nat.le_of_ble_eq_true rfl) rfl (fun ls hl => ?_)
  have hl : lv_has ls 3 [(2, .int (x2 + 1)), (0, .ref (a0 0))] := hl
  refine lv_goto (tgt := 50) hx hb d_Mo_sends_80 (by decide) ?_
  exact hk50 ((Mo_set_output s0 (upd (Mo_output s0) (((Mo_outputs s0) + (2 : Int32)) + x2).toNatClampNeg ((Mo_made s0) x2.toNatClampNeg))), (x2 + 1)) _ _ _ (lv_sub hl [1, 0] rfl) hI hS h
set_option maxRecDepth 100000 in
set_option maxHeartbeats 4000000 in
theorem t_Mo_sends_50 {p : Program} {l : Launch} {e : Env} {s : State} {m : MethodId} {args : Array Value} {below : List Frame} {meth : Method} {c : Code} {D : va_G} {A : Nat → Prop} {g : Nat → ClassId} {rest : va_W} {a0 : Nat → Nat} {ls : Array Slot} {H : Heap} {locs : List Loc} {k50 : S_Mo × Int32 → Option (Int32 × S_Mo)} {s0 : S_Mo} {x2 : Int32} {out : Int32 × S_Mo} (X : Cx p s m args meth c prog_11_method_27_code 3 ws_Mo_sends R_Mo (some .boolean) D g) (hk50 : ∀ (v : S_Mo × Int32) (ls : Array Slot) (H : Heap) (locs : List Loc), lv_has ls 3 [(0, .ref (a0 0)), (2, .int v.2)] → Iw D A (w_Mo g a0 v.1 ++ (rest)) H → va_S A s.heap H locs → k50 v = some out → W p l e (headSpec ws_Mo_sends { frames := 2, cells := 0, slots := 0, locals := 40 }).room s m args below meth c H locs 0 0 (MQ below (QcI D A g out.1 (fun (_ : Unit) => w_Mo g a0 out.2 ++ (rest))) args s 0 0 A) (F0 m 50 ls [])) (hl : lv_has ls 3 [(0, .ref (a0 0)), (2, .int x2)]) (hI : Iw D A (w_Mo g a0 s0 ++ (rest)) H) (hS : va_S A s.heap H locs) (h : B_Mo_sends_50 k50 s0 x2 = some out) : W p l e (headSpec ws_Mo_sends { frames := 2, cells := 0, slots := 0, locals := 40 }).room s m args below meth c H locs 0 0 (MQ below (QcI D A g out.1 (fun (_ : Unit) => w_Mo g a0 out.2 ++ (rest))) args s 0 0 A) (F0 m 50 ls []) := by
  have X1 := X
  obtain ⟨hx, hb, hml, hown, hts, hr, hlocks, hKK⟩ := X1
  have ht : ∀ w ∈ TB, w.before args s = true := fun w h => hts w (List.mem_cons_of_mem _ h)
  have hK := hKK.1
  unfold B_Mo_sends_50 at h
  refine lv_iload_n hx hb d_Mo_sends_50 rfl (lv_at hl 1 rfl) ?_
  refine lv_aload_n hx hb d_Mo_sends_51 rfl (lv_at hl 0 rfl) ?_
  refine gt_Mo_makes hx hb ht hown hK hI (ht _ m_843) d_Mo_sends_52 ?_
  refine lv_icmp_ge (tgt := 83) hx hb d_Mo_sends_55 (by decide) (fun hc => ?_) (fun hc => ?_)
  · have h := it_t h hc
    exact t_Mo_sends_83 X (lv_sub hl [0] rfl) hI hS h
  · have h := it_f h hc
    exact t_Mo_sends_58 X hk50 (lv_sub hl [0, 1] rfl) hI hS h
set_option maxRecDepth 100000 in
set_option maxHeartbeats 4000000 in
theorem T_Mo_sends_50 {p : Program} {l : Launch} {e : Env} {s : State} {m : MethodId} {args : Array Value} {below : List Frame} {meth : Method} {c : Code} {D : va_G} {A : Nat → Prop} {g : Nat → ClassId} {rest : va_W} {a0 : Nat → Nat} {ls : Array Slot} {H : Heap} {locs : List Loc} {s0 : S_Mo} {x2 : Int32} {out : Int32 × S_Mo} (X : Cx p s m args meth c prog_11_method_27_code 3 ws_Mo_sends R_Mo (some .boolean) D g) (hl : lv_has ls 3 [(0, .ref (a0 0)), (2, .int x2)]) (hI : Iw D A (w_Mo g a0 s0 ++ (rest)) H) (hS : va_S A s.heap H locs) (h : L_Mo_sends_50   (s0, x2) = some out) : W p l e (headSpec ws_Mo_sends { frames := 2, cells := 0, slots := 0, locals := 40 }).room s m args below meth c H locs 0 0 (MQ below (QcI D A g out.1 (fun (_ : Unit) => w_Mo g a0 out.2 ++ (rest))) args s 0 0 A) (F0 m 50 ls []) := by
  unfold L_Mo_sends_50 at h
  exact lp_ind (P := fun v => ∀ (ls : Array Slot) (H : Heap) (locs : List Loc), lv_has ls 3 [(0, .ref (a0 0)), (2, .int v.2)] → Iw D A (w_Mo g a0 v.1 ++ (rest)) H → va_S A s.heap H locs → W p l e (headSpec ws_Mo_sends { frames := 2, cells := 0, slots := 0, locals := 40 }).room s m args below meth c H locs 0 0 (MQ below (QcI D A g out.1 (fun (_ : Unit) => w_Mo g a0 out.2 ++ (rest))) args s 0 0 A) (F0 m 50 ls [])) (fun k v ih hb ls H locs  hl hI hS => t_Mo_sends_50 X  (fun v' ls H locs  hl hI hS h' => ih v' h' ls H locs  hl hI hS) hl hI hS hb) FU _ h ls H locs  hl hI hS
set_option maxRecDepth 100000 in
set_option maxHeartbeats 4000000 in
theorem t_Mo_sends_23 {p : Program} {l : Launch} {e : Env} {s : State} {m : MethodId} {args : Array Value} {below : List Frame} {meth : Method} {c : Code} {D : va_G} {A : Nat → Prop} {g : Nat → ClassId} {rest : va_W} {a0 : Nat → Nat} {ls : Array Slot} {H : Heap} {locs : List Loc} {s0 : S_Mo} {x1 : Int32} {out : Int32 × S_Mo} (X : Cx p s m args meth c prog_11_method_27_code 3 ws_Mo_sends R_Mo (some .boolean) D g) (hl : lv_has ls 3 [(0, .ref (a0 0)), (1, .int x1)]) (hI : Iw D A (w_Mo g a0 s0 ++ (rest)) H) (hS : va_S A s.heap H locs) (h : B_Mo_sends_23  s0 x1 = some out) : W p l e (headSpec ws_Mo_sends { frames := 2, cells := 0, slots := 0, locals := 40 }).room s m args below meth c H locs 0 0 (MQ below (QcI D A g out.1 (fun (_ : Unit) => w_Mo g a0 out.2 ++ (rest))) args s 0 0 A) (F0 m 23 ls []) := by
  have X1 := X
  obtain ⟨hx, hb, hml, hown, hts, hr, hlocks, hKK⟩ := X1
  have ht : ∀ w ∈ TB, w.before args s = true := fun w h => hts w (List.mem_cons_of_mem _ h)
  have hK := hKK.1
  unfold B_Mo_sends_23 at h
  refine lv_aload_n hx hb d_Mo_sends_23 rfl (lv_at hl 0 rfl) ?_
  refine gt_Mo_output hx hb ht hown hK hI (ht _ m_848) d_Mo_sends_24 ?_
  refine lv_aload_n hx hb d_Mo_sends_27 rfl (lv_at hl 0 rfl) ?_
  refine gt_Mo_outputs hx hb ht hown hK hI (ht _ m_849) d_Mo_sends_28 ?_
  refine lv_iload_n hx hb d_Mo_sends_31 rfl (lv_at hl 1 rfl) ?_
  by_cases hc1 : ((Mo_outputs s0) < 0 ∨ 900 ≤ (Mo_outputs s0).toNatClampNeg)
  · exact no_s (it_t h hc1)
  have h := it_f h hc1
  refine as_Mo_output hx hb hK hI hS hc1 d_Mo_sends_32 (fun H locs hI hS => ?_)
  refine lv_aload_n hx hb d_Mo_sends_33 rfl (lv_at hl 0 rfl) ?_
  refine gt_Mo_output hx hb ht hown hK hI (ht _ m_848) d_Mo_sends_34 ?_
  refine lv_aload_n hx hb d_Mo_sends_37 rfl (lv_at hl 0 rfl) ?_
  refine gt_Mo_outputs hx hb ht hown hK hI (ht _ m_849) d_Mo_sends_38 ?_
  refine lv_iconst (v := 1) hx hb d_Mo_sends_41 (by decide) ?_
  refine lv_iadd hx hb d_Mo_sends_42 ?_
  refine lv_aload_n hx hb d_Mo_sends_43 rfl (lv_at hl 0 rfl) ?_
  refine gt_Mo_makes hx hb ht hown hK hI (ht _ m_843) d_Mo_sends_44 ?_
  by_cases hc2 : (((Mo_outputs (Mo_set_output s0 (upd (Mo_output s0) (Mo_outputs s0).toNatClampNeg x1))) + (1 : Int32)) < 0 ∨ 900 ≤ ((Mo_outputs (Mo_set_output s0 (upd (Mo_output s0) (Mo_outputs s0).toNatClampNeg x1))) + (1 : Int32)).toNatClampNeg)
  · exact no_s (it_t h hc2)
  have h := it_f h hc2
  refine as_Mo_output hx hb hK hI hS hc2 d_Mo_sends_47 (fun H locs hI hS => ?_)
  refine lv_iconst (v := 0) hx hb d_Mo_sends_48 (by decide) ?_
  refine lv_istore_n hx hb d_Mo_sends_49 rfl hl (Nat.le_of_ble_eq_true rfl) rfl (fun ls hl => ?_)
  have hl : lv_has ls 3 [(2, .int (0 : Int32)), (0, .ref (a0 0)), (1, .int x1)] := hl
  exact T_Mo_sends_50 X (lv_sub hl [1, 0] rfl) hI hS h
set_option maxRecDepth 100000 in
set_option maxHeartbeats 4000000 in
theorem t_Mo_sends_17 {p : Program} {l : Launch} {e : Env} {s : State} {m : MethodId} {args : Array Value} {below : List Frame} {meth : Method} {c : Code} {D : va_G} {A : Nat → Prop} {g : Nat → ClassId} {rest : va_W} {a0 : Nat → Nat} {ls : Array Slot} {H : Heap} {locs : List Loc} {s0 : S_Mo} {out : Int32 × S_Mo} (X : Cx p s m args meth c prog_11_method_27_code 3 ws_Mo_sends R_Mo (some .boolean) D g) (hl : lv_has ls 3 [(0, .ref (a0 0))]) (hI : Iw D A (w_Mo g a0 s0 ++ (rest)) H) (hS : va_S A s.heap H locs) (h : B_Mo_sends_17  s0 = some out) : W p l e (headSpec ws_Mo_sends { frames := 2, cells := 0, slots := 0, locals := 40 }).room s m args below meth c H locs 0 0 (MQ below (QcI D A g out.1 (fun (_ : Unit) => w_Mo g a0 out.2 ++ (rest))) args s 0 0 A) (F0 m 17 ls []) := by
  have X1 := X
  obtain ⟨hx, hb, hml, hown, hts, hr, hlocks, hKK⟩ := X1
  have ht : ∀ w ∈ TB, w.before args s = true := fun w h => hts w (List.mem_cons_of_mem _ h)
  have hK := hKK.1
  unfold B_Mo_sends_17 at h
  refine lv_aload_n hx hb d_Mo_sends_17 rfl (lv_at hl 0 rfl) ?_
  obtain ⟨o1, ho2, h⟩ := bd_s h
  refine cl_v (W1 := fun (_ : Unit) => w_Mo g a0 o1 ++ (rest)) (va_runV (As := []) (rest := []) ⟨hx, hb, hml, hown, ht⟩ (c_Mo_shut (l := l) (D := D) (A := A) (g := g) (rest := rest) (a0 := a0) ho2) (cwV 0 ht (gd_V m_1076 m_1078 mp_54 m_11 m_1079) rfl rfl rfl (by decide +kernel) ⟨(Nat.le_of_ble_eq_true rfl), (Nat.le_of_ble_eq_true rfl)⟩) (prV (ci := 9) (q0 := 0) hKK hI (List.Perm.refl _) rfl rfl rfl) rfl rfl hl.1 rfl (lv_room (Nat.le_of_ble_eq_true rfl)) d_Mo_sends_18 ⟨(Nat.le_of_ble_eq_true rfl), (Nat.le_of_ble_eq_true rfl)⟩) hS (fun _ => ((List.Perm.refl _)).symm) (fun _ H locs hI hS => ?_)
  have hI : Iw D A (w_Mo g a0 o1 ++ (rest)) H := hI
  refine lv_iconst (v := 0) hx hb d_Mo_sends_21 (by decide) ?_
  have h9 := Option.some.inj h
  subst h9
  exact W.zret (v := (0 : Int32)) hx hb hr rfl (fun t ht hW => ⟨⟨_, (), rfl, rfl, ⟨by rw [ht]; exact hI, hKK.moved hW⟩⟩, hS.F ht⟩) hS.2.2 d_Mo_sends_22
set_option maxRecDepth 100000 in
set_option maxHeartbeats 4000000 in
theorem t_Mo_sends_0 {p : Program} {l : Launch} {e : Env} {s : State} {m : MethodId} {args : Array Value} {below : List Frame} {meth : Method} {c : Code} {D : va_G} {A : Nat → Prop} {g : Nat → ClassId} {rest : va_W} {a0 : Nat → Nat} {ls : Array Slot} {H : Heap} {locs : List Loc} {s0 : S_Mo} {x1 : Int32} {out : Int32 × S_Mo} (X : Cx p s m args meth c prog_11_method_27_code 3 ws_Mo_sends R_Mo (some .boolean) D g) (hl : lv_has ls 3 [(0, .ref (a0 0)), (1, .int x1)]) (hI : Iw D A (w_Mo g a0 s0 ++ (rest)) H) (hS : va_S A s.heap H locs) (h : B_Mo_sends_0  s0 x1 = some out) : W p l e (headSpec ws_Mo_sends { frames := 2, cells := 0, slots := 0, locals := 40 }).room s m args below meth c H locs 0 0 (MQ below (QcI D A g out.1 (fun (_ : Unit) => w_Mo g a0 out.2 ++ (rest))) args s 0 0 A) (F0 m 0 ls []) := by
  have X1 := X
  obtain ⟨hx, hb, hml, hown, hts, hr, hlocks, hKK⟩ := X1
  have ht : ∀ w ∈ TB, w.before args s = true := fun w h => hts w (List.mem_cons_of_mem _ h)
  have hK := hKK.1
  unfold B_Mo_sends_0 at h
  refine lv_aload_n hx hb d_Mo_sends_0 rfl (lv_at hl 0 rfl) ?_
  refine gt_Mo_outputs hx hb ht hown hK hI (ht _ m_849) d_Mo_sends_1 ?_
  refine lv_iconst (v := 2) hx hb d_Mo_sends_4 (by decide) ?_
  refine lv_iadd hx hb d_Mo_sends_5 ?_
  refine lv_aload_n hx hb d_Mo_sends_6 rfl (lv_at hl 0 rfl) ?_
  refine gt_Mo_makes hx hb ht hown hK hI (ht _ m_843) d_Mo_sends_7 ?_
  refine lv_iadd hx hb d_Mo_sends_10 ?_
  refine lv_sipush (v := 900) hx hb d_Mo_sends_11 (by decide) ?_
  refine lv_icmp_le (tgt := 23) hx hb d_Mo_sends_14 (by decide) (fun hc => ?_) (fun hc => ?_)
  · have h := it_t h hc
    exact t_Mo_sends_23 X (lv_sub hl [0, 1] rfl) hI hS h
  · have h := it_f h hc
    exact t_Mo_sends_17 X (lv_sub hl [0] rfl) hI hS h
set_option maxRecDepth 100000 in
set_option maxHeartbeats 4000000 in
theorem c_Mo_sends {l : Launch} {D : va_G} {A : Nat → Prop} {g : Nat → ClassId} {rest : va_W} {a0 : Nat → Nat} {s0 : S_Mo} {x1 : Int32} {out : Int32 × S_Mo} (h : F_Mo_sends s0 x1 = some out) : Met l y_Mo_sends ws_Mo_sends { frames := 2, cells := 0, slots := 0, locals := 40 } (PcW D A g [.ref (a0 0), .int x1] (w_Mo g a0 s0 ++ (rest))) (QcI D A g out.1 (fun (_ : Unit) => w_Mo g a0 out.2 ++ (rest))) 0 0 A := by
  refine Met.ofW (cc := prog_11_method_27_code) (maxL := 3) (ret := (some .boolean)) (by decide) rfl ?_
  intro p e s m args below meth c s₁ B hml hv
  obtain ⟨rfl, hI, hK⟩ := hv
  have hl := lv_entry [.ref (a0 0), .int x1] (n := 3) (Nat.le_of_ble_eq_true rfl)
  rw [lg_entry_eq]
  generalize (lg_sl [.ref (a0 0), .int x1] ++ List.replicate (3 - (lg_sl [.ref (a0 0), .int x1]).length) Slot.unset).toArray = ls at hl ⊢
  have hl : lv_has ls 3 [(0, .ref (a0 0)), (1, .int x1)] := hl
  exact t_Mo_sends_0 ⟨B.exec, B.bytes, hml, findClass_of_methodNamed B.named, atoms_spec (ws := ws_Mo_sends) B.pre, B.returns, B.notSynchronized, hK⟩ (lv_sub hl [0, 1] rfl) hI va_S.rf h
def ws_Mo_breakOff : List Cond := .code y_Mo_breakOff prog_11_method_29_code 1 none :: TB
def B_Mo_breakOff_19 (s0 : S_Mo) : Option S_Mo :=
  some s0
def B_Mo_breakOff_14 (s0 : S_Mo) : Option S_Mo :=
  ((F_Mo_comesTo s0 (3 : Int32)).bind fun o1 => (B_Mo_breakOff_19 o1))
def B_Mo_breakOff_0 (s0 : S_Mo) : Option S_Mo :=
  ((F_Mo_sends (Mo_set_makes s0 (0 : Int32)) (7 : Int32)).bind fun o1 => (if o1.1 = 0 then (B_Mo_breakOff_19 o1.2) else (B_Mo_breakOff_14 o1.2)))
def F_Mo_breakOff (s0 : S_Mo) : Option S_Mo := B_Mo_breakOff_0 s0
set_option maxRecDepth 100000 in
set_option maxHeartbeats 4000000 in
theorem t_Mo_breakOff_19 {p : Program} {l : Launch} {e : Env} {s : State} {m : MethodId} {args : Array Value} {below : List Frame} {meth : Method} {c : Code} {D : va_G} {A : Nat → Prop} {g : Nat → ClassId} {rest : va_W} {a0 : Nat → Nat} {ls : Array Slot} {H : Heap} {locs : List Loc} {s0 : S_Mo} {out : S_Mo} (X : Cx p s m args meth c prog_11_method_29_code 1 ws_Mo_breakOff R_Mo none D g) (hl : lv_has ls 1 []) (hI : Iw D A (w_Mo g a0 s0 ++ (rest)) H) (hS : va_S A s.heap H locs) (h : B_Mo_breakOff_19  s0 = some out) : W p l e (headSpec ws_Mo_breakOff { frames := 3, cells := 0, slots := 0, locals := 62 }).room s m args below meth c H locs 0 0 (MQ below (QcV D A g (fun (_ : Unit) => w_Mo g a0 out ++ (rest))) args s 0 0 A) (F0 m 19 ls []) := by
  have X1 := X
  obtain ⟨hx, hb, hml, hown, hts, hr, hlocks, hKK⟩ := X1
  have ht : ∀ w ∈ TB, w.before args s = true := fun w h => hts w (List.mem_cons_of_mem _ h)
  have hK := hKK.1
  unfold B_Mo_breakOff_19 at h
  have h9 := Option.some.inj h
  subst h9
  exact W.vret hx hb hr (fun t ht hW => ⟨⟨(), rfl, trivial, ⟨by rw [ht]; exact hI, hKK.moved hW⟩⟩, hS.F ht⟩) hS.2.2 d_Mo_breakOff_19
set_option maxRecDepth 100000 in
set_option maxHeartbeats 4000000 in
theorem t_Mo_breakOff_14 {p : Program} {l : Launch} {e : Env} {s : State} {m : MethodId} {args : Array Value} {below : List Frame} {meth : Method} {c : Code} {D : va_G} {A : Nat → Prop} {g : Nat → ClassId} {rest : va_W} {a0 : Nat → Nat} {ls : Array Slot} {H : Heap} {locs : List Loc} {s0 : S_Mo} {out : S_Mo} (X : Cx p s m args meth c prog_11_method_29_code 1 ws_Mo_breakOff R_Mo none D g) (hl : lv_has ls 1 [(0, .ref (a0 0))]) (hI : Iw D A (w_Mo g a0 s0 ++ (rest)) H) (hS : va_S A s.heap H locs) (h : B_Mo_breakOff_14  s0 = some out) : W p l e (headSpec ws_Mo_breakOff { frames := 3, cells := 0, slots := 0, locals := 62 }).room s m args below meth c H locs 0 0 (MQ below (QcV D A g (fun (_ : Unit) => w_Mo g a0 out ++ (rest))) args s 0 0 A) (F0 m 14 ls []) := by
  have X1 := X
  obtain ⟨hx, hb, hml, hown, hts, hr, hlocks, hKK⟩ := X1
  have ht : ∀ w ∈ TB, w.before args s = true := fun w h => hts w (List.mem_cons_of_mem _ h)
  have hK := hKK.1
  unfold B_Mo_breakOff_14 at h
  refine lv_aload_n hx hb d_Mo_breakOff_14 rfl (lv_at hl 0 rfl) ?_
  refine lv_iconst (v := 3) hx hb d_Mo_breakOff_15 (by decide) ?_
  obtain ⟨o1, ho2, h⟩ := bd_s h
  refine cl_v (W1 := fun (_ : Unit) => w_Mo g a0 o1 ++ (rest)) (va_runV (As := [.int (3 : Int32)]) (rest := []) ⟨hx, hb, hml, hown, ht⟩ (c_Mo_comesTo (l := l) (D := D) (A := A) (g := g) (rest := rest) (a0 := a0) ho2) (cwV 1 ht (gd_V m_1064 m_1066 mp_52 m_11 m_1067) rfl rfl rfl (by decide +kernel) ⟨(Nat.le_of_ble_eq_true rfl), (Nat.le_of_ble_eq_true rfl)⟩) (prV (ci := 9) (q0 := 0) hKK hI (List.Perm.refl _) rfl rfl rfl) rfl rfl hl.1 rfl (lv_room (Nat.le_of_ble_eq_true rfl)) d_Mo_breakOff_16 ⟨(Nat.le_of_ble_eq_true rfl), (Nat.le_of_ble_eq_true rfl)⟩) hS (fun _ => ((List.Perm.refl _)).symm) (fun _ H locs hI hS => ?_)
  have hI : Iw D A (w_Mo g a0 o1 ++ (rest)) H := hI
  exact t_Mo_breakOff_19 X (lv_sub hl [] rfl) hI hS h
set_option maxRecDepth 100000 in
set_option maxHeartbeats 4000000 in
theorem t_Mo_breakOff_0 {p : Program} {l : Launch} {e : Env} {s : State} {m : MethodId} {args : Array Value} {below : List Frame} {meth : Method} {c : Code} {D : va_G} {A : Nat → Prop} {g : Nat → ClassId} {rest : va_W} {a0 : Nat → Nat} {ls : Array Slot} {H : Heap} {locs : List Loc} {s0 : S_Mo} {out : S_Mo} (X : Cx p s m args meth c prog_11_method_29_code 1 ws_Mo_breakOff R_Mo none D g) (hl : lv_has ls 1 [(0, .ref (a0 0))]) (hI : Iw D A (w_Mo g a0 s0 ++ (rest)) H) (hS : va_S A s.heap H locs) (h : B_Mo_breakOff_0  s0 = some out) : W p l e (headSpec ws_Mo_breakOff { frames := 3, cells := 0, slots := 0, locals := 62 }).room s m args below meth c H locs 0 0 (MQ below (QcV D A g (fun (_ : Unit) => w_Mo g a0 out ++ (rest))) args s 0 0 A) (F0 m 0 ls []) := by
  have X1 := X
  obtain ⟨hx, hb, hml, hown, hts, hr, hlocks, hKK⟩ := X1
  have ht : ∀ w ∈ TB, w.before args s = true := fun w h => hts w (List.mem_cons_of_mem _ h)
  have hK := hKK.1
  unfold B_Mo_breakOff_0 at h
  refine lv_aload_n hx hb d_Mo_breakOff_0 rfl (lv_at hl 0 rfl) ?_
  refine lv_iconst (v := 0) hx hb d_Mo_breakOff_1 (by decide) ?_
  refine pt_Mo_makes hx hb ht hown hK hI hS (ht _ m_843) d_Mo_breakOff_2 (fun H locs hI hS => ?_)
  refine lv_aload_n hx hb d_Mo_breakOff_5 rfl (lv_at hl 0 rfl) ?_
  refine lv_bipush (v := 7) hx hb d_Mo_breakOff_6 (by decide) ?_
  obtain ⟨o1, ho2, h⟩ := bd_s h
  refine cl_i (W1 := fun (_ : Unit) => w_Mo g a0 o1.2 ++ (rest)) (va_runV (As := [.int (7 : Int32)]) (rest := []) ⟨hx, hb, hml, hown, ht⟩ (c_Mo_sends (l := l) (D := D) (A := A) (g := g) (rest := rest) (a0 := a0) ho2) (cwV 1 ht (gd_V m_1092 m_1094 mp_57 m_11 m_1095) rfl rfl rfl (by decide +kernel) ⟨(Nat.le_of_ble_eq_true rfl), (Nat.le_of_ble_eq_true rfl)⟩) (prV (ci := 9) (q0 := 0) hKK hI (List.Perm.refl _) rfl rfl rfl) rfl rfl hl.1 rfl (lv_room (Nat.le_of_ble_eq_true rfl)) d_Mo_breakOff_8 ⟨(Nat.le_of_ble_eq_true rfl), (Nat.le_of_ble_eq_true rfl)⟩) hS (fun _ => ((List.Perm.refl _)).symm) (fun _ H locs hI hS => ?_)
  have hI : Iw D A (w_Mo g a0 o1.2 ++ (rest)) H := hI
  refine lv_if_eq (tgt := 19) hx hb d_Mo_breakOff_11 (by decide) (fun hc => ?_) (fun hc => ?_)
  · have h := it_t h hc
    exact t_Mo_breakOff_19 X (lv_sub hl [] rfl) hI hS h
  · have h := it_f h hc
    exact t_Mo_breakOff_14 X (lv_sub hl [0] rfl) hI hS h
set_option maxRecDepth 100000 in
set_option maxHeartbeats 4000000 in
theorem c_Mo_breakOff {l : Launch} {D : va_G} {A : Nat → Prop} {g : Nat → ClassId} {rest : va_W} {a0 : Nat → Nat} {s0 : S_Mo} {out : S_Mo} (h : F_Mo_breakOff s0 = some out) : Met l y_Mo_breakOff ws_Mo_breakOff { frames := 3, cells := 0, slots := 0, locals := 62 } (PcW D A g [.ref (a0 0)] (w_Mo g a0 s0 ++ (rest))) (QcV D A g (fun (_ : Unit) => w_Mo g a0 out ++ (rest))) 0 0 A := by
  refine Met.ofW (cc := prog_11_method_29_code) (maxL := 1) (ret := none) (by decide) rfl ?_
  intro p e s m args below meth c s₁ B hml hv
  obtain ⟨rfl, hI, hK⟩ := hv
  have hl := lv_entry [.ref (a0 0)] (n := 1) (Nat.le_of_ble_eq_true rfl)
  rw [lg_entry_eq]
  generalize (lg_sl [.ref (a0 0)] ++ List.replicate (1 - (lg_sl [.ref (a0 0)]).length) Slot.unset).toArray = ls at hl ⊢
  have hl : lv_has ls 1 [(0, .ref (a0 0))] := hl
  exact t_Mo_breakOff_0 ⟨B.exec, B.bytes, hml, findClass_of_methodNamed B.named, atoms_spec (ws := ws_Mo_breakOff) B.pre, B.returns, B.notSynchronized, hK⟩ (lv_sub hl [0] rfl) hI va_S.rf h
def ws_Mo_number : List Cond := .code y_Mo_number prog_11_method_42_code 5 none :: TB
def B_Mo_number_45 (s0 : S_Mo) : Option S_Mo :=
  some s0
def B_Mo_number_24 (k18 : S_Mo × Int32 × Int32 × Int32 → Option S_Mo) (s0 : S_Mo) (x2 : Int32) (x3 : Int32) (x4 : Int32) : Option S_Mo :=
  ((F_Mo_make s0 ((x2 >>> (((8 : Int32) * x4) &&& 31)) &&& (255 : Int32))).bind fun o1 => (k18 (o1, x2, x3, (x4 + 1))))
def B_Mo_number_18 (k18 : S_Mo × Int32 × Int32 × Int32 → Option S_Mo) (s0 : S_Mo) (x2 : Int32) (x3 : Int32) (x4 : Int32) : Option S_Mo :=
  (if x3 ≤ x4 then (B_Mo_number_45 s0) else (B_Mo_number_24 k18 s0 x2 x3 x4))
def L_Mo_number_18 (v : S_Mo × Int32 × Int32 × Int32) : Option S_Mo := lp (fun k18 v => B_Mo_number_18  k18  v.1 v.2.1 v.2.2.1 v.2.2.2) FU v
def B_Mo_number_0 (s0 : S_Mo) (x1 : Int32) (x2 : Int32) : Option S_Mo :=
  ((F_Mo_bytesOf x2).bind fun o1 => ((F_Mo_make s0 x1).bind fun o3 => ((F_Mo_make o3 o1).bind fun o5 => (L_Mo_number_18 (o5, x2, o1, (0 : Int32))))))
def F_Mo_number (s0 : S_Mo) (x1 : Int32) (x2 : Int32) : Option S_Mo := B_Mo_number_0 s0 x1 x2
set_option maxRecDepth 100000 in
set_option maxHeartbeats 4000000 in
theorem t_Mo_number_45 {p : Program} {l : Launch} {e : Env} {s : State} {m : MethodId} {args : Array Value} {below : List Frame} {meth : Method} {c : Code} {D : va_G} {A : Nat → Prop} {g : Nat → ClassId} {rest : va_W} {a0 : Nat → Nat} {ls : Array Slot} {H : Heap} {locs : List Loc} {s0 : S_Mo} {out : S_Mo} (X : Cx p s m args meth c prog_11_method_42_code 5 ws_Mo_number R_Mo none D g) (hl : lv_has ls 5 []) (hI : Iw D A (w_Mo g a0 s0 ++ (rest)) H) (hS : va_S A s.heap H locs) (h : B_Mo_number_45  s0 = some out) : W p l e (headSpec ws_Mo_number { frames := 2, cells := 0, slots := 0, locals := 42 }).room s m args below meth c H locs 0 0 (MQ below (QcV D A g (fun (_ : Unit) => w_Mo g a0 out ++ (rest))) args s 0 0 A) (F0 m 45 ls []) := by
  have X1 := X
  obtain ⟨hx, hb, hml, hown, hts, hr, hlocks, hKK⟩ := X1
  have ht : ∀ w ∈ TB, w.before args s = true := fun w h => hts w (List.mem_cons_of_mem _ h)
  have hK := hKK.1
  unfold B_Mo_number_45 at h
  have h9 := Option.some.inj h
  subst h9
  exact W.vret hx hb hr (fun t ht hW => ⟨⟨(), rfl, trivial, ⟨by rw [ht]; exact hI, hKK.moved hW⟩⟩, hS.F ht⟩) hS.2.2 d_Mo_number_45
set_option maxRecDepth 100000 in
set_option maxHeartbeats 4000000 in
theorem t_Mo_number_24 {p : Program} {l : Launch} {e : Env} {s : State} {m : MethodId} {args : Array Value} {below : List Frame} {meth : Method} {c : Code} {D : va_G} {A : Nat → Prop} {g : Nat → ClassId} {rest : va_W} {a0 : Nat → Nat} {ls : Array Slot} {H : Heap} {locs : List Loc} {k18 : S_Mo × Int32 × Int32 × Int32 → Option S_Mo} {s0 : S_Mo} {x2 : Int32} {x3 : Int32} {x4 : Int32} {out : S_Mo} (X : Cx p s m args meth c prog_11_method_42_code 5 ws_Mo_number R_Mo none D g) (hk18 : ∀ (v : S_Mo × Int32 × Int32 × Int32) (ls : Array Slot) (H : Heap) (locs : List Loc), lv_has ls 5 [(0, .ref (a0 0)), (2, .int v.2.1), (3, .int v.2.2.1), (4, .int v.2.2.2)] → Iw D A (w_Mo g a0 v.1 ++ (rest)) H → va_S A s.heap H locs → k18 v = some out → W p l e (headSpec ws_Mo_number { frames := 2, cells := 0, slots := 0, locals := 42 }).room s m args below meth c H locs 0 0 (MQ below (QcV D A g (fun (_ : Unit) => w_Mo g a0 out ++ (rest))) args s 0 0 A) (F0 m 18 ls [])) (hl : lv_has ls 5 [(0, .ref (a0 0)), (2, .int x2), (3, .int x3), (4, .int x4)]) (hI : Iw D A (w_Mo g a0 s0 ++ (rest)) H) (hS : va_S A s.heap H locs) (h : B_Mo_number_24 k18 s0 x2 x3 x4 = some out) : W p l e (headSpec ws_Mo_number { frames := 2, cells := 0, slots := 0, locals := 42 }).room s m args below meth c H locs 0 0 (MQ below (QcV D A g (fun (_ : Unit) => w_Mo g a0 out ++ (rest))) args s 0 0 A) (F0 m 24 ls []) := by
  have X1 := X
  obtain ⟨hx, hb, hml, hown, hts, hr, hlocks, hKK⟩ := X1
  have ht : ∀ w ∈ TB, w.before args s = true := fun w h => hts w (List.mem_cons_of_mem _ h)
  have hK := hKK.1
  unfold B_Mo_number_24 at h
  refine lv_aload_n hx hb d_Mo_number_24 rfl (lv_at hl 0 rfl) ?_
  refine lv_iload_n hx hb d_Mo_number_25 rfl (lv_at hl 1 rfl) ?_
  refine lv_bipush (v := 8) hx hb d_Mo_number_26 (by decide) ?_
  refine lv_iload hx hb d_Mo_number_28 (lv_at hl 3 rfl) ?_
  refine lv_imul hx hb d_Mo_number_30 ?_
  refine lv_ishr hx hb d_Mo_number_31 ?_
  refine lv_sipush (v := 255) hx hb d_Mo_number_32 (by decide) ?_
  refine lv_iand hx hb d_Mo_number_35 ?_
  obtain ⟨o1, ho2, h⟩ := bd_s h
  refine cl_v (W1 := fun (_ : Unit) => w_Mo g a0 o1 ++ (rest)) (va_runV (As := [.int ((x2 >>> (((8 : Int32) * x4) &&& 31)) &&& (255 : Int32))]) (rest := []) ⟨hx, hb, hml, hown, ht⟩ (c_Mo_make (l := l) (D := D) (A := A) (g := g) (rest := rest) (a0 := a0) ho2) (cwV 1 ht (gd_V m_1048 m_1050 mp_50 m_11 m_1051) rfl rfl rfl (by decide +kernel) ⟨(Nat.le_of_ble_eq_true rfl), (Nat.le_of_ble_eq_true rfl)⟩) (prV (ci := 9) (q0 := 0) hKK hI (List.Perm.refl _) rfl rfl rfl) rfl rfl hl.1 rfl (lv_room (Nat.le_of_ble_eq_true rfl)) d_Mo_number_36 ⟨(Nat.le_of_ble_eq_true rfl), (Nat.le_of_ble_eq_true rfl)⟩) hS (fun _ => ((List.Perm.refl _)).symm) (fun _ H locs hI hS => ?_)
  have hI : Iw D A (w_Mo g a0 o1 ++ (rest)) H := hI
  refine lv_iinc (k := 3) (v := (x4 + 1)) hx hb d_Mo_number_39 hl rfl (congrArg (fun z => x4 + z) (by decide)) (Nat.le_of_ble_eq_true rfl) rfl (fun ls hl => ?_)
  have hl : lv_has ls 5 [(4, .int (x4 + 1)), (0, .ref (a0 0)), (2, .int x2), (3, .int x3)] := hl
  refine lv_goto (tgt := 18) hx hb d_Mo_number_42 (by decide) ?_
  exact hk18 (o1, x2, x3, (x4 + 1)) _ _ _ (lv_sub hl [1, 2, 3, 0] rfl) hI hS h
set_option maxRecDepth 100000 in
set_option maxHeartbeats 4000000 in
theorem t_Mo_number_18 {p : Program} {l : Launch} {e : Env} {s : State} {m : MethodId} {args : Array Value} {below : List Frame} {meth : Method} {c : Code} {D : va_G} {A : Nat → Prop} {g : Nat → ClassId} {rest : va_W} {a0 : Nat → Nat} {ls : Array Slot} {H : Heap} {locs : List Loc} {k18 : S_Mo × Int32 × Int32 × Int32 → Option S_Mo} {s0 : S_Mo} {x2 : Int32} {x3 : Int32} {x4 : Int32} {out : S_Mo} (X : Cx p s m args meth c prog_11_method_42_code 5 ws_Mo_number R_Mo none D g) (hk18 : ∀ (v : S_Mo × Int32 × Int32 × Int32) (ls : Array Slot) (H : Heap) (locs : List Loc), lv_has ls 5 [(0, .ref (a0 0)), (2, .int v.2.1), (3, .int v.2.2.1), (4, .int v.2.2.2)] → Iw D A (w_Mo g a0 v.1 ++ (rest)) H → va_S A s.heap H locs → k18 v = some out → W p l e (headSpec ws_Mo_number { frames := 2, cells := 0, slots := 0, locals := 42 }).room s m args below meth c H locs 0 0 (MQ below (QcV D A g (fun (_ : Unit) => w_Mo g a0 out ++ (rest))) args s 0 0 A) (F0 m 18 ls [])) (hl : lv_has ls 5 [(0, .ref (a0 0)), (2, .int x2), (3, .int x3), (4, .int x4)]) (hI : Iw D A (w_Mo g a0 s0 ++ (rest)) H) (hS : va_S A s.heap H locs) (h : B_Mo_number_18 k18 s0 x2 x3 x4 = some out) : W p l e (headSpec ws_Mo_number { frames := 2, cells := 0, slots := 0, locals := 42 }).room s m args below meth c H locs 0 0 (MQ below (QcV D A g (fun (_ : Unit) => w_Mo g a0 out ++ (rest))) args s 0 0 A) (F0 m 18 ls []) := by
  have X1 := X
  obtain ⟨hx, hb, hml, hown, hts, hr, hlocks, hKK⟩ := X1
  have ht : ∀ w ∈ TB, w.before args s = true := fun w h => hts w (List.mem_cons_of_mem _ h)
  have hK := hKK.1
  unfold B_Mo_number_18 at h
  refine lv_iload hx hb d_Mo_number_18 (lv_at hl 3 rfl) ?_
  refine lv_iload_n hx hb d_Mo_number_20 rfl (lv_at hl 2 rfl) ?_
  refine lv_icmp_ge (tgt := 45) hx hb d_Mo_number_21 (by decide) (fun hc => ?_) (fun hc => ?_)
  · have h := it_t h hc
    exact t_Mo_number_45 X (lv_sub hl [] rfl) hI hS h
  · have h := it_f h hc
    exact t_Mo_number_24 X hk18 (lv_sub hl [0, 1, 2, 3] rfl) hI hS h
set_option maxRecDepth 100000 in
set_option maxHeartbeats 4000000 in
theorem T_Mo_number_18 {p : Program} {l : Launch} {e : Env} {s : State} {m : MethodId} {args : Array Value} {below : List Frame} {meth : Method} {c : Code} {D : va_G} {A : Nat → Prop} {g : Nat → ClassId} {rest : va_W} {a0 : Nat → Nat} {ls : Array Slot} {H : Heap} {locs : List Loc} {s0 : S_Mo} {x2 : Int32} {x3 : Int32} {x4 : Int32} {out : S_Mo} (X : Cx p s m args meth c prog_11_method_42_code 5 ws_Mo_number R_Mo none D g) (hl : lv_has ls 5 [(0, .ref (a0 0)), (2, .int x2), (3, .int x3), (4, .int x4)]) (hI : Iw D A (w_Mo g a0 s0 ++ (rest)) H) (hS : va_S A s.heap H locs) (h : L_Mo_number_18   (s0, x2, x3, x4) = some out) : W p l e (headSpec ws_Mo_number { frames := 2, cells := 0, slots := 0, locals := 42 }).room s m args below meth c H locs 0 0 (MQ below (QcV D A g (fun (_ : Unit) => w_Mo g a0 out ++ (rest))) args s 0 0 A) (F0 m 18 ls []) := by
  unfold L_Mo_number_18 at h
  exact lp_ind (P := fun v => ∀ (ls : Array Slot) (H : Heap) (locs : List Loc), lv_has ls 5 [(0, .ref (a0 0)), (2, .int v.2.1), (3, .int v.2.2.1), (4, .int v.2.2.2)] → Iw D A (w_Mo g a0 v.1 ++ (rest)) H → va_S A s.heap H locs → W p l e (headSpec ws_Mo_number { frames := 2, cells := 0, slots := 0, locals := 42 }).room s m args below meth c H locs 0 0 (MQ below (QcV D A g (fun (_ : Unit) => w_Mo g a0 out ++ (rest))) args s 0 0 A) (F0 m 18 ls [])) (fun k v ih hb ls H locs  hl hI hS => t_Mo_number_18 X  (fun v' ls H locs  hl hI hS h' => ih v' h' ls H locs  hl hI hS) hl hI hS hb) FU _ h ls H locs  hl hI hS
set_option maxRecDepth 100000 in
set_option maxHeartbeats 4000000 in
theorem t_Mo_number_0 {p : Program} {l : Launch} {e : Env} {s : State} {m : MethodId} {args : Array Value} {below : List Frame} {meth : Method} {c : Code} {D : va_G} {A : Nat → Prop} {g : Nat → ClassId} {rest : va_W} {a0 : Nat → Nat} {ls : Array Slot} {H : Heap} {locs : List Loc} {s0 : S_Mo} {x1 : Int32} {x2 : Int32} {out : S_Mo} (X : Cx p s m args meth c prog_11_method_42_code 5 ws_Mo_number R_Mo none D g) (hl : lv_has ls 5 [(0, .ref (a0 0)), (1, .int x1), (2, .int x2)]) (hI : Iw D A (w_Mo g a0 s0 ++ (rest)) H) (hS : va_S A s.heap H locs) (h : B_Mo_number_0  s0 x1 x2 = some out) : W p l e (headSpec ws_Mo_number { frames := 2, cells := 0, slots := 0, locals := 42 }).room s m args below meth c H locs 0 0 (MQ below (QcV D A g (fun (_ : Unit) => w_Mo g a0 out ++ (rest))) args s 0 0 A) (F0 m 0 ls []) := by
  have X1 := X
  obtain ⟨hx, hb, hml, hown, hts, hr, hlocks, hKK⟩ := X1
  have ht : ∀ w ∈ TB, w.before args s = true := fun w h => hts w (List.mem_cons_of_mem _ h)
  have hK := hKK.1
  unfold B_Mo_number_0 at h
  refine lv_iload_n hx hb d_Mo_number_0 rfl (lv_at hl 2 rfl) ?_
  obtain ⟨o1, ho2, h⟩ := bd_s h
  refine cl_i (W1 := fun (_ : Unit) => w_Mo g a0 s0 ++ (rest)) (va_runS (As := [.int x2]) (rest := []) ⟨hx, hb, hml, hown, ht⟩ (c_Mo_bytesOf (l := l) (D := D) (A := A) (g := g) (rest := w_Mo g a0 s0 ++ (rest))  ho2) (va_cwS 1 ht (gd_S m_1039 m_1040 m_11 m_1041) rfl rfl rfl (by decide +kernel) ⟨(Nat.le_of_ble_eq_true rfl), (Nat.le_of_ble_eq_true rfl)⟩) (prS hKK hI (List.Perm.refl _)) rfl rfl hl.1 rfl (lv_room (Nat.le_of_ble_eq_true rfl)) d_Mo_number_1 ⟨(Nat.le_of_ble_eq_true rfl), (Nat.le_of_ble_eq_true rfl)⟩) hS (fun _ => ((List.Perm.refl _)).symm) (fun _ H locs hI hS => ?_)
  have hI : Iw D A (w_Mo g a0 s0 ++ (rest)) H := hI
  refine lv_istore_n hx hb d_Mo_number_4 rfl hl (Nat.le_of_ble_eq_true rfl) rfl (fun ls hl => ?_)
  have hl : lv_has ls 5 [(3, .int o1), (0, .ref (a0 0)), (1, .int x1), (2, .int x2)] := hl
  refine lv_aload_n hx hb d_Mo_number_5 rfl (lv_at hl 1 rfl) ?_
  refine lv_iload_n hx hb d_Mo_number_6 rfl (lv_at hl 2 rfl) ?_
  obtain ⟨o3, ho4, h⟩ := bd_s h
  refine cl_v (W1 := fun (_ : Unit) => w_Mo g a0 o3 ++ (rest)) (va_runV (As := [.int x1]) (rest := []) ⟨hx, hb, hml, hown, ht⟩ (c_Mo_make (l := l) (D := D) (A := A) (g := g) (rest := rest) (a0 := a0) ho4) (cwV 1 ht (gd_V m_1048 m_1050 mp_50 m_11 m_1051) rfl rfl rfl (by decide +kernel) ⟨(Nat.le_of_ble_eq_true rfl), (Nat.le_of_ble_eq_true rfl)⟩) (prV (ci := 9) (q0 := 0) hKK hI (List.Perm.refl _) rfl rfl rfl) rfl rfl hl.1 rfl (lv_room (Nat.le_of_ble_eq_true rfl)) d_Mo_number_7 ⟨(Nat.le_of_ble_eq_true rfl), (Nat.le_of_ble_eq_true rfl)⟩) hS (fun _ => ((List.Perm.refl _)).symm) (fun _ H locs hI hS => ?_)
  have hI : Iw D A (w_Mo g a0 o3 ++ (rest)) H := hI
  refine lv_aload_n hx hb d_Mo_number_10 rfl (lv_at hl 1 rfl) ?_
  refine lv_iload_n hx hb d_Mo_number_11 rfl (lv_at hl 0 rfl) ?_
  obtain ⟨o5, ho6, h⟩ := bd_s h
  refine cl_v (W1 := fun (_ : Unit) => w_Mo g a0 o5 ++ (rest)) (va_runV (As := [.int o1]) (rest := []) ⟨hx, hb, hml, hown, ht⟩ (c_Mo_make (l := l) (D := D) (A := A) (g := g) (rest := rest) (a0 := a0) ho6) (cwV 1 ht (gd_V m_1048 m_1050 mp_50 m_11 m_1051) rfl rfl rfl (by decide +kernel) ⟨(Nat.le_of_ble_eq_true rfl), (Nat.le_of_ble_eq_true rfl)⟩) (prV (ci := 9) (q0 := 0) hKK hI (List.Perm.refl _) rfl rfl rfl) rfl rfl hl.1 rfl (lv_room (Nat.le_of_ble_eq_true rfl)) d_Mo_number_12 ⟨(Nat.le_of_ble_eq_true rfl), (Nat.le_of_ble_eq_true rfl)⟩) hS (fun _ => ((List.Perm.refl _)).symm) (fun _ H locs hI hS => ?_)
  have hI : Iw D A (w_Mo g a0 o5 ++ (rest)) H := hI
  refine lv_iconst (v := 0) hx hb d_Mo_number_15 (by decide) ?_
  refine lv_istore hx hb d_Mo_number_16 hl (Nat.le_of_ble_eq_true rfl) rfl (fun ls hl => ?_)
  have hl : lv_has ls 5 [(4, .int (0 : Int32)), (3, .int o1), (0, .ref (a0 0)), (1, .int x1), (2, .int x2)] := hl
  exact T_Mo_number_18 X (lv_sub hl [2, 4, 1, 0] rfl) hI hS h
set_option maxRecDepth 100000 in
set_option maxHeartbeats 4000000 in
theorem c_Mo_number {l : Launch} {D : va_G} {A : Nat → Prop} {g : Nat → ClassId} {rest : va_W} {a0 : Nat → Nat} {s0 : S_Mo} {x1 : Int32} {x2 : Int32} {out : S_Mo} (h : F_Mo_number s0 x1 x2 = some out) : Met l y_Mo_number ws_Mo_number { frames := 2, cells := 0, slots := 0, locals := 42 } (PcW D A g [.ref (a0 0), .int x1, .int x2] (w_Mo g a0 s0 ++ (rest))) (QcV D A g (fun (_ : Unit) => w_Mo g a0 out ++ (rest))) 0 0 A := by
  refine Met.ofW (cc := prog_11_method_42_code) (maxL := 5) (ret := none) (by decide) rfl ?_
  intro p e s m args below meth c s₁ B hml hv
  obtain ⟨rfl, hI, hK⟩ := hv
  have hl := lv_entry [.ref (a0 0), .int x1, .int x2] (n := 5) (Nat.le_of_ble_eq_true rfl)
  rw [lg_entry_eq]
  generalize (lg_sl [.ref (a0 0), .int x1, .int x2] ++ List.replicate (5 - (lg_sl [.ref (a0 0), .int x1, .int x2]).length) Slot.unset).toArray = ls at hl ⊢
  have hl : lv_has ls 5 [(0, .ref (a0 0)), (1, .int x1), (2, .int x2)] := hl
  exact t_Mo_number_0 ⟨B.exec, B.bytes, hml, findClass_of_methodNamed B.named, atoms_spec (ws := ws_Mo_number) B.pre, B.returns, B.notSynchronized, hK⟩ (lv_sub hl [0, 1, 2] rfl) hI va_S.rf h
def ws_Mo_replies : List Cond := .code y_Mo_replies prog_11_method_43_code 3 (some .boolean) :: TB
def B_Mo_replies_55 (s0 : S_Mo) (x1 : Int32) (y0 : Int32) (y1 : Int32) : Option (Int32 × S_Mo) :=
  ((F_Mo_number s0 y1 y0).bind fun o1 => ((F_Mo_number o1 (4 : Int32) x1).bind fun o3 => ((F_Mo_sends o3 (4 : Int32)).bind fun o5 => (if o5.1 = 0 ∨ o5.1 = 1 then some (o5.1, o5.2) else none))))
def B_Mo_replies_54 (s0 : S_Mo) (x1 : Int32) (y0 : Int32) : Option (Int32 × S_Mo) :=
  (B_Mo_replies_55 s0 x1 (0 : Int32) y0)
def B_Mo_replies_50 (s0 : S_Mo) (x1 : Int32) (y0 : Int32) : Option (Int32 × S_Mo) :=
  (B_Mo_replies_55 s0 x1 (1 : Int32) y0)
def B_Mo_replies_0 (s0 : S_Mo) (x1 : Int32) (x2 : Int32) : Option (Int32 × S_Mo) :=
  (if ((Mo_speaker (Mo_set_makes s0 (0 : Int32))) < 0 ∨ 4 ≤ (Mo_speaker (Mo_set_makes s0 (0 : Int32))).toNatClampNeg) then none else ((F_Mo_make (Mo_set_makes s0 (0 : Int32)) ((Mo_ids (Mo_set_makes s0 (0 : Int32))) (Mo_speaker (Mo_set_makes s0 (0 : Int32))).toNatClampNeg)).bind fun o2 => ((F_Mo_make o2 (3 : Int32)).bind fun o4 => ((F_Mo_number o4 (1 : Int32) ((Mo_what o4) + (16 : Int32))).bind fun o6 => ((F_Mo_number o6 (2 : Int32) (Mo_message o6)).bind fun o8 => (if x2 = 0 then (B_Mo_replies_54 o8 x1 (3 : Int32)) else (B_Mo_replies_50 o8 x1 (3 : Int32))))))))
def F_Mo_replies (s0 : S_Mo) (x1 : Int32) (x2 : Int32) : Option (Int32 × S_Mo) := B_Mo_replies_0 s0 x1 x2
set_option maxRecDepth 100000 in
set_option maxHeartbeats 4000000 in
theorem t_Mo_replies_55 {p : Program} {l : Launch} {e : Env} {s : State} {m : MethodId} {args : Array Value} {below : List Frame} {meth : Method} {c : Code} {D : va_G} {A : Nat → Prop} {g : Nat → ClassId} {rest : va_W} {a0 : Nat → Nat} {ls : Array Slot} {H : Heap} {locs : List Loc} {s0 : S_Mo} {x1 : Int32} {y0 : Int32} {y1 : Int32} {out : Int32 × S_Mo} (X : Cx p s m args meth c prog_11_method_43_code 3 ws_Mo_replies R_Mo (some .boolean) D g) (hl : lv_has ls 3 [(0, .ref (a0 0)), (1, .int x1)]) (hI : Iw D A (w_Mo g a0 s0 ++ (rest)) H) (hS : va_S A s.heap H locs) (h : B_Mo_replies_55  s0 x1 y0 y1 = some out) : W p l e (headSpec ws_Mo_replies { frames := 3, cells := 0, slots := 0, locals := 66 }).room s m args below meth c H locs 0 0 (MQ below (QcI D A g out.1 (fun (_ : Unit) => w_Mo g a0 out.2 ++ (rest))) args s 0 0 A) (F0 m 55 ls [.int y0, .int y1, .ref (a0 0)]) := by
  have X1 := X
  obtain ⟨hx, hb, hml, hown, hts, hr, hlocks, hKK⟩ := X1
  have ht : ∀ w ∈ TB, w.before args s = true := fun w h => hts w (List.mem_cons_of_mem _ h)
  have hK := hKK.1
  unfold B_Mo_replies_55 at h
  obtain ⟨o1, ho2, h⟩ := bd_s h
  refine cl_v (W1 := fun (_ : Unit) => w_Mo g a0 o1 ++ (rest)) (va_runV (As := [.int y1, .int y0]) (rest := []) ⟨hx, hb, hml, hown, ht⟩ (c_Mo_number (l := l) (D := D) (A := A) (g := g) (rest := rest) (a0 := a0) ho2) (cwV 2 ht (gd_V m_1124 m_1126 mp_65 m_11 m_1127) rfl rfl rfl (by decide +kernel) ⟨(Nat.le_of_ble_eq_true rfl), (Nat.le_of_ble_eq_true rfl)⟩) (prV (ci := 9) (q0 := 0) hKK hI (List.Perm.refl _) rfl rfl rfl) rfl rfl hl.1 rfl (lv_room (Nat.le_of_ble_eq_true rfl)) d_Mo_replies_55 ⟨(Nat.le_of_ble_eq_true rfl), (Nat.le_of_ble_eq_true rfl)⟩) hS (fun _ => ((List.Perm.refl _)).symm) (fun _ H locs hI hS => ?_)
  have hI : Iw D A (w_Mo g a0 o1 ++ (rest)) H := hI
  refine lv_aload_n hx hb d_Mo_replies_58 rfl (lv_at hl 0 rfl) ?_
  refine lv_iconst (v := 4) hx hb d_Mo_replies_59 (by decide) ?_
  refine lv_iload_n hx hb d_Mo_replies_60 rfl (lv_at hl 1 rfl) ?_
  obtain ⟨o3, ho4, h⟩ := bd_s h
  refine cl_v (W1 := fun (_ : Unit) => w_Mo g a0 o3 ++ (rest)) (va_runV (As := [.int (4 : Int32), .int x1]) (rest := []) ⟨hx, hb, hml, hown, ht⟩ (c_Mo_number (l := l) (D := D) (A := A) (g := g) (rest := rest) (a0 := a0) ho4) (cwV 2 ht (gd_V m_1124 m_1126 mp_65 m_11 m_1127) rfl rfl rfl (by decide +kernel) ⟨(Nat.le_of_ble_eq_true rfl), (Nat.le_of_ble_eq_true rfl)⟩) (prV (ci := 9) (q0 := 0) hKK hI (List.Perm.refl _) rfl rfl rfl) rfl rfl hl.1 rfl (lv_room (Nat.le_of_ble_eq_true rfl)) d_Mo_replies_61 ⟨(Nat.le_of_ble_eq_true rfl), (Nat.le_of_ble_eq_true rfl)⟩) hS (fun _ => ((List.Perm.refl _)).symm) (fun _ H locs hI hS => ?_)
  have hI : Iw D A (w_Mo g a0 o3 ++ (rest)) H := hI
  refine lv_aload_n hx hb d_Mo_replies_64 rfl (lv_at hl 0 rfl) ?_
  refine lv_iconst (v := 4) hx hb d_Mo_replies_65 (by decide) ?_
  obtain ⟨o5, ho6, h⟩ := bd_s h
  refine cl_i (W1 := fun (_ : Unit) => w_Mo g a0 o5.2 ++ (rest)) (va_runV (As := [.int (4 : Int32)]) (rest := []) ⟨hx, hb, hml, hown, ht⟩ (c_Mo_sends (l := l) (D := D) (A := A) (g := g) (rest := rest) (a0 := a0) ho6) (cwV 1 ht (gd_V m_1092 m_1094 mp_57 m_11 m_1095) rfl rfl rfl (by decide +kernel) ⟨(Nat.le_of_ble_eq_true rfl), (Nat.le_of_ble_eq_true rfl)⟩) (prV (ci := 9) (q0 := 0) hKK hI (List.Perm.refl _) rfl rfl rfl) rfl rfl hl.1 rfl (lv_room (Nat.le_of_ble_eq_true rfl)) d_Mo_replies_66 ⟨(Nat.le_of_ble_eq_true rfl), (Nat.le_of_ble_eq_true rfl)⟩) hS (fun _ => ((List.Perm.refl _)).symm) (fun _ H locs hI hS => ?_)
  have hI : Iw D A (w_Mo g a0 o5.2 ++ (rest)) H := hI
  have hc7 : o5.1 = 0 ∨ o5.1 = 1 := by
    by_cases z : o5.1 = 0 ∨ o5.1 = 1
    · exact z
    · exact no_s (it_f h z)
  have h := it_t h hc7
  have h9 := Option.some.inj h
  subst h9
  exact W.zret (v := o5.1) hx hb hr (by rcases hc7 with z | z <;> rw [z] <;> rfl) (fun t ht hW => ⟨⟨_, (), rfl, rfl, ⟨by rw [ht]; exact hI, hKK.moved hW⟩⟩, hS.F ht⟩) hS.2.2 d_Mo_replies_69
set_option maxRecDepth 100000 in
set_option maxHeartbeats 4000000 in
theorem t_Mo_replies_54 {p : Program} {l : Launch} {e : Env} {s : State} {m : MethodId} {args : Array Value} {below : List Frame} {meth : Method} {c : Code} {D : va_G} {A : Nat → Prop} {g : Nat → ClassId} {rest : va_W} {a0 : Nat → Nat} {ls : Array Slot} {H : Heap} {locs : List Loc} {s0 : S_Mo} {x1 : Int32} {y0 : Int32} {out : Int32 × S_Mo} (X : Cx p s m args meth c prog_11_method_43_code 3 ws_Mo_replies R_Mo (some .boolean) D g) (hl : lv_has ls 3 [(0, .ref (a0 0)), (1, .int x1)]) (hI : Iw D A (w_Mo g a0 s0 ++ (rest)) H) (hS : va_S A s.heap H locs) (h : B_Mo_replies_54  s0 x1 y0 = some out) : W p l e (headSpec ws_Mo_replies { frames := 3, cells := 0, slots := 0, locals := 66 }).room s m args below meth c H locs 0 0 (MQ below (QcI D A g out.1 (fun (_ : Unit) => w_Mo g a0 out.2 ++ (rest))) args s 0 0 A) (F0 m 54 ls [.int y0, .ref (a0 0)]) := by
  have X1 := X
  obtain ⟨hx, hb, hml, hown, hts, hr, hlocks, hKK⟩ := X1
  have ht : ∀ w ∈ TB, w.before args s = true := fun w h => hts w (List.mem_cons_of_mem _ h)
  have hK := hKK.1
  unfold B_Mo_replies_54 at h
  refine lv_iconst (v := 0) hx hb d_Mo_replies_54 (by decide) ?_
  exact t_Mo_replies_55 X (lv_sub hl [0, 1] rfl) hI hS h
set_option maxRecDepth 100000 in
set_option maxHeartbeats 4000000 in
theorem t_Mo_replies_50 {p : Program} {l : Launch} {e : Env} {s : State} {m : MethodId} {args : Array Value} {below : List Frame} {meth : Method} {c : Code} {D : va_G} {A : Nat → Prop} {g : Nat → ClassId} {rest : va_W} {a0 : Nat → Nat} {ls : Array Slot} {H : Heap} {locs : List Loc} {s0 : S_Mo} {x1 : Int32} {y0 : Int32} {out : Int32 × S_Mo} (X : Cx p s m args meth c prog_11_method_43_code 3 ws_Mo_replies R_Mo (some .boolean) D g) (hl : lv_has ls 3 [(0, .ref (a0 0)), (1, .int x1)]) (hI : Iw D A (w_Mo g a0 s0 ++ (rest)) H) (hS : va_S A s.heap H locs) (h : B_Mo_replies_50  s0 x1 y0 = some out) : W p l e (headSpec ws_Mo_replies { frames := 3, cells := 0, slots := 0, locals := 66 }).room s m args below meth c H locs 0 0 (MQ below (QcI D A g out.1 (fun (_ : Unit) => w_Mo g a0 out.2 ++ (rest))) args s 0 0 A) (F0 m 50 ls [.int y0, .ref (a0 0)]) := by
  have X1 := X
  obtain ⟨hx, hb, hml, hown, hts, hr, hlocks, hKK⟩ := X1
  have ht : ∀ w ∈ TB, w.before args s = true := fun w h => hts w (List.mem_cons_of_mem _ h)
  have hK := hKK.1
  unfold B_Mo_replies_50 at h
  refine lv_iconst (v := 1) hx hb d_Mo_replies_50 (by decide) ?_
  refine lv_goto (tgt := 55) hx hb d_Mo_replies_51 (by decide) ?_
  exact t_Mo_replies_55 X (lv_sub hl [0, 1] rfl) hI hS h
set_option maxRecDepth 100000 in
set_option maxHeartbeats 4000000 in
theorem t_Mo_replies_0 {p : Program} {l : Launch} {e : Env} {s : State} {m : MethodId} {args : Array Value} {below : List Frame} {meth : Method} {c : Code} {D : va_G} {A : Nat → Prop} {g : Nat → ClassId} {rest : va_W} {a0 : Nat → Nat} {ls : Array Slot} {H : Heap} {locs : List Loc} {s0 : S_Mo} {x1 : Int32} {x2 : Int32} {out : Int32 × S_Mo} (X : Cx p s m args meth c prog_11_method_43_code 3 ws_Mo_replies R_Mo (some .boolean) D g) (hl : lv_has ls 3 [(0, .ref (a0 0)), (1, .int x1), (2, .int x2)]) (hI : Iw D A (w_Mo g a0 s0 ++ (rest)) H) (hS : va_S A s.heap H locs) (h : B_Mo_replies_0  s0 x1 x2 = some out) : W p l e (headSpec ws_Mo_replies { frames := 3, cells := 0, slots := 0, locals := 66 }).room s m args below meth c H locs 0 0 (MQ below (QcI D A g out.1 (fun (_ : Unit) => w_Mo g a0 out.2 ++ (rest))) args s 0 0 A) (F0 m 0 ls []) := by
  have X1 := X
  obtain ⟨hx, hb, hml, hown, hts, hr, hlocks, hKK⟩ := X1
  have ht : ∀ w ∈ TB, w.before args s = true := fun w h => hts w (List.mem_cons_of_mem _ h)
  have hK := hKK.1
  unfold B_Mo_replies_0 at h
  refine lv_aload_n hx hb d_Mo_replies_0 rfl (lv_at hl 0 rfl) ?_
  refine lv_iconst (v := 0) hx hb d_Mo_replies_1 (by decide) ?_
  refine pt_Mo_makes hx hb ht hown hK hI hS (ht _ m_843) d_Mo_replies_2 (fun H locs hI hS => ?_)
  refine lv_aload_n hx hb d_Mo_replies_5 rfl (lv_at hl 0 rfl) ?_
  refine lv_aload_n hx hb d_Mo_replies_6 rfl (lv_at hl 0 rfl) ?_
  refine gt_Mo_ids hx hb ht hown hK hI (ht _ m_851) d_Mo_replies_7 ?_
  refine lv_aload_n hx hb d_Mo_replies_10 rfl (lv_at hl 0 rfl) ?_
  refine gt_Mo_speaker hx hb ht hown hK hI (ht _ m_859) d_Mo_replies_11 ?_
  by_cases hc1 : ((Mo_speaker (Mo_set_makes s0 (0 : Int32))) < 0 ∨ 4 ≤ (Mo_speaker (Mo_set_makes s0 (0 : Int32))).toNatClampNeg)
  · exact no_s (it_t h hc1)
  have h := it_f h hc1
  refine al_Mo_ids hx hb hK hI hc1 d_Mo_replies_14 ?_
  obtain ⟨o2, ho3, h⟩ := bd_s h
  refine cl_v (W1 := fun (_ : Unit) => w_Mo g a0 o2 ++ (rest)) (va_runV (As := [.int ((Mo_ids (Mo_set_makes s0 (0 : Int32))) (Mo_speaker (Mo_set_makes s0 (0 : Int32))).toNatClampNeg)]) (rest := []) ⟨hx, hb, hml, hown, ht⟩ (c_Mo_make (l := l) (D := D) (A := A) (g := g) (rest := rest) (a0 := a0) ho3) (cwV 1 ht (gd_V m_1048 m_1050 mp_50 m_11 m_1051) rfl rfl rfl (by decide +kernel) ⟨(Nat.le_of_ble_eq_true rfl), (Nat.le_of_ble_eq_true rfl)⟩) (prV (ci := 9) (q0 := 0) hKK hI (List.Perm.refl _) rfl rfl rfl) rfl rfl hl.1 rfl (lv_room (Nat.le_of_ble_eq_true rfl)) d_Mo_replies_15 ⟨(Nat.le_of_ble_eq_true rfl), (Nat.le_of_ble_eq_true rfl)⟩) hS (fun _ => ((List.Perm.refl _)).symm) (fun _ H locs hI hS => ?_)
  have hI : Iw D A (w_Mo g a0 o2 ++ (rest)) H := hI
  refine lv_aload_n hx hb d_Mo_replies_18 rfl (lv_at hl 0 rfl) ?_
  refine lv_iconst (v := 3) hx hb d_Mo_replies_19 (by decide) ?_
  obtain ⟨o4, ho5, h⟩ := bd_s h
  refine cl_v (W1 := fun (_ : Unit) => w_Mo g a0 o4 ++ (rest)) (va_runV (As := [.int (3 : Int32)]) (rest := []) ⟨hx, hb, hml, hown, ht⟩ (c_Mo_make (l := l) (D := D) (A := A) (g := g) (rest := rest) (a0 := a0) ho5) (cwV 1 ht (gd_V m_1048 m_1050 mp_50 m_11 m_1051) rfl rfl rfl (by decide +kernel) ⟨(Nat.le_of_ble_eq_true rfl), (Nat.le_of_ble_eq_true rfl)⟩) (prV (ci := 9) (q0 := 0) hKK hI (List.Perm.refl _) rfl rfl rfl) rfl rfl hl.1 rfl (lv_room (Nat.le_of_ble_eq_true rfl)) d_Mo_replies_20 ⟨(Nat.le_of_ble_eq_true rfl), (Nat.le_of_ble_eq_true rfl)⟩) hS (fun _ => ((List.Perm.refl _)).symm) (fun _ H locs hI hS => ?_)
  have hI : Iw D A (w_Mo g a0 o4 ++ (rest)) H := hI
  refine lv_aload_n hx hb d_Mo_replies_23 rfl (lv_at hl 0 rfl) ?_
  refine lv_iconst (v := 1) hx hb d_Mo_replies_24 (by decide) ?_
  refine lv_aload_n hx hb d_Mo_replies_25 rfl (lv_at hl 0 rfl) ?_
  refine gt_Mo_what hx hb ht hown hK hI (ht _ m_860) d_Mo_replies_26 ?_
  refine lv_bipush (v := 16) hx hb d_Mo_replies_29 (by decide) ?_
  refine lv_iadd hx hb d_Mo_replies_31 ?_
  obtain ⟨o6, ho7, h⟩ := bd_s h
  refine cl_v (W1 := fun (_ : Unit) => w_Mo g a0 o6 ++ (rest)) (va_runV (As := [.int (1 : Int32), .int ((Mo_what o4) + (16 : Int32))]) (rest := []) ⟨hx, hb, hml, hown, ht⟩ (c_Mo_number (l := l) (D := D) (A := A) (g := g) (rest := rest) (a0 := a0) ho7) (cwV 2 ht (gd_V m_1124 m_1126 mp_65 m_11 m_1127) rfl rfl rfl (by decide +kernel) ⟨(Nat.le_of_ble_eq_true rfl), (Nat.le_of_ble_eq_true rfl)⟩) (prV (ci := 9) (q0 := 0) hKK hI (List.Perm.refl _) rfl rfl rfl) rfl rfl hl.1 rfl (lv_room (Nat.le_of_ble_eq_true rfl)) d_Mo_replies_32 ⟨(Nat.le_of_ble_eq_true rfl), (Nat.le_of_ble_eq_true rfl)⟩) hS (fun _ => ((List.Perm.refl _)).symm) (fun _ H locs hI hS => ?_)
  have hI : Iw D A (w_Mo g a0 o6 ++ (rest)) H := hI
  refine lv_aload_n hx hb d_Mo_replies_35 rfl (lv_at hl 0 rfl) ?_
  refine lv_iconst (v := 2) hx hb d_Mo_replies_36 (by decide) ?_
  refine lv_aload_n hx hb d_Mo_replies_37 rfl (lv_at hl 0 rfl) ?_
  refine gt_Mo_message hx hb ht hown hK hI (ht _ m_861) d_Mo_replies_38 ?_
  obtain ⟨o8, ho9, h⟩ := bd_s h
  refine cl_v (W1 := fun (_ : Unit) => w_Mo g a0 o8 ++ (rest)) (va_runV (As := [.int (2 : Int32), .int (Mo_message o6)]) (rest := []) ⟨hx, hb, hml, hown, ht⟩ (c_Mo_number (l := l) (D := D) (A := A) (g := g) (rest := rest) (a0 := a0) ho9) (cwV 2 ht (gd_V m_1124 m_1126 mp_65 m_11 m_1127) rfl rfl rfl (by decide +kernel) ⟨(Nat.le_of_ble_eq_true rfl), (Nat.le_of_ble_eq_true rfl)⟩) (prV (ci := 9) (q0 := 0) hKK hI (List.Perm.refl _) rfl rfl rfl) rfl rfl hl.1 rfl (lv_room (Nat.le_of_ble_eq_true rfl)) d_Mo_replies_41 ⟨(Nat.le_of_ble_eq_true rfl), (Nat.le_of_ble_eq_true rfl)⟩) hS (fun _ => ((List.Perm.refl _)).symm) (fun _ H locs hI hS => ?_)
  have hI : Iw D A (w_Mo g a0 o8 ++ (rest)) H := hI
  refine lv_aload_n hx hb d_Mo_replies_44 rfl (lv_at hl 0 rfl) ?_
  refine lv_iconst (v := 3) hx hb d_Mo_replies_45 (by decide) ?_
  refine lv_iload_n hx hb d_Mo_replies_46 rfl (lv_at hl 2 rfl) ?_
  refine lv_if_eq (tgt := 54) hx hb d_Mo_replies_47 (by decide) (fun hc => ?_) (fun hc => ?_)
  · have h := it_t h hc
    exact t_Mo_replies_54 X (lv_sub hl [0, 1] rfl) hI hS h
  · have h := it_f h hc
    exact t_Mo_replies_50 X (lv_sub hl [0, 1] rfl) hI hS h
set_option maxRecDepth 100000 in
set_option maxHeartbeats 4000000 in
theorem c_Mo_replies {l : Launch} {D : va_G} {A : Nat → Prop} {g : Nat → ClassId} {rest : va_W} {a0 : Nat → Nat} {s0 : S_Mo} {x1 : Int32} {x2 : Int32} {out : Int32 × S_Mo} (h : F_Mo_replies s0 x1 x2 = some out) : Met l y_Mo_replies ws_Mo_replies { frames := 3, cells := 0, slots := 0, locals := 66 } (PcW D A g [.ref (a0 0), .int x1, .int x2] (w_Mo g a0 s0 ++ (rest))) (QcI D A g out.1 (fun (_ : Unit) => w_Mo g a0 out.2 ++ (rest))) 0 0 A := by
  refine Met.ofW (cc := prog_11_method_43_code) (maxL := 3) (ret := (some .boolean)) (by decide) rfl ?_
  intro p e s m args below meth c s₁ B hml hv
  obtain ⟨rfl, hI, hK⟩ := hv
  have hl := lv_entry [.ref (a0 0), .int x1, .int x2] (n := 3) (Nat.le_of_ble_eq_true rfl)
  rw [lg_entry_eq]
  generalize (lg_sl [.ref (a0 0), .int x1, .int x2] ++ List.replicate (3 - (lg_sl [.ref (a0 0), .int x1, .int x2]).length) Slot.unset).toArray = ls at hl ⊢
  have hl : lv_has ls 3 [(0, .ref (a0 0)), (1, .int x1), (2, .int x2)] := hl
  exact t_Mo_replies_0 ⟨B.exec, B.bytes, hml, findClass_of_methodNamed B.named, atoms_spec (ws := ws_Mo_replies) B.pre, B.returns, B.notSynchronized, hK⟩ (lv_sub hl [0, 1, 2] rfl) hI va_S.rf h
def ws_Mo_shows : List Cond := .code y_Mo_shows prog_11_method_49_code 5 (some .boolean) :: TB
def B_Mo_shows_144 (s0 : S_Mo) : Option (Int32 × S_Mo) :=
  ((F_Mo_sends s0 (4 : Int32)).bind fun o1 => (if o1.1 = 0 ∨ o1.1 = 1 then some (o1.1, o1.2) else none))
def B_Mo_shows_134 (k39 : S_Mo × Int32 × Int32 → Option (Int32 × S_Mo)) (s0 : S_Mo) (x1 : Int32) (x2 : Int32) : Option (Int32 × S_Mo) :=
  (if (x2 < 0 ∨ 260 ≤ x2.toNatClampNeg) then none else (k39 (s0, x1, ((Mo_next s0) x2.toNatClampNeg))))
def B_Mo_shows_130 (k39 : S_Mo × Int32 × Int32 → Option (Int32 × S_Mo)) (s0 : S_Mo) (x1 : Int32) (x2 : Int32) (y0 : Int32) (y1 : Int32) : Option (Int32 × S_Mo) :=
  ((F_Mo_write s0 y1 y0 x1).bind fun o1 => (B_Mo_shows_134 k39 o1 x1 x2))
def B_Mo_shows_124 (k39 : S_Mo × Int32 × Int32 → Option (Int32 × S_Mo)) (s0 : S_Mo) (x1 : Int32) (x2 : Int32) (y0 : Int32) : Option (Int32 × S_Mo) :=
  (if (x2 < 0 ∨ 260 ≤ x2.toNatClampNeg) then none else (B_Mo_shows_130 k39 s0 x1 x2 ((Mo_next s0) x2.toNatClampNeg) y0))
def B_Mo_shows_111 (k39 : S_Mo × Int32 × Int32 → Option (Int32 × S_Mo)) (s0 : S_Mo) (x1 : Int32) (x2 : Int32) (y0 : Int32) : Option (Int32 × S_Mo) :=
  (if ((1 : Int32) < 0 ∨ 2 ≤ (1 : Int32).toNatClampNeg) then none else (B_Mo_shows_130 k39 s0 x1 x2 ((130 : Int32) + ((Mo_count s0) (1 : Int32).toNatClampNeg)) y0))
def B_Mo_shows_100 (k39 : S_Mo × Int32 × Int32 → Option (Int32 × S_Mo)) (s0 : S_Mo) (x1 : Int32) (x2 : Int32) : Option (Int32 × S_Mo) :=
  (if (x2 < 0 ∨ 260 ≤ x2.toNatClampNeg) then none else (if 0 ≤ ((Mo_next s0) x2.toNatClampNeg) then (B_Mo_shows_124 k39 s0 x1 x2 x2) else (B_Mo_shows_111 k39 s0 x1 x2 x2)))
def B_Mo_shows_96 (k39 : S_Mo × Int32 × Int32 → Option (Int32 × S_Mo)) (s0 : S_Mo) (x1 : Int32) (x2 : Int32) (x3 : Int32) : Option (Int32 × S_Mo) :=
  (if x3 = 0 then (B_Mo_shows_134 k39 s0 x1 x2) else (B_Mo_shows_100 k39 s0 x1 x2))
def B_Mo_shows_83 (k39 : S_Mo × Int32 × Int32 → Option (Int32 × S_Mo)) (k53 : S_Mo × Int32 × Int32 × Int32 × Int32 → Option (Int32 × S_Mo)) (s0 : S_Mo) (x1 : Int32) (x2 : Int32) (x4 : Int32) (y0 : Int32) : Option (Int32 × S_Mo) :=
  (if (x4 < 0 ∨ 260 ≤ x4.toNatClampNeg) then none else (k53 (s0, x1, x2, y0, ((Mo_next s0) x4.toNatClampNeg))))
def B_Mo_shows_78 (k39 : S_Mo × Int32 × Int32 → Option (Int32 × S_Mo)) (k53 : S_Mo × Int32 × Int32 × Int32 × Int32 → Option (Int32 × S_Mo)) (s0 : S_Mo) (x1 : Int32) (x2 : Int32) (x4 : Int32) : Option (Int32 × S_Mo) :=
  (B_Mo_shows_83 k39 k53 s0 x1 x2 x4 (1 : Int32))
def B_Mo_shows_82 (k39 : S_Mo × Int32 × Int32 → Option (Int32 × S_Mo)) (k53 : S_Mo × Int32 × Int32 × Int32 × Int32 → Option (Int32 × S_Mo)) (s0 : S_Mo) (x1 : Int32) (x2 : Int32) (x4 : Int32) : Option (Int32 × S_Mo) :=
  (B_Mo_shows_83 k39 k53 s0 x1 x2 x4 (0 : Int32))
def B_Mo_shows_62 (k39 : S_Mo × Int32 × Int32 → Option (Int32 × S_Mo)) (k53 : S_Mo × Int32 × Int32 × Int32 × Int32 → Option (Int32 × S_Mo)) (s0 : S_Mo) (x1 : Int32) (x2 : Int32) (x4 : Int32) : Option (Int32 × S_Mo) :=
  (if (x4 < 0 ∨ 260 ≤ x4.toNatClampNeg) then none else (if (x2 < 0 ∨ 260 ≤ x2.toNatClampNeg) then none else (if ((Mo_tag s0) x4.toNatClampNeg) = ((Mo_tag s0) x2.toNatClampNeg) then (B_Mo_shows_78 k39 k53 s0 x1 x2 x4) else (B_Mo_shows_82 k39 k53 s0 x1 x2 x4))))
def B_Mo_shows_58 (k39 : S_Mo × Int32 × Int32 → Option (Int32 × S_Mo)) (k53 : S_Mo × Int32 × Int32 × Int32 × Int32 → Option (Int32 × S_Mo)) (s0 : S_Mo) (x1 : Int32) (x2 : Int32) (x3 : Int32) (x4 : Int32) : Option (Int32 × S_Mo) :=
  (if x3 = 0 then (B_Mo_shows_62 k39 k53 s0 x1 x2 x4) else (B_Mo_shows_78 k39 k53 s0 x1 x2 x4))
def B_Mo_shows_53 (k39 : S_Mo × Int32 × Int32 → Option (Int32 × S_Mo)) (k53 : S_Mo × Int32 × Int32 × Int32 × Int32 → Option (Int32 × S_Mo)) (s0 : S_Mo) (x1 : Int32) (x2 : Int32) (x3 : Int32) (x4 : Int32) : Option (Int32 × S_Mo) :=
  (if x4 < 0 then (B_Mo_shows_96 k39 s0 x1 x2 x3) else (B_Mo_shows_58 k39 k53 s0 x1 x2 x3 x4))
def L_Mo_shows_53 (k39 : S_Mo × Int32 × Int32 → Option (Int32 × S_Mo)) (v : S_Mo × Int32 × Int32 × Int32 × Int32) : Option (Int32 × S_Mo) := lp (fun k53 v => B_Mo_shows_53 k39 k53  v.1 v.2.1 v.2.2.1 v.2.2.2.1 v.2.2.2.2) FU v
def B_Mo_shows_43 (k39 : S_Mo × Int32 × Int32 → Option (Int32 × S_Mo)) (s0 : S_Mo) (x1 : Int32) (x2 : Int32) : Option (Int32 × S_Mo) :=
  (if ((0 : Int32) < 0 ∨ 260 ≤ (0 : Int32).toNatClampNeg) then none else (L_Mo_shows_53 k39 (s0, x1, x2, (0 : Int32), ((Mo_first s0) (0 : Int32).toNatClampNeg))))
def B_Mo_shows_39 (k39 : S_Mo × Int32 × Int32 → Option (Int32 × S_Mo)) (s0 : S_Mo) (x1 : Int32) (x2 : Int32) : Option (Int32 × S_Mo) :=
  (if x2 < 0 then (B_Mo_shows_144 s0) else (B_Mo_shows_43 k39 s0 x1 x2))
def L_Mo_shows_39 (v : S_Mo × Int32 × Int32) : Option (Int32 × S_Mo) := lp (fun k39 v => B_Mo_shows_39  k39  v.1 v.2.1 v.2.2) FU v
def B_Mo_shows_0 (s0 : S_Mo) (x1 : Int32) : Option (Int32 × S_Mo) :=
  ((F_Mo_measure s0 (1 : Int32) x1).bind fun o1 => (if ((Mo_speaker (Mo_set_makes o1.2 (0 : Int32))) < 0 ∨ 4 ≤ (Mo_speaker (Mo_set_makes o1.2 (0 : Int32))).toNatClampNeg) then none else ((F_Mo_make (Mo_set_makes o1.2 (0 : Int32)) ((Mo_ids (Mo_set_makes o1.2 (0 : Int32))) (Mo_speaker (Mo_set_makes o1.2 (0 : Int32))).toNatClampNeg)).bind fun o4 => ((F_Mo_make o4 (2 : Int32)).bind fun o6 => (if ((130 : Int32) < 0 ∨ 260 ≤ (130 : Int32).toNatClampNeg) then none else (L_Mo_shows_39 (o6, x1, ((Mo_first o6) (130 : Int32).toNatClampNeg))))))))
def F_Mo_shows (s0 : S_Mo) (x1 : Int32) : Option (Int32 × S_Mo) := B_Mo_shows_0 s0 x1
set_option maxRecDepth 100000 in
set_option maxHeartbeats 4000000 in
theorem t_Mo_shows_144 {p : Program} {l : Launch} {e : Env} {s : State} {m : MethodId} {args : Array Value} {below : List Frame} {meth : Method} {c : Code} {D : va_G} {A : Nat → Prop} {g : Nat → ClassId} {rest : va_W} {a0 : Nat → Nat} {ls : Array Slot} {H : Heap} {locs : List Loc} {s0 : S_Mo} {out : Int32 × S_Mo} (X : Cx p s m args meth c prog_11_method_49_code 5 ws_Mo_shows R_Mo (some .boolean) D g) (hl : lv_has ls 5 [(0, .ref (a0 0))]) (hI : Iw D A (w_Mo g a0 s0 ++ (rest)) H) (hS : va_S A s.heap H locs) (h : B_Mo_shows_144  s0 = some out) : W p l e (headSpec ws_Mo_shows { frames := 3, cells := 0, slots := 0, locals := 68 }).room s m args below meth c H locs 0 0 (MQ below (QcI D A g out.1 (fun (_ : Unit) => w_Mo g a0 out.2 ++ (rest))) args s 0 0 A) (F0 m 144 ls []) := by
  have X1 := X
  obtain ⟨hx, hb, hml, hown, hts, hr, hlocks, hKK⟩ := X1
  have ht : ∀ w ∈ TB, w.before args s = true := fun w h => hts w (List.mem_cons_of_mem _ h)
  have hK := hKK.1
  unfold B_Mo_shows_144 at h
  refine lv_aload_n hx hb d_Mo_shows_144 rfl (lv_at hl 0 rfl) ?_
  refine lv_iconst (v := 4) hx hb d_Mo_shows_145 (by decide) ?_
  obtain ⟨o1, ho2, h⟩ := bd_s h
  refine cl_i (W1 := fun (_ : Unit) => w_Mo g a0 o1.2 ++ (rest)) (va_runV (As := [.int (4 : Int32)]) (rest := []) ⟨hx, hb, hml, hown, ht⟩ (c_Mo_sends (l := l) (D := D) (A := A) (g := g) (rest := rest) (a0 := a0) ho2) (cwV 1 ht (gd_V m_1092 m_1094 mp_57 m_11 m_1095) rfl rfl rfl (by decide +kernel) ⟨(Nat.le_of_ble_eq_true rfl), (Nat.le_of_ble_eq_true rfl)⟩) (prV (ci := 9) (q0 := 0) hKK hI (List.Perm.refl _) rfl rfl rfl) rfl rfl hl.1 rfl (lv_room (Nat.le_of_ble_eq_true rfl)) d_Mo_shows_146 ⟨(Nat.le_of_ble_eq_true rfl), (Nat.le_of_ble_eq_true rfl)⟩) hS (fun _ => ((List.Perm.refl _)).symm) (fun _ H locs hI hS => ?_)
  have hI : Iw D A (w_Mo g a0 o1.2 ++ (rest)) H := hI
  have hc3 : o1.1 = 0 ∨ o1.1 = 1 := by
    by_cases z : o1.1 = 0 ∨ o1.1 = 1
    · exact z
    · exact no_s (it_f h z)
  have h := it_t h hc3
  have h9 := Option.some.inj h
  subst h9
  exact W.zret (v := o1.1) hx hb hr (by rcases hc3 with z | z <;> rw [z] <;> rfl) (fun t ht hW => ⟨⟨_, (), rfl, rfl, ⟨by rw [ht]; exact hI, hKK.moved hW⟩⟩, hS.F ht⟩) hS.2.2 d_Mo_shows_149
set_option maxRecDepth 100000 in
set_option maxHeartbeats 4000000 in
theorem t_Mo_shows_134 {p : Program} {l : Launch} {e : Env} {s : State} {m : MethodId} {args : Array Value} {below : List Frame} {meth : Method} {c : Code} {D : va_G} {A : Nat → Prop} {g : Nat → ClassId} {rest : va_W} {a0 : Nat → Nat} {ls : Array Slot} {H : Heap} {locs : List Loc} {k39 : S_Mo × Int32 × Int32 → Option (Int32 × S_Mo)} {s0 : S_Mo} {x1 : Int32} {x2 : Int32} {out : Int32 × S_Mo} (X : Cx p s m args meth c prog_11_method_49_code 5 ws_Mo_shows R_Mo (some .boolean) D g) (hk39 : ∀ (v : S_Mo × Int32 × Int32) (ls : Array Slot) (H : Heap) (locs : List Loc), lv_has ls 5 [(0, .ref (a0 0)), (1, .int v.2.1), (2, .int v.2.2)] → Iw D A (w_Mo g a0 v.1 ++ (rest)) H → va_S A s.heap H locs → k39 v = some out → W p l e (headSpec ws_Mo_shows { frames := 3, cells := 0, slots := 0, locals := 68 }).room s m args below meth c H locs 0 0 (MQ below (QcI D A g out.1 (fun (_ : Unit) => w_Mo g a0 out.2 ++ (rest))) args s 0 0 A) (F0 m 39 ls [])) (hl : lv_has ls 5 [(0, .ref (a0 0)), (1, .int x1), (2, .int x2)]) (hI : Iw D A (w_Mo g a0 s0 ++ (rest)) H) (hS : va_S A s.heap H locs) (h : B_Mo_shows_134 k39 s0 x1 x2 = some out) : W p l e (headSpec ws_Mo_shows { frames := 3, cells := 0, slots := 0, locals := 68 }).room s m args below meth c H locs 0 0 (MQ below (QcI D A g out.1 (fun (_ : Unit) => w_Mo g a0 out.2 ++ (rest))) args s 0 0 A) (F0 m 134 ls []) := by
  have X1 := X
  obtain ⟨hx, hb, hml, hown, hts, hr, hlocks, hKK⟩ := X1
  have ht : ∀ w ∈ TB, w.before args s = true := fun w h => hts w (List.mem_cons_of_mem _ h)
  have hK := hKK.1
  unfold B_Mo_shows_134 at h
  refine lv_aload_n hx hb d_Mo_shows_134 rfl (lv_at hl 0 rfl) ?_
  refine gt_Mo_next hx hb ht hown hK hI (ht _ m_829) d_Mo_shows_135 ?_
  refine lv_iload_n hx hb d_Mo_shows_138 rfl (lv_at hl 2 rfl) ?_
  by_cases hc1 : (x2 < 0 ∨ 260 ≤ x2.toNatClampNeg)
  · exact no_s (it_t h hc1)
  have h := it_f h hc1
  refine al_Mo_next hx hb hK hI hc1 d_Mo_shows_139 ?_
  refine lv_istore_n hx hb d_Mo_shows_140 rfl hl (Nat.le_of_ble_eq_true rfl) rfl (fun ls hl => ?_)
  have hl : lv_has ls 5 [(2, .int ((Mo_next s0) x2.toNatClampNeg)), (0, .ref (a0 0)), (1, .int x1)] := hl
  refine lv_goto (tgt := 39) hx hb d_Mo_shows_141 (by decide) ?_
  exact hk39 (s0, x1, ((Mo_next s0) x2.toNatClampNeg)) _ _ _ (lv_sub hl [1, 2, 0] rfl) hI hS h
set_option maxRecDepth 100000 in
set_option maxHeartbeats 4000000 in
theorem t_Mo_shows_130 {p : Program} {l : Launch} {e : Env} {s : State} {m : MethodId} {args : Array Value} {below : List Frame} {meth : Method} {c : Code} {D : va_G} {A : Nat → Prop} {g : Nat → ClassId} {rest : va_W} {a0 : Nat → Nat} {ls : Array Slot} {H : Heap} {locs : List Loc} {k39 : S_Mo × Int32 × Int32 → Option (Int32 × S_Mo)} {s0 : S_Mo} {x1 : Int32} {x2 : Int32} {y0 : Int32} {y1 : Int32} {out : Int32 × S_Mo} (X : Cx p s m args meth c prog_11_method_49_code 5 ws_Mo_shows R_Mo (some .boolean) D g) (hk39 : ∀ (v : S_Mo × Int32 × Int32) (ls : Array Slot) (H : Heap) (locs : List Loc), lv_has ls 5 [(0, .ref (a0 0)), (1, .int v.2.1), (2, .int v.2.2)] → Iw D A (w_Mo g a0 v.1 ++ (rest)) H → va_S A s.heap H locs → k39 v = some out → W p l e (headSpec ws_Mo_shows { frames := 3, cells := 0, slots := 0, locals := 68 }).room s m args below meth c H locs 0 0 (MQ below (QcI D A g out.1 (fun (_ : Unit) => w_Mo g a0 out.2 ++ (rest))) args s 0 0 A) (F0 m 39 ls [])) (hl : lv_has ls 5 [(0, .ref (a0 0)), (1, .int x1), (2, .int x2)]) (hI : Iw D A (w_Mo g a0 s0 ++ (rest)) H) (hS : va_S A s.heap H locs) (h : B_Mo_shows_130 k39 s0 x1 x2 y0 y1 = some out) : W p l e (headSpec ws_Mo_shows { frames := 3, cells := 0, slots := 0, locals := 68 }).room s m args below meth c H locs 0 0 (MQ below (QcI D A g out.1 (fun (_ : Unit) => w_Mo g a0 out.2 ++ (rest))) args s 0 0 A) (F0 m 130 ls [.int y0, .int y1, .ref (a0 0)]) := by
  have X1 := X
  obtain ⟨hx, hb, hml, hown, hts, hr, hlocks, hKK⟩ := X1
  have ht : ∀ w ∈ TB, w.before args s = true := fun w h => hts w (List.mem_cons_of_mem _ h)
  have hK := hKK.1
  unfold B_Mo_shows_130 at h
  refine lv_iload_n hx hb d_Mo_shows_130 rfl (lv_at hl 1 rfl) ?_
  obtain ⟨o1, ho2, h⟩ := bd_s h
  refine cl_v (W1 := fun (_ : Unit) => w_Mo g a0 o1 ++ (rest)) (va_runV (As := [.int y1, .int y0, .int x1]) (rest := []) ⟨hx, hb, hml, hown, ht⟩ (c_Mo_write (l := l) (D := D) (A := A) (g := g) (rest := rest) (a0 := a0) ho2) (cwV 3 ht (gd_V m_1044 m_1046 mp_49 m_11 m_1047) rfl rfl rfl (by decide +kernel) ⟨(Nat.le_of_ble_eq_true rfl), (Nat.le_of_ble_eq_true rfl)⟩) (prV (ci := 9) (q0 := 0) hKK hI (List.Perm.refl _) rfl rfl rfl) rfl rfl hl.1 rfl (lv_room (Nat.le_of_ble_eq_true rfl)) d_Mo_shows_131 ⟨(Nat.le_of_ble_eq_true rfl), (Nat.le_of_ble_eq_true rfl)⟩) hS (fun _ => ((List.Perm.refl _)).symm) (fun _ H locs hI hS => ?_)
  have hI : Iw D A (w_Mo g a0 o1 ++ (rest)) H := hI
  exact t_Mo_shows_134 X hk39 (lv_sub hl [0, 1, 2] rfl) hI hS h
set_option maxRecDepth 100000 in
set_option maxHeartbeats 4000000 in
theorem t_Mo_shows_124 {p : Program} {l : Launch} {e : Env} {s : State} {m : MethodId} {args : Array Value} {below : List Frame} {meth : Method} {c : Code} {D : va_G} {A : Nat → Prop} {g : Nat → ClassId} {rest : va_W} {a0 : Nat → Nat} {ls : Array Slot} {H : Heap} {locs : List Loc} {k39 : S_Mo × Int32 × Int32 → Option (Int32 × S_Mo)} {s0 : S_Mo} {x1 : Int32} {x2 : Int32} {y0 : Int32} {out : Int32 × S_Mo} (X : Cx p s m args meth c prog_11_method_49_code 5 ws_Mo_shows R_Mo (some .boolean) D g) (hk39 : ∀ (v : S_Mo × Int32 × Int32) (ls : Array Slot) (H : Heap) (locs : List Loc), lv_has ls 5 [(0, .ref (a0 0)), (1, .int v.2.1), (2, .int v.2.2)] → Iw D A (w_Mo g a0 v.1 ++ (rest)) H → va_S A s.heap H locs → k39 v = some out → W p l e (headSpec ws_Mo_shows { frames := 3, cells := 0, slots := 0, locals := 68 }).room s m args below meth c H locs 0 0 (MQ below (QcI D A g out.1 (fun (_ : Unit) => w_Mo g a0 out.2 ++ (rest))) args s 0 0 A) (F0 m 39 ls [])) (hl : lv_has ls 5 [(0, .ref (a0 0)), (1, .int x1), (2, .int x2)]) (hI : Iw D A (w_Mo g a0 s0 ++ (rest)) H) (hS : va_S A s.heap H locs) (h : B_Mo_shows_124 k39 s0 x1 x2 y0 = some out) : W p l e (headSpec ws_Mo_shows { frames := 3, cells := 0, slots := 0, locals := 68 }).room s m args below meth c H locs 0 0 (MQ below (QcI D A g out.1 (fun (_ : Unit) => w_Mo g a0 out.2 ++ (rest))) args s 0 0 A) (F0 m 124 ls [.int y0, .ref (a0 0)]) := by
  have X1 := X
  obtain ⟨hx, hb, hml, hown, hts, hr, hlocks, hKK⟩ := X1
  have ht : ∀ w ∈ TB, w.before args s = true := fun w h => hts w (List.mem_cons_of_mem _ h)
  have hK := hKK.1
  unfold B_Mo_shows_124 at h
  refine lv_aload_n hx hb d_Mo_shows_124 rfl (lv_at hl 0 rfl) ?_
  refine gt_Mo_next hx hb ht hown hK hI (ht _ m_829) d_Mo_shows_125 ?_
  refine lv_iload_n hx hb d_Mo_shows_128 rfl (lv_at hl 2 rfl) ?_
  by_cases hc1 : (x2 < 0 ∨ 260 ≤ x2.toNatClampNeg)
  · exact no_s (it_t h hc1)
  have h := it_f h hc1
  refine al_Mo_next hx hb hK hI hc1 d_Mo_shows_129 ?_
  exact t_Mo_shows_130 X hk39 (lv_sub hl [0, 1, 2] rfl) hI hS h
set_option maxRecDepth 100000 in
set_option maxHeartbeats 4000000 in
theorem t_Mo_shows_111 {p : Program} {l : Launch} {e : Env} {s : State} {m : MethodId} {args : Array Value} {below : List Frame} {meth : Method} {c : Code} {D : va_G} {A : Nat → Prop} {g : Nat → ClassId} {rest : va_W} {a0 : Nat → Nat} {ls : Array Slot} {H : Heap} {locs : List Loc} {k39 : S_Mo × Int32 × Int32 → Option (Int32 × S_Mo)} {s0 : S_Mo} {x1 : Int32} {x2 : Int32} {y0 : Int32} {out : Int32 × S_Mo} (X : Cx p s m args meth c prog_11_method_49_code 5 ws_Mo_shows R_Mo (some .boolean) D g) (hk39 : ∀ (v : S_Mo × Int32 × Int32) (ls : Array Slot) (H : Heap) (locs : List Loc), lv_has ls 5 [(0, .ref (a0 0)), (1, .int v.2.1), (2, .int v.2.2)] → Iw D A (w_Mo g a0 v.1 ++ (rest)) H → va_S A s.heap H locs → k39 v = some out → W p l e (headSpec ws_Mo_shows { frames := 3, cells := 0, slots := 0, locals := 68 }).room s m args below meth c H locs 0 0 (MQ below (QcI D A g out.1 (fun (_ : Unit) => w_Mo g a0 out.2 ++ (rest))) args s 0 0 A) (F0 m 39 ls [])) (hl : lv_has ls 5 [(0, .ref (a0 0)), (1, .int x1), (2, .int x2)]) (hI : Iw D A (w_Mo g a0 s0 ++ (rest)) H) (hS : va_S A s.heap H locs) (h : B_Mo_shows_111 k39 s0 x1 x2 y0 = some out) : W p l e (headSpec ws_Mo_shows { frames := 3, cells := 0, slots := 0, locals := 68 }).room s m args below meth c H locs 0 0 (MQ below (QcI D A g out.1 (fun (_ : Unit) => w_Mo g a0 out.2 ++ (rest))) args s 0 0 A) (F0 m 111 ls [.int y0, .ref (a0 0)]) := by
  have X1 := X
  obtain ⟨hx, hb, hml, hown, hts, hr, hlocks, hKK⟩ := X1
  have ht : ∀ w ∈ TB, w.before args s = true := fun w h => hts w (List.mem_cons_of_mem _ h)
  have hK := hKK.1
  unfold B_Mo_shows_111 at h
  refine lv_sipush (v := 130) hx hb d_Mo_shows_111 (by decide) ?_
  refine lv_aload_n hx hb d_Mo_shows_114 rfl (lv_at hl 0 rfl) ?_
  refine gt_Mo_count hx hb ht hown hK hI (ht _ m_822) d_Mo_shows_115 ?_
  refine lv_iconst (v := 1) hx hb d_Mo_shows_118 (by decide) ?_
  by_cases hc1 : ((1 : Int32) < 0 ∨ 2 ≤ (1 : Int32).toNatClampNeg)
  · exact no_s (it_t h hc1)
  have h := it_f h hc1
  refine al_Mo_count hx hb hK hI hc1 d_Mo_shows_119 ?_
  refine lv_iadd hx hb d_Mo_shows_120 ?_
  refine lv_goto (tgt := 130) hx hb d_Mo_shows_121 (by decide) ?_
  exact t_Mo_shows_130 X hk39 (lv_sub hl [0, 1, 2] rfl) hI hS h
set_option maxRecDepth 100000 in
set_option maxHeartbeats 4000000 in
theorem t_Mo_shows_100 {p : Program} {l : Launch} {e : Env} {s : State} {m : MethodId} {args : Array Value} {below : List Frame} {meth : Method} {c : Code} {D : va_G} {A : Nat → Prop} {g : Nat → ClassId} {rest : va_W} {a0 : Nat → Nat} {ls : Array Slot} {H : Heap} {locs : List Loc} {k39 : S_Mo × Int32 × Int32 → Option (Int32 × S_Mo)} {s0 : S_Mo} {x1 : Int32} {x2 : Int32} {out : Int32 × S_Mo} (X : Cx p s m args meth c prog_11_method_49_code 5 ws_Mo_shows R_Mo (some .boolean) D g) (hk39 : ∀ (v : S_Mo × Int32 × Int32) (ls : Array Slot) (H : Heap) (locs : List Loc), lv_has ls 5 [(0, .ref (a0 0)), (1, .int v.2.1), (2, .int v.2.2)] → Iw D A (w_Mo g a0 v.1 ++ (rest)) H → va_S A s.heap H locs → k39 v = some out → W p l e (headSpec ws_Mo_shows { frames := 3, cells := 0, slots := 0, locals := 68 }).room s m args below meth c H locs 0 0 (MQ below (QcI D A g out.1 (fun (_ : Unit) => w_Mo g a0 out.2 ++ (rest))) args s 0 0 A) (F0 m 39 ls [])) (hl : lv_has ls 5 [(0, .ref (a0 0)), (1, .int x1), (2, .int x2)]) (hI : Iw D A (w_Mo g a0 s0 ++ (rest)) H) (hS : va_S A s.heap H locs) (h : B_Mo_shows_100 k39 s0 x1 x2 = some out) : W p l e (headSpec ws_Mo_shows { frames := 3, cells := 0, slots := 0, locals := 68 }).room s m args below meth c H locs 0 0 (MQ below (QcI D A g out.1 (fun (_ : Unit) => w_Mo g a0 out.2 ++ (rest))) args s 0 0 A) (F0 m 100 ls []) := by
  have X1 := X
  obtain ⟨hx, hb, hml, hown, hts, hr, hlocks, hKK⟩ := X1
  have ht : ∀ w ∈ TB, w.before args s = true := fun w h => hts w (List.mem_cons_of_mem _ h)
  have hK := hKK.1
  unfold B_Mo_shows_100 at h
  refine lv_aload_n hx hb d_Mo_shows_100 rfl (lv_at hl 0 rfl) ?_
  refine lv_iload_n hx hb d_Mo_shows_101 rfl (lv_at hl 2 rfl) ?_
  refine lv_aload_n hx hb d_Mo_shows_102 rfl (lv_at hl 0 rfl) ?_
  refine gt_Mo_next hx hb ht hown hK hI (ht _ m_829) d_Mo_shows_103 ?_
  refine lv_iload_n hx hb d_Mo_shows_106 rfl (lv_at hl 2 rfl) ?_
  by_cases hc1 : (x2 < 0 ∨ 260 ≤ x2.toNatClampNeg)
  · exact no_s (it_t h hc1)
  have h := it_f h hc1
  refine al_Mo_next hx hb hK hI hc1 d_Mo_shows_107 ?_
  refine lv_if_ge (tgt := 124) hx hb d_Mo_shows_108 (by decide) (fun hc => ?_) (fun hc => ?_)
  · have h := it_t h hc
    exact t_Mo_shows_124 X hk39 (lv_sub hl [0, 1, 2] rfl) hI hS h
  · have h := it_f h hc
    exact t_Mo_shows_111 X hk39 (lv_sub hl [0, 1, 2] rfl) hI hS h
set_option maxRecDepth 100000 in
set_option maxHeartbeats 4000000 in
theorem t_Mo_shows_96 {p : Program} {l : Launch} {e : Env} {s : State} {m : MethodId} {args : Array Value} {below : List Frame} {meth : Method} {c : Code} {D : va_G} {A : Nat → Prop} {g : Nat → ClassId} {rest : va_W} {a0 : Nat → Nat} {ls : Array Slot} {H : Heap} {locs : List Loc} {k39 : S_Mo × Int32 × Int32 → Option (Int32 × S_Mo)} {s0 : S_Mo} {x1 : Int32} {x2 : Int32} {x3 : Int32} {out : Int32 × S_Mo} (X : Cx p s m args meth c prog_11_method_49_code 5 ws_Mo_shows R_Mo (some .boolean) D g) (hk39 : ∀ (v : S_Mo × Int32 × Int32) (ls : Array Slot) (H : Heap) (locs : List Loc), lv_has ls 5 [(0, .ref (a0 0)), (1, .int v.2.1), (2, .int v.2.2)] → Iw D A (w_Mo g a0 v.1 ++ (rest)) H → va_S A s.heap H locs → k39 v = some out → W p l e (headSpec ws_Mo_shows { frames := 3, cells := 0, slots := 0, locals := 68 }).room s m args below meth c H locs 0 0 (MQ below (QcI D A g out.1 (fun (_ : Unit) => w_Mo g a0 out.2 ++ (rest))) args s 0 0 A) (F0 m 39 ls [])) (hl : lv_has ls 5 [(0, .ref (a0 0)), (1, .int x1), (2, .int x2), (3, .int x3)]) (hI : Iw D A (w_Mo g a0 s0 ++ (rest)) H) (hS : va_S A s.heap H locs) (h : B_Mo_shows_96 k39 s0 x1 x2 x3 = some out) : W p l e (headSpec ws_Mo_shows { frames := 3, cells := 0, slots := 0, locals := 68 }).room s m args below meth c H locs 0 0 (MQ below (QcI D A g out.1 (fun (_ : Unit) => w_Mo g a0 out.2 ++ (rest))) args s 0 0 A) (F0 m 96 ls []) := by
  have X1 := X
  obtain ⟨hx, hb, hml, hown, hts, hr, hlocks, hKK⟩ := X1
  have ht : ∀ w ∈ TB, w.before args s = true := fun w h => hts w (List.mem_cons_of_mem _ h)
  have hK := hKK.1
  unfold B_Mo_shows_96 at h
  refine lv_iload_n hx hb d_Mo_shows_96 rfl (lv_at hl 3 rfl) ?_
  refine lv_if_eq (tgt := 134) hx hb d_Mo_shows_97 (by decide) (fun hc => ?_) (fun hc => ?_)
  · have h := it_t h hc
    exact t_Mo_shows_134 X hk39 (lv_sub hl [0, 1, 2] rfl) hI hS h
  · have h := it_f h hc
    exact t_Mo_shows_100 X hk39 (lv_sub hl [0, 1, 2] rfl) hI hS h
set_option maxRecDepth 100000 in
set_option maxHeartbeats 4000000 in
theorem t_Mo_shows_83 {p : Program} {l : Launch} {e : Env} {s : State} {m : MethodId} {args : Array Value} {below : List Frame} {meth : Method} {c : Code} {D : va_G} {A : Nat → Prop} {g : Nat → ClassId} {rest : va_W} {a0 : Nat → Nat} {ls : Array Slot} {H : Heap} {locs : List Loc} {k39 : S_Mo × Int32 × Int32 → Option (Int32 × S_Mo)} {k53 : S_Mo × Int32 × Int32 × Int32 × Int32 → Option (Int32 × S_Mo)} {s0 : S_Mo} {x1 : Int32} {x2 : Int32} {x4 : Int32} {y0 : Int32} {out : Int32 × S_Mo} (X : Cx p s m args meth c prog_11_method_49_code 5 ws_Mo_shows R_Mo (some .boolean) D g) (hk39 : ∀ (v : S_Mo × Int32 × Int32) (ls : Array Slot) (H : Heap) (locs : List Loc), lv_has ls 5 [(0, .ref (a0 0)), (1, .int v.2.1), (2, .int v.2.2)] → Iw D A (w_Mo g a0 v.1 ++ (rest)) H → va_S A s.heap H locs → k39 v = some out → W p l e (headSpec ws_Mo_shows { frames := 3, cells := 0, slots := 0, locals := 68 }).room s m args below meth c H locs 0 0 (MQ below (QcI D A g out.1 (fun (_ : Unit) => w_Mo g a0 out.2 ++ (rest))) args s 0 0 A) (F0 m 39 ls [])) (hk53 : ∀ (v : S_Mo × Int32 × Int32 × Int32 × Int32) (ls : Array Slot) (H : Heap) (locs : List Loc), lv_has ls 5 [(0, .ref (a0 0)), (1, .int v.2.1), (2, .int v.2.2.1), (3, .int v.2.2.2.1), (4, .int v.2.2.2.2)] → Iw D A (w_Mo g a0 v.1 ++ (rest)) H → va_S A s.heap H locs → k53 v = some out → W p l e (headSpec ws_Mo_shows { frames := 3, cells := 0, slots := 0, locals := 68 }).room s m args below meth c H locs 0 0 (MQ below (QcI D A g out.1 (fun (_ : Unit) => w_Mo g a0 out.2 ++ (rest))) args s 0 0 A) (F0 m 53 ls [])) (hl : lv_has ls 5 [(0, .ref (a0 0)), (1, .int x1), (2, .int x2), (4, .int x4)]) (hI : Iw D A (w_Mo g a0 s0 ++ (rest)) H) (hS : va_S A s.heap H locs) (h : B_Mo_shows_83 k39 k53 s0 x1 x2 x4 y0 = some out) : W p l e (headSpec ws_Mo_shows { frames := 3, cells := 0, slots := 0, locals := 68 }).room s m args below meth c H locs 0 0 (MQ below (QcI D A g out.1 (fun (_ : Unit) => w_Mo g a0 out.2 ++ (rest))) args s 0 0 A) (F0 m 83 ls [.int y0]) := by
  have X1 := X
  obtain ⟨hx, hb, hml, hown, hts, hr, hlocks, hKK⟩ := X1
  have ht : ∀ w ∈ TB, w.before args s = true := fun w h => hts w (List.mem_cons_of_mem _ h)
  have hK := hKK.1
  unfold B_Mo_shows_83 at h
  refine lv_istore_n hx hb d_Mo_shows_83 rfl hl (Nat.le_of_ble_eq_true rfl) rfl (fun ls hl => ?_)
  have hl : lv_has ls 5 [(3, .int y0), (0, .ref (a0 0)), (1, .int x1), (2, .int x2), (4, .int x4)] := hl
  refine lv_aload_n hx hb d_Mo_shows_84 rfl (lv_at hl 1 rfl) ?_
  refine gt_Mo_next hx hb ht hown hK hI (ht _ m_829) d_Mo_shows_85 ?_
  refine lv_iload hx hb d_Mo_shows_88 (lv_at hl 4 rfl) ?_
  by_cases hc1 : (x4 < 0 ∨ 260 ≤ x4.toNatClampNeg)
  · exact no_s (it_t h hc1)
  have h := it_f h hc1
  refine al_Mo_next hx hb hK hI hc1 d_Mo_shows_90 ?_
  refine lv_istore hx hb d_Mo_shows_91 hl (Nat.le_of_ble_eq_true rfl) rfl (fun ls hl => ?_)
  have hl : lv_has ls 5 [(4, .int ((Mo_next s0) x4.toNatClampNeg)), (3, .int y0), (0, .ref (a0 0)), (1, .int x1), (2, .int x2)] := hl
  refine lv_goto (tgt := 53) hx hb d_Mo_shows_93 (by decide) ?_
  exact hk53 (s0, x1, x2, y0, ((Mo_next s0) x4.toNatClampNeg)) _ _ _ (lv_sub hl [2, 3, 4, 1, 0] rfl) hI hS h
set_option maxRecDepth 100000 in
set_option maxHeartbeats 4000000 in
theorem t_Mo_shows_78 {p : Program} {l : Launch} {e : Env} {s : State} {m : MethodId} {args : Array Value} {below : List Frame} {meth : Method} {c : Code} {D : va_G} {A : Nat → Prop} {g : Nat → ClassId} {rest : va_W} {a0 : Nat → Nat} {ls : Array Slot} {H : Heap} {locs : List Loc} {k39 : S_Mo × Int32 × Int32 → Option (Int32 × S_Mo)} {k53 : S_Mo × Int32 × Int32 × Int32 × Int32 → Option (Int32 × S_Mo)} {s0 : S_Mo} {x1 : Int32} {x2 : Int32} {x4 : Int32} {out : Int32 × S_Mo} (X : Cx p s m args meth c prog_11_method_49_code 5 ws_Mo_shows R_Mo (some .boolean) D g) (hk39 : ∀ (v : S_Mo × Int32 × Int32) (ls : Array Slot) (H : Heap) (locs : List Loc), lv_has ls 5 [(0, .ref (a0 0)), (1, .int v.2.1), (2, .int v.2.2)] → Iw D A (w_Mo g a0 v.1 ++ (rest)) H → va_S A s.heap H locs → k39 v = some out → W p l e (headSpec ws_Mo_shows { frames := 3, cells := 0, slots := 0, locals := 68 }).room s m args below meth c H locs 0 0 (MQ below (QcI D A g out.1 (fun (_ : Unit) => w_Mo g a0 out.2 ++ (rest))) args s 0 0 A) (F0 m 39 ls [])) (hk53 : ∀ (v : S_Mo × Int32 × Int32 × Int32 × Int32) (ls : Array Slot) (H : Heap) (locs : List Loc), lv_has ls 5 [(0, .ref (a0 0)), (1, .int v.2.1), (2, .int v.2.2.1), (3, .int v.2.2.2.1), (4, .int v.2.2.2.2)] → Iw D A (w_Mo g a0 v.1 ++ (rest)) H → va_S A s.heap H locs → k53 v = some out → W p l e (headSpec ws_Mo_shows { frames := 3, cells := 0, slots := 0, locals := 68 }).room s m args below meth c H locs 0 0 (MQ below (QcI D A g out.1 (fun (_ : Unit) => w_Mo g a0 out.2 ++ (rest))) args s 0 0 A) (F0 m 53 ls [])) (hl : lv_has ls 5 [(0, .ref (a0 0)), (1, .int x1), (2, .int x2), (4, .int x4)]) (hI : Iw D A (w_Mo g a0 s0 ++ (rest)) H) (hS : va_S A s.heap H locs) (h : B_Mo_shows_78 k39 k53 s0 x1 x2 x4 = some out) : W p l e (headSpec ws_Mo_shows { frames := 3, cells := 0, slots := 0, locals := 68 }).room s m args below meth c H locs 0 0 (MQ below (QcI D A g out.1 (fun (_ : Unit) => w_Mo g a0 out.2 ++ (rest))) args s 0 0 A) (F0 m 78 ls []) := by
  have X1 := X
  obtain ⟨hx, hb, hml, hown, hts, hr, hlocks, hKK⟩ := X1
  have ht : ∀ w ∈ TB, w.before args s = true := fun w h => hts w (List.mem_cons_of_mem _ h)
  have hK := hKK.1
  unfold B_Mo_shows_78 at h
  refine lv_iconst (v := 1) hx hb d_Mo_shows_78 (by decide) ?_
  refine lv_goto (tgt := 83) hx hb d_Mo_shows_79 (by decide) ?_
  exact t_Mo_shows_83 X hk39 hk53 (lv_sub hl [0, 1, 2, 3] rfl) hI hS h
set_option maxRecDepth 100000 in
set_option maxHeartbeats 4000000 in
theorem t_Mo_shows_82 {p : Program} {l : Launch} {e : Env} {s : State} {m : MethodId} {args : Array Value} {below : List Frame} {meth : Method} {c : Code} {D : va_G} {A : Nat → Prop} {g : Nat → ClassId} {rest : va_W} {a0 : Nat → Nat} {ls : Array Slot} {H : Heap} {locs : List Loc} {k39 : S_Mo × Int32 × Int32 → Option (Int32 × S_Mo)} {k53 : S_Mo × Int32 × Int32 × Int32 × Int32 → Option (Int32 × S_Mo)} {s0 : S_Mo} {x1 : Int32} {x2 : Int32} {x4 : Int32} {out : Int32 × S_Mo} (X : Cx p s m args meth c prog_11_method_49_code 5 ws_Mo_shows R_Mo (some .boolean) D g) (hk39 : ∀ (v : S_Mo × Int32 × Int32) (ls : Array Slot) (H : Heap) (locs : List Loc), lv_has ls 5 [(0, .ref (a0 0)), (1, .int v.2.1), (2, .int v.2.2)] → Iw D A (w_Mo g a0 v.1 ++ (rest)) H → va_S A s.heap H locs → k39 v = some out → W p l e (headSpec ws_Mo_shows { frames := 3, cells := 0, slots := 0, locals := 68 }).room s m args below meth c H locs 0 0 (MQ below (QcI D A g out.1 (fun (_ : Unit) => w_Mo g a0 out.2 ++ (rest))) args s 0 0 A) (F0 m 39 ls [])) (hk53 : ∀ (v : S_Mo × Int32 × Int32 × Int32 × Int32) (ls : Array Slot) (H : Heap) (locs : List Loc), lv_has ls 5 [(0, .ref (a0 0)), (1, .int v.2.1), (2, .int v.2.2.1), (3, .int v.2.2.2.1), (4, .int v.2.2.2.2)] → Iw D A (w_Mo g a0 v.1 ++ (rest)) H → va_S A s.heap H locs → k53 v = some out → W p l e (headSpec ws_Mo_shows { frames := 3, cells := 0, slots := 0, locals := 68 }).room s m args below meth c H locs 0 0 (MQ below (QcI D A g out.1 (fun (_ : Unit) => w_Mo g a0 out.2 ++ (rest))) args s 0 0 A) (F0 m 53 ls [])) (hl : lv_has ls 5 [(0, .ref (a0 0)), (1, .int x1), (2, .int x2), (4, .int x4)]) (hI : Iw D A (w_Mo g a0 s0 ++ (rest)) H) (hS : va_S A s.heap H locs) (h : B_Mo_shows_82 k39 k53 s0 x1 x2 x4 = some out) : W p l e (headSpec ws_Mo_shows { frames := 3, cells := 0, slots := 0, locals := 68 }).room s m args below meth c H locs 0 0 (MQ below (QcI D A g out.1 (fun (_ : Unit) => w_Mo g a0 out.2 ++ (rest))) args s 0 0 A) (F0 m 82 ls []) := by
  have X1 := X
  obtain ⟨hx, hb, hml, hown, hts, hr, hlocks, hKK⟩ := X1
  have ht : ∀ w ∈ TB, w.before args s = true := fun w h => hts w (List.mem_cons_of_mem _ h)
  have hK := hKK.1
  unfold B_Mo_shows_82 at h
  refine lv_iconst (v := 0) hx hb d_Mo_shows_82 (by decide) ?_
  exact t_Mo_shows_83 X hk39 hk53 (lv_sub hl [0, 1, 2, 3] rfl) hI hS h
set_option maxRecDepth 100000 in
set_option maxHeartbeats 4000000 in
theorem t_Mo_shows_62 {p : Program} {l : Launch} {e : Env} {s : State} {m : MethodId} {args : Array Value} {below : List Frame} {meth : Method} {c : Code} {D : va_G} {A : Nat → Prop} {g : Nat → ClassId} {rest : va_W} {a0 : Nat → Nat} {ls : Array Slot} {H : Heap} {locs : List Loc} {k39 : S_Mo × Int32 × Int32 → Option (Int32 × S_Mo)} {k53 : S_Mo × Int32 × Int32 × Int32 × Int32 → Option (Int32 × S_Mo)} {s0 : S_Mo} {x1 : Int32} {x2 : Int32} {x4 : Int32} {out : Int32 × S_Mo} (X : Cx p s m args meth c prog_11_method_49_code 5 ws_Mo_shows R_Mo (some .boolean) D g) (hk39 : ∀ (v : S_Mo × Int32 × Int32) (ls : Array Slot) (H : Heap) (locs : List Loc), lv_has ls 5 [(0, .ref (a0 0)), (1, .int v.2.1), (2, .int v.2.2)] → Iw D A (w_Mo g a0 v.1 ++ (rest)) H → va_S A s.heap H locs → k39 v = some out → W p l e (headSpec ws_Mo_shows { frames := 3, cells := 0, slots := 0, locals := 68 }).room s m args below meth c H locs 0 0 (MQ below (QcI D A g out.1 (fun (_ : Unit) => w_Mo g a0 out.2 ++ (rest))) args s 0 0 A) (F0 m 39 ls [])) (hk53 : ∀ (v : S_Mo × Int32 × Int32 × Int32 × Int32) (ls : Array Slot) (H : Heap) (locs : List Loc), lv_has ls 5 [(0, .ref (a0 0)), (1, .int v.2.1), (2, .int v.2.2.1), (3, .int v.2.2.2.1), (4, .int v.2.2.2.2)] → Iw D A (w_Mo g a0 v.1 ++ (rest)) H → va_S A s.heap H locs → k53 v = some out → W p l e (headSpec ws_Mo_shows { frames := 3, cells := 0, slots := 0, locals := 68 }).room s m args below meth c H locs 0 0 (MQ below (QcI D A g out.1 (fun (_ : Unit) => w_Mo g a0 out.2 ++ (rest))) args s 0 0 A) (F0 m 53 ls [])) (hl : lv_has ls 5 [(0, .ref (a0 0)), (1, .int x1), (2, .int x2), (4, .int x4)]) (hI : Iw D A (w_Mo g a0 s0 ++ (rest)) H) (hS : va_S A s.heap H locs) (h : B_Mo_shows_62 k39 k53 s0 x1 x2 x4 = some out) : W p l e (headSpec ws_Mo_shows { frames := 3, cells := 0, slots := 0, locals := 68 }).room s m args below meth c H locs 0 0 (MQ below (QcI D A g out.1 (fun (_ : Unit) => w_Mo g a0 out.2 ++ (rest))) args s 0 0 A) (F0 m 62 ls []) := by
  have X1 := X
  obtain ⟨hx, hb, hml, hown, hts, hr, hlocks, hKK⟩ := X1
  have ht : ∀ w ∈ TB, w.before args s = true := fun w h => hts w (List.mem_cons_of_mem _ h)
  have hK := hKK.1
  unfold B_Mo_shows_62 at h
  refine lv_aload_n hx hb d_Mo_shows_62 rfl (lv_at hl 0 rfl) ?_
  refine gt_Mo_tag hx hb ht hown hK hI (ht _ m_824) d_Mo_shows_63 ?_
  refine lv_iload hx hb d_Mo_shows_66 (lv_at hl 3 rfl) ?_
  by_cases hc1 : (x4 < 0 ∨ 260 ≤ x4.toNatClampNeg)
  · exact no_s (it_t h hc1)
  have h := it_f h hc1
  refine al_Mo_tag hx hb hK hI hc1 d_Mo_shows_68 ?_
  refine lv_aload_n hx hb d_Mo_shows_69 rfl (lv_at hl 0 rfl) ?_
  refine gt_Mo_tag hx hb ht hown hK hI (ht _ m_824) d_Mo_shows_70 ?_
  refine lv_iload_n hx hb d_Mo_shows_73 rfl (lv_at hl 2 rfl) ?_
  by_cases hc2 : (x2 < 0 ∨ 260 ≤ x2.toNatClampNeg)
  · exact no_s (it_t h hc2)
  have h := it_f h hc2
  refine al_Mo_tag hx hb hK hI hc2 d_Mo_shows_74 ?_
  refine lv_icmp_ne (tgt := 82) hx hb d_Mo_shows_75 (by decide) (fun hc => ?_) (fun hc => ?_)
  · have h := it_f h hc
    exact t_Mo_shows_82 X hk39 hk53 (lv_sub hl [0, 1, 2, 3] rfl) hI hS h
  · have h := it_t h hc
    exact t_Mo_shows_78 X hk39 hk53 (lv_sub hl [0, 1, 2, 3] rfl) hI hS h
set_option maxRecDepth 100000 in
set_option maxHeartbeats 4000000 in
theorem t_Mo_shows_58 {p : Program} {l : Launch} {e : Env} {s : State} {m : MethodId} {args : Array Value} {below : List Frame} {meth : Method} {c : Code} {D : va_G} {A : Nat → Prop} {g : Nat → ClassId} {rest : va_W} {a0 : Nat → Nat} {ls : Array Slot} {H : Heap} {locs : List Loc} {k39 : S_Mo × Int32 × Int32 → Option (Int32 × S_Mo)} {k53 : S_Mo × Int32 × Int32 × Int32 × Int32 → Option (Int32 × S_Mo)} {s0 : S_Mo} {x1 : Int32} {x2 : Int32} {x3 : Int32} {x4 : Int32} {out : Int32 × S_Mo} (X : Cx p s m args meth c prog_11_method_49_code 5 ws_Mo_shows R_Mo (some .boolean) D g) (hk39 : ∀ (v : S_Mo × Int32 × Int32) (ls : Array Slot) (H : Heap) (locs : List Loc), lv_has ls 5 [(0, .ref (a0 0)), (1, .int v.2.1), (2, .int v.2.2)] → Iw D A (w_Mo g a0 v.1 ++ (rest)) H → va_S A s.heap H locs → k39 v = some out → W p l e (headSpec ws_Mo_shows { frames := 3, cells := 0, slots := 0, locals := 68 }).room s m args below meth c H locs 0 0 (MQ below (QcI D A g out.1 (fun (_ : Unit) => w_Mo g a0 out.2 ++ (rest))) args s 0 0 A) (F0 m 39 ls [])) (hk53 : ∀ (v : S_Mo × Int32 × Int32 × Int32 × Int32) (ls : Array Slot) (H : Heap) (locs : List Loc), lv_has ls 5 [(0, .ref (a0 0)), (1, .int v.2.1), (2, .int v.2.2.1), (3, .int v.2.2.2.1), (4, .int v.2.2.2.2)] → Iw D A (w_Mo g a0 v.1 ++ (rest)) H → va_S A s.heap H locs → k53 v = some out → W p l e (headSpec ws_Mo_shows { frames := 3, cells := 0, slots := 0, locals := 68 }).room s m args below meth c H locs 0 0 (MQ below (QcI D A g out.1 (fun (_ : Unit) => w_Mo g a0 out.2 ++ (rest))) args s 0 0 A) (F0 m 53 ls [])) (hl : lv_has ls 5 [(0, .ref (a0 0)), (1, .int x1), (2, .int x2), (3, .int x3), (4, .int x4)]) (hI : Iw D A (w_Mo g a0 s0 ++ (rest)) H) (hS : va_S A s.heap H locs) (h : B_Mo_shows_58 k39 k53 s0 x1 x2 x3 x4 = some out) : W p l e (headSpec ws_Mo_shows { frames := 3, cells := 0, slots := 0, locals := 68 }).room s m args below meth c H locs 0 0 (MQ below (QcI D A g out.1 (fun (_ : Unit) => w_Mo g a0 out.2 ++ (rest))) args s 0 0 A) (F0 m 58 ls []) := by
  have X1 := X
  obtain ⟨hx, hb, hml, hown, hts, hr, hlocks, hKK⟩ := X1
  have ht : ∀ w ∈ TB, w.before args s = true := fun w h => hts w (List.mem_cons_of_mem _ h)
  have hK := hKK.1
  unfold B_Mo_shows_58 at h
  refine lv_iload_n hx hb d_Mo_shows_58 rfl (lv_at hl 3 rfl) ?_
  refine lv_if_ne (tgt := 78) hx hb d_Mo_shows_59 (by decide) (fun hc => ?_) (fun hc => ?_)
  · have h := it_f h hc
    exact t_Mo_shows_78 X hk39 hk53 (lv_sub hl [0, 1, 2, 4] rfl) hI hS h
  · have h := it_t h hc
    exact t_Mo_shows_62 X hk39 hk53 (lv_sub hl [0, 1, 2, 4] rfl) hI hS h
set_option maxRecDepth 100000 in
set_option maxHeartbeats 4000000 in
theorem t_Mo_shows_53 {p : Program} {l : Launch} {e : Env} {s : State} {m : MethodId} {args : Array Value} {below : List Frame} {meth : Method} {c : Code} {D : va_G} {A : Nat → Prop} {g : Nat → ClassId} {rest : va_W} {a0 : Nat → Nat} {ls : Array Slot} {H : Heap} {locs : List Loc} {k39 : S_Mo × Int32 × Int32 → Option (Int32 × S_Mo)} {k53 : S_Mo × Int32 × Int32 × Int32 × Int32 → Option (Int32 × S_Mo)} {s0 : S_Mo} {x1 : Int32} {x2 : Int32} {x3 : Int32} {x4 : Int32} {out : Int32 × S_Mo} (X : Cx p s m args meth c prog_11_method_49_code 5 ws_Mo_shows R_Mo (some .boolean) D g) (hk39 : ∀ (v : S_Mo × Int32 × Int32) (ls : Array Slot) (H : Heap) (locs : List Loc), lv_has ls 5 [(0, .ref (a0 0)), (1, .int v.2.1), (2, .int v.2.2)] → Iw D A (w_Mo g a0 v.1 ++ (rest)) H → va_S A s.heap H locs → k39 v = some out → W p l e (headSpec ws_Mo_shows { frames := 3, cells := 0, slots := 0, locals := 68 }).room s m args below meth c H locs 0 0 (MQ below (QcI D A g out.1 (fun (_ : Unit) => w_Mo g a0 out.2 ++ (rest))) args s 0 0 A) (F0 m 39 ls [])) (hk53 : ∀ (v : S_Mo × Int32 × Int32 × Int32 × Int32) (ls : Array Slot) (H : Heap) (locs : List Loc), lv_has ls 5 [(0, .ref (a0 0)), (1, .int v.2.1), (2, .int v.2.2.1), (3, .int v.2.2.2.1), (4, .int v.2.2.2.2)] → Iw D A (w_Mo g a0 v.1 ++ (rest)) H → va_S A s.heap H locs → k53 v = some out → W p l e (headSpec ws_Mo_shows { frames := 3, cells := 0, slots := 0, locals := 68 }).room s m args below meth c H locs 0 0 (MQ below (QcI D A g out.1 (fun (_ : Unit) => w_Mo g a0 out.2 ++ (rest))) args s 0 0 A) (F0 m 53 ls [])) (hl : lv_has ls 5 [(0, .ref (a0 0)), (1, .int x1), (2, .int x2), (3, .int x3), (4, .int x4)]) (hI : Iw D A (w_Mo g a0 s0 ++ (rest)) H) (hS : va_S A s.heap H locs) (h : B_Mo_shows_53 k39 k53 s0 x1 x2 x3 x4 = some out) : W p l e (headSpec ws_Mo_shows { frames := 3, cells := 0, slots := 0, locals := 68 }).room s m args below meth c H locs 0 0 (MQ below (QcI D A g out.1 (fun (_ : Unit) => w_Mo g a0 out.2 ++ (rest))) args s 0 0 A) (F0 m 53 ls []) := by
  have X1 := X
  obtain ⟨hx, hb, hml, hown, hts, hr, hlocks, hKK⟩ := X1
  have ht : ∀ w ∈ TB, w.before args s = true := fun w h => hts w (List.mem_cons_of_mem _ h)
  have hK := hKK.1
  unfold B_Mo_shows_53 at h
  refine lv_iload hx hb d_Mo_shows_53 (lv_at hl 4 rfl) ?_
  refine lv_if_lt (tgt := 96) hx hb d_Mo_shows_55 (by decide) (fun hc => ?_) (fun hc => ?_)
  · have h := it_t h hc
    exact t_Mo_shows_96 X hk39 (lv_sub hl [0, 1, 2, 3] rfl) hI hS h
  · have h := it_f h hc
    exact t_Mo_shows_58 X hk39 hk53 (lv_sub hl [0, 1, 2, 3, 4] rfl) hI hS h
set_option maxRecDepth 100000 in
set_option maxHeartbeats 4000000 in
theorem T_Mo_shows_53 {p : Program} {l : Launch} {e : Env} {s : State} {m : MethodId} {args : Array Value} {below : List Frame} {meth : Method} {c : Code} {D : va_G} {A : Nat → Prop} {g : Nat → ClassId} {rest : va_W} {a0 : Nat → Nat} {ls : Array Slot} {H : Heap} {locs : List Loc} {k39 : S_Mo × Int32 × Int32 → Option (Int32 × S_Mo)} {s0 : S_Mo} {x1 : Int32} {x2 : Int32} {x3 : Int32} {x4 : Int32} {out : Int32 × S_Mo} (X : Cx p s m args meth c prog_11_method_49_code 5 ws_Mo_shows R_Mo (some .boolean) D g) (hk39 : ∀ (v : S_Mo × Int32 × Int32) (ls : Array Slot) (H : Heap) (locs : List Loc), lv_has ls 5 [(0, .ref (a0 0)), (1, .int v.2.1), (2, .int v.2.2)] → Iw D A (w_Mo g a0 v.1 ++ (rest)) H → va_S A s.heap H locs → k39 v = some out → W p l e (headSpec ws_Mo_shows { frames := 3, cells := 0, slots := 0, locals := 68 }).room s m args below meth c H locs 0 0 (MQ below (QcI D A g out.1 (fun (_ : Unit) => w_Mo g a0 out.2 ++ (rest))) args s 0 0 A) (F0 m 39 ls [])) (hl : lv_has ls 5 [(0, .ref (a0 0)), (1, .int x1), (2, .int x2), (3, .int x3), (4, .int x4)]) (hI : Iw D A (w_Mo g a0 s0 ++ (rest)) H) (hS : va_S A s.heap H locs) (h : L_Mo_shows_53 k39  (s0, x1, x2, x3, x4) = some out) : W p l e (headSpec ws_Mo_shows { frames := 3, cells := 0, slots := 0, locals := 68 }).room s m args below meth c H locs 0 0 (MQ below (QcI D A g out.1 (fun (_ : Unit) => w_Mo g a0 out.2 ++ (rest))) args s 0 0 A) (F0 m 53 ls []) := by
  unfold L_Mo_shows_53 at h
  exact lp_ind (P := fun v => ∀ (ls : Array Slot) (H : Heap) (locs : List Loc), lv_has ls 5 [(0, .ref (a0 0)), (1, .int v.2.1), (2, .int v.2.2.1), (3, .int v.2.2.2.1), (4, .int v.2.2.2.2)] → Iw D A (w_Mo g a0 v.1 ++ (rest)) H → va_S A s.heap H locs → W p l e (headSpec ws_Mo_shows { frames := 3, cells := 0, slots := 0, locals := 68 }).room s m args below meth c H locs 0 0 (MQ below (QcI D A g out.1 (fun (_ : Unit) => w_Mo g a0 out.2 ++ (rest))) args s 0 0 A) (F0 m 53 ls [])) (fun k v ih hb ls H locs  hl hI hS => t_Mo_shows_53 X hk39 (fun v' ls H locs  hl hI hS h' => ih v' h' ls H locs  hl hI hS) hl hI hS hb) FU _ h ls H locs  hl hI hS
set_option maxRecDepth 100000 in
set_option maxHeartbeats 4000000 in
theorem t_Mo_shows_43 {p : Program} {l : Launch} {e : Env} {s : State} {m : MethodId} {args : Array Value} {below : List Frame} {meth : Method} {c : Code} {D : va_G} {A : Nat → Prop} {g : Nat → ClassId} {rest : va_W} {a0 : Nat → Nat} {ls : Array Slot} {H : Heap} {locs : List Loc} {k39 : S_Mo × Int32 × Int32 → Option (Int32 × S_Mo)} {s0 : S_Mo} {x1 : Int32} {x2 : Int32} {out : Int32 × S_Mo} (X : Cx p s m args meth c prog_11_method_49_code 5 ws_Mo_shows R_Mo (some .boolean) D g) (hk39 : ∀ (v : S_Mo × Int32 × Int32) (ls : Array Slot) (H : Heap) (locs : List Loc), lv_has ls 5 [(0, .ref (a0 0)), (1, .int v.2.1), (2, .int v.2.2)] → Iw D A (w_Mo g a0 v.1 ++ (rest)) H → va_S A s.heap H locs → k39 v = some out → W p l e (headSpec ws_Mo_shows { frames := 3, cells := 0, slots := 0, locals := 68 }).room s m args below meth c H locs 0 0 (MQ below (QcI D A g out.1 (fun (_ : Unit) => w_Mo g a0 out.2 ++ (rest))) args s 0 0 A) (F0 m 39 ls [])) (hl : lv_has ls 5 [(0, .ref (a0 0)), (1, .int x1), (2, .int x2)]) (hI : Iw D A (w_Mo g a0 s0 ++ (rest)) H) (hS : va_S A s.heap H locs) (h : B_Mo_shows_43 k39 s0 x1 x2 = some out) : W p l e (headSpec ws_Mo_shows { frames := 3, cells := 0, slots := 0, locals := 68 }).room s m args below meth c H locs 0 0 (MQ below (QcI D A g out.1 (fun (_ : Unit) => w_Mo g a0 out.2 ++ (rest))) args s 0 0 A) (F0 m 43 ls []) := by
  have X1 := X
  obtain ⟨hx, hb, hml, hown, hts, hr, hlocks, hKK⟩ := X1
  have ht : ∀ w ∈ TB, w.before args s = true := fun w h => hts w (List.mem_cons_of_mem _ h)
  have hK := hKK.1
  unfold B_Mo_shows_43 at h
  refine lv_iconst (v := 0) hx hb d_Mo_shows_43 (by decide) ?_
  refine lv_istore_n hx hb d_Mo_shows_44 rfl hl (Nat.le_of_ble_eq_true rfl) rfl (fun ls hl => ?_)
  have hl : lv_has ls 5 [(3, .int (0 : Int32)), (0, .ref (a0 0)), (1, .int x1), (2, .int x2)] := hl
  refine lv_aload_n hx hb d_Mo_shows_45 rfl (lv_at hl 1 rfl) ?_
  refine gt_Mo_first hx hb ht hown hK hI (ht _ m_828) d_Mo_shows_46 ?_
  refine lv_iconst (v := 0) hx hb d_Mo_shows_49 (by decide) ?_
  by_cases hc1 : ((0 : Int32) < 0 ∨ 260 ≤ (0 : Int32).toNatClampNeg)
  · exact no_s (it_t h hc1)
  have h := it_f h hc1
  refine al_Mo_first hx hb hK hI hc1 d_Mo_shows_50 ?_
  refine lv_istore hx hb d_Mo_shows_51 hl (Nat.le_of_ble_eq_true rfl) rfl (fun ls hl => ?_)
  have hl : lv_has ls 5 [(4, .int ((Mo_first s0) (0 : Int32).toNatClampNeg)), (3, .int (0 : Int32)), (0, .ref (a0 0)), (1, .int x1), (2, .int x2)] := hl
  exact T_Mo_shows_53 X hk39 (lv_sub hl [2, 3, 4, 1, 0] rfl) hI hS h
set_option maxRecDepth 100000 in
set_option maxHeartbeats 4000000 in
theorem t_Mo_shows_39 {p : Program} {l : Launch} {e : Env} {s : State} {m : MethodId} {args : Array Value} {below : List Frame} {meth : Method} {c : Code} {D : va_G} {A : Nat → Prop} {g : Nat → ClassId} {rest : va_W} {a0 : Nat → Nat} {ls : Array Slot} {H : Heap} {locs : List Loc} {k39 : S_Mo × Int32 × Int32 → Option (Int32 × S_Mo)} {s0 : S_Mo} {x1 : Int32} {x2 : Int32} {out : Int32 × S_Mo} (X : Cx p s m args meth c prog_11_method_49_code 5 ws_Mo_shows R_Mo (some .boolean) D g) (hk39 : ∀ (v : S_Mo × Int32 × Int32) (ls : Array Slot) (H : Heap) (locs : List Loc), lv_has ls 5 [(0, .ref (a0 0)), (1, .int v.2.1), (2, .int v.2.2)] → Iw D A (w_Mo g a0 v.1 ++ (rest)) H → va_S A s.heap H locs → k39 v = some out → W p l e (headSpec ws_Mo_shows { frames := 3, cells := 0, slots := 0, locals := 68 }).room s m args below meth c H locs 0 0 (MQ below (QcI D A g out.1 (fun (_ : Unit) => w_Mo g a0 out.2 ++ (rest))) args s 0 0 A) (F0 m 39 ls [])) (hl : lv_has ls 5 [(0, .ref (a0 0)), (1, .int x1), (2, .int x2)]) (hI : Iw D A (w_Mo g a0 s0 ++ (rest)) H) (hS : va_S A s.heap H locs) (h : B_Mo_shows_39 k39 s0 x1 x2 = some out) : W p l e (headSpec ws_Mo_shows { frames := 3, cells := 0, slots := 0, locals := 68 }).room s m args below meth c H locs 0 0 (MQ below (QcI D A g out.1 (fun (_ : Unit) => w_Mo g a0 out.2 ++ (rest))) args s 0 0 A) (F0 m 39 ls []) := by
  have X1 := X
  obtain ⟨hx, hb, hml, hown, hts, hr, hlocks, hKK⟩ := X1
  have ht : ∀ w ∈ TB, w.before args s = true := fun w h => hts w (List.mem_cons_of_mem _ h)
  have hK := hKK.1
  unfold B_Mo_shows_39 at h
  refine lv_iload_n hx hb d_Mo_shows_39 rfl (lv_at hl 2 rfl) ?_
  refine lv_if_lt (tgt := 144) hx hb d_Mo_shows_40 (by decide) (fun hc => ?_) (fun hc => ?_)
  · have h := it_t h hc
    exact t_Mo_shows_144 X (lv_sub hl [0] rfl) hI hS h
  · have h := it_f h hc
    exact t_Mo_shows_43 X hk39 (lv_sub hl [0, 1, 2] rfl) hI hS h
set_option maxRecDepth 100000 in
set_option maxHeartbeats 4000000 in
theorem T_Mo_shows_39 {p : Program} {l : Launch} {e : Env} {s : State} {m : MethodId} {args : Array Value} {below : List Frame} {meth : Method} {c : Code} {D : va_G} {A : Nat → Prop} {g : Nat → ClassId} {rest : va_W} {a0 : Nat → Nat} {ls : Array Slot} {H : Heap} {locs : List Loc} {s0 : S_Mo} {x1 : Int32} {x2 : Int32} {out : Int32 × S_Mo} (X : Cx p s m args meth c prog_11_method_49_code 5 ws_Mo_shows R_Mo (some .boolean) D g) (hl : lv_has ls 5 [(0, .ref (a0 0)), (1, .int x1), (2, .int x2)]) (hI : Iw D A (w_Mo g a0 s0 ++ (rest)) H) (hS : va_S A s.heap H locs) (h : L_Mo_shows_39   (s0, x1, x2) = some out) : W p l e (headSpec ws_Mo_shows { frames := 3, cells := 0, slots := 0, locals := 68 }).room s m args below meth c H locs 0 0 (MQ below (QcI D A g out.1 (fun (_ : Unit) => w_Mo g a0 out.2 ++ (rest))) args s 0 0 A) (F0 m 39 ls []) := by
  unfold L_Mo_shows_39 at h
  exact lp_ind (P := fun v => ∀ (ls : Array Slot) (H : Heap) (locs : List Loc), lv_has ls 5 [(0, .ref (a0 0)), (1, .int v.2.1), (2, .int v.2.2)] → Iw D A (w_Mo g a0 v.1 ++ (rest)) H → va_S A s.heap H locs → W p l e (headSpec ws_Mo_shows { frames := 3, cells := 0, slots := 0, locals := 68 }).room s m args below meth c H locs 0 0 (MQ below (QcI D A g out.1 (fun (_ : Unit) => w_Mo g a0 out.2 ++ (rest))) args s 0 0 A) (F0 m 39 ls [])) (fun k v ih hb ls H locs  hl hI hS => t_Mo_shows_39 X  (fun v' ls H locs  hl hI hS h' => ih v' h' ls H locs  hl hI hS) hl hI hS hb) FU _ h ls H locs  hl hI hS
set_option maxRecDepth 100000 in
set_option maxHeartbeats 4000000 in
theorem t_Mo_shows_0 {p : Program} {l : Launch} {e : Env} {s : State} {m : MethodId} {args : Array Value} {below : List Frame} {meth : Method} {c : Code} {D : va_G} {A : Nat → Prop} {g : Nat → ClassId} {rest : va_W} {a0 : Nat → Nat} {ls : Array Slot} {H : Heap} {locs : List Loc} {s0 : S_Mo} {x1 : Int32} {out : Int32 × S_Mo} (X : Cx p s m args meth c prog_11_method_49_code 5 ws_Mo_shows R_Mo (some .boolean) D g) (hl : lv_has ls 5 [(0, .ref (a0 0)), (1, .int x1)]) (hI : Iw D A (w_Mo g a0 s0 ++ (rest)) H) (hS : va_S A s.heap H locs) (h : B_Mo_shows_0  s0 x1 = some out) : W p l e (headSpec ws_Mo_shows { frames := 3, cells := 0, slots := 0, locals := 68 }).room s m args below meth c H locs 0 0 (MQ below (QcI D A g out.1 (fun (_ : Unit) => w_Mo g a0 out.2 ++ (rest))) args s 0 0 A) (F0 m 0 ls []) := by
  have X1 := X
  obtain ⟨hx, hb, hml, hown, hts, hr, hlocks, hKK⟩ := X1
  have ht : ∀ w ∈ TB, w.before args s = true := fun w h => hts w (List.mem_cons_of_mem _ h)
  have hK := hKK.1
  unfold B_Mo_shows_0 at h
  refine lv_aload_n hx hb d_Mo_shows_0 rfl (lv_at hl 0 rfl) ?_
  refine lv_iconst (v := 1) hx hb d_Mo_shows_1 (by decide) ?_
  refine lv_iload_n hx hb d_Mo_shows_2 rfl (lv_at hl 1 rfl) ?_
  obtain ⟨o1, ho2, h⟩ := bd_s h
  refine cl_i (W1 := fun (_ : Unit) => w_Mo g a0 o1.2 ++ (rest)) (va_runV (As := [.int (1 : Int32), .int x1]) (rest := []) ⟨hx, hb, hml, hown, ht⟩ (c_Mo_measure (l := l) (D := D) (A := A) (g := g) (rest := rest) (a0 := a0) ho2) (cwV 2 ht (gd_V m_1035 m_1037 mp_48 m_11 m_1038) rfl rfl rfl (by decide +kernel) ⟨(Nat.le_of_ble_eq_true rfl), (Nat.le_of_ble_eq_true rfl)⟩) (prV (ci := 9) (q0 := 0) hKK hI (List.Perm.refl _) rfl rfl rfl) rfl rfl hl.1 rfl (lv_room (Nat.le_of_ble_eq_true rfl)) d_Mo_shows_3 ⟨(Nat.le_of_ble_eq_true rfl), (Nat.le_of_ble_eq_true rfl)⟩) hS (fun _ => ((List.Perm.refl _)).symm) (fun _ H locs hI hS => ?_)
  have hI : Iw D A (w_Mo g a0 o1.2 ++ (rest)) H := hI
  refine lv_pop hx hb d_Mo_shows_6 rfl ?_
  refine lv_aload_n hx hb d_Mo_shows_7 rfl (lv_at hl 0 rfl) ?_
  refine lv_iconst (v := 0) hx hb d_Mo_shows_8 (by decide) ?_
  refine pt_Mo_makes hx hb ht hown hK hI hS (ht _ m_843) d_Mo_shows_9 (fun H locs hI hS => ?_)
  refine lv_aload_n hx hb d_Mo_shows_12 rfl (lv_at hl 0 rfl) ?_
  refine lv_aload_n hx hb d_Mo_shows_13 rfl (lv_at hl 0 rfl) ?_
  refine gt_Mo_ids hx hb ht hown hK hI (ht _ m_851) d_Mo_shows_14 ?_
  refine lv_aload_n hx hb d_Mo_shows_17 rfl (lv_at hl 0 rfl) ?_
  refine gt_Mo_speaker hx hb ht hown hK hI (ht _ m_859) d_Mo_shows_18 ?_
  by_cases hc3 : ((Mo_speaker (Mo_set_makes o1.2 (0 : Int32))) < 0 ∨ 4 ≤ (Mo_speaker (Mo_set_makes o1.2 (0 : Int32))).toNatClampNeg)
  · exact no_s (it_t h hc3)
  have h := it_f h hc3
  refine al_Mo_ids hx hb hK hI hc3 d_Mo_shows_21 ?_
  obtain ⟨o4, ho5, h⟩ := bd_s h
  refine cl_v (W1 := fun (_ : Unit) => w_Mo g a0 o4 ++ (rest)) (va_runV (As := [.int ((Mo_ids (Mo_set_makes o1.2 (0 : Int32))) (Mo_speaker (Mo_set_makes o1.2 (0 : Int32))).toNatClampNeg)]) (rest := []) ⟨hx, hb, hml, hown, ht⟩ (c_Mo_make (l := l) (D := D) (A := A) (g := g) (rest := rest) (a0 := a0) ho5) (cwV 1 ht (gd_V m_1048 m_1050 mp_50 m_11 m_1051) rfl rfl rfl (by decide +kernel) ⟨(Nat.le_of_ble_eq_true rfl), (Nat.le_of_ble_eq_true rfl)⟩) (prV (ci := 9) (q0 := 0) hKK hI (List.Perm.refl _) rfl rfl rfl) rfl rfl hl.1 rfl (lv_room (Nat.le_of_ble_eq_true rfl)) d_Mo_shows_22 ⟨(Nat.le_of_ble_eq_true rfl), (Nat.le_of_ble_eq_true rfl)⟩) hS (fun _ => ((List.Perm.refl _)).symm) (fun _ H locs hI hS => ?_)
  have hI : Iw D A (w_Mo g a0 o4 ++ (rest)) H := hI
  refine lv_aload_n hx hb d_Mo_shows_25 rfl (lv_at hl 0 rfl) ?_
  refine lv_iconst (v := 2) hx hb d_Mo_shows_26 (by decide) ?_
  obtain ⟨o6, ho7, h⟩ := bd_s h
  refine cl_v (W1 := fun (_ : Unit) => w_Mo g a0 o6 ++ (rest)) (va_runV (As := [.int (2 : Int32)]) (rest := []) ⟨hx, hb, hml, hown, ht⟩ (c_Mo_make (l := l) (D := D) (A := A) (g := g) (rest := rest) (a0 := a0) ho7) (cwV 1 ht (gd_V m_1048 m_1050 mp_50 m_11 m_1051) rfl rfl rfl (by decide +kernel) ⟨(Nat.le_of_ble_eq_true rfl), (Nat.le_of_ble_eq_true rfl)⟩) (prV (ci := 9) (q0 := 0) hKK hI (List.Perm.refl _) rfl rfl rfl) rfl rfl hl.1 rfl (lv_room (Nat.le_of_ble_eq_true rfl)) d_Mo_shows_27 ⟨(Nat.le_of_ble_eq_true rfl), (Nat.le_of_ble_eq_true rfl)⟩) hS (fun _ => ((List.Perm.refl _)).symm) (fun _ H locs hI hS => ?_)
  have hI : Iw D A (w_Mo g a0 o6 ++ (rest)) H := hI
  refine lv_aload_n hx hb d_Mo_shows_30 rfl (lv_at hl 0 rfl) ?_
  refine gt_Mo_first hx hb ht hown hK hI (ht _ m_828) d_Mo_shows_31 ?_
  refine lv_sipush (v := 130) hx hb d_Mo_shows_34 (by decide) ?_
  by_cases hc8 : ((130 : Int32) < 0 ∨ 260 ≤ (130 : Int32).toNatClampNeg)
  · exact no_s (it_t h hc8)
  have h := it_f h hc8
  refine al_Mo_first hx hb hK hI hc8 d_Mo_shows_37 ?_
  refine lv_istore_n hx hb d_Mo_shows_38 rfl hl (Nat.le_of_ble_eq_true rfl) rfl (fun ls hl => ?_)
  have hl : lv_has ls 5 [(2, .int ((Mo_first o6) (130 : Int32).toNatClampNeg)), (0, .ref (a0 0)), (1, .int x1)] := hl
  exact T_Mo_shows_39 X (lv_sub hl [1, 2, 0] rfl) hI hS h
set_option maxRecDepth 100000 in
set_option maxHeartbeats 4000000 in
theorem c_Mo_shows {l : Launch} {D : va_G} {A : Nat → Prop} {g : Nat → ClassId} {rest : va_W} {a0 : Nat → Nat} {s0 : S_Mo} {x1 : Int32} {out : Int32 × S_Mo} (h : F_Mo_shows s0 x1 = some out) : Met l y_Mo_shows ws_Mo_shows { frames := 3, cells := 0, slots := 0, locals := 68 } (PcW D A g [.ref (a0 0), .int x1] (w_Mo g a0 s0 ++ (rest))) (QcI D A g out.1 (fun (_ : Unit) => w_Mo g a0 out.2 ++ (rest))) 0 0 A := by
  refine Met.ofW (cc := prog_11_method_49_code) (maxL := 5) (ret := (some .boolean)) (by decide) rfl ?_
  intro p e s m args below meth c s₁ B hml hv
  obtain ⟨rfl, hI, hK⟩ := hv
  have hl := lv_entry [.ref (a0 0), .int x1] (n := 5) (Nat.le_of_ble_eq_true rfl)
  rw [lg_entry_eq]
  generalize (lg_sl [.ref (a0 0), .int x1] ++ List.replicate (5 - (lg_sl [.ref (a0 0), .int x1]).length) Slot.unset).toArray = ls at hl ⊢
  have hl : lv_has ls 5 [(0, .ref (a0 0)), (1, .int x1)] := hl
  exact t_Mo_shows_0 ⟨B.exec, B.bytes, hml, findClass_of_methodNamed B.named, atoms_spec (ws := ws_Mo_shows) B.pre, B.returns, B.notSynchronized, hK⟩ (lv_sub hl [0, 1] rfl) hI va_S.rf h
