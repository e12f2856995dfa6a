theorem d_Mo_item_0 : decode prog_11_method_10_code 0 = .ok (.aload_n 0, 1) := by decide +kernel
theorem d_Mo_item_1 : decode prog_11_method_10_code 1 = .ok (.getfield 111, 3) := by decide +kernel
theorem d_Mo_item_4 : decode prog_11_method_10_code 4 = .ok (.iconst 1, 1) := by decide +kernel
theorem d_Mo_item_5 : decode prog_11_method_10_code 5 = .ok (.isub, 1) := by decide +kernel
theorem d_Mo_item_6 : decode prog_11_method_10_code 6 = .ok (.istore_n 2, 1) := by decide +kernel
theorem d_Mo_item_7 : decode prog_11_method_10_code 7 = .ok (.aload_n 0, 1) := by decide +kernel
theorem d_Mo_item_8 : decode prog_11_method_10_code 8 = .ok (.getfield 62, 3) := by decide +kernel
theorem d_Mo_item_11 : decode prog_11_method_10_code 11 = .ok (.iload_n 2, 1) := by decide +kernel
theorem d_Mo_item_12 : decode prog_11_method_10_code 12 = .ok (.iaload, 1) := by decide +kernel
theorem d_Mo_item_13 : decode prog_11_method_10_code 13 = .ok (.istore_n 3, 1) := by decide +kernel
theorem d_Mo_item_14 : decode prog_11_method_10_code 14 = .ok (.aload_n 0, 1) := by decide +kernel
theorem d_Mo_item_15 : decode prog_11_method_10_code 15 = .ok (.getfield 13, 3) := by decide +kernel
theorem d_Mo_item_18 : decode prog_11_method_10_code 18 = .ok (.aload_n 0, 1) := by decide +kernel
theorem d_Mo_item_19 : decode prog_11_method_10_code 19 = .ok (.getfield 114, 3) := by decide +kernel
theorem d_Mo_item_22 : decode prog_11_method_10_code 22 = .ok (.iaload, 1) := by decide +kernel
theorem d_Mo_item_23 : decode prog_11_method_10_code 23 = .ok (.sipush 254, 3) := by decide +kernel
theorem d_Mo_item_26 : decode prog_11_method_10_code 26 = .ok (.if_icmp .eq 14, 3) := by decide +kernel
theorem d_Mo_item_29 : decode prog_11_method_10_code 29 = .ok (.aload_n 0, 1) := by decide +kernel
theorem d_Mo_item_30 : decode prog_11_method_10_code 30 = .ok (.bipush 6, 2) := by decide +kernel
theorem d_Mo_item_32 : decode prog_11_method_10_code 32 = .ok (.aload_n 0, 1) := by decide +kernel
theorem d_Mo_item_33 : decode prog_11_method_10_code 33 = .ok (.getfield 114, 3) := by decide +kernel
theorem d_Mo_item_36 : decode prog_11_method_10_code 36 = .ok (.invokevirtual 129, 3) := by decide +kernel
theorem d_Mo_item_39 : decode prog_11_method_10_code 39 = .ok (.ireturn, 1) := by decide +kernel
theorem d_Mo_item_40 : decode prog_11_method_10_code 40 = .ok (.aload_n 0, 1) := by decide +kernel
theorem d_Mo_item_41 : decode prog_11_method_10_code 41 = .ok (.getfield 43, 3) := by decide +kernel
theorem d_Mo_item_44 : decode prog_11_method_10_code 44 = .ok (.iload_n 3, 1) := by decide +kernel
theorem d_Mo_item_45 : decode prog_11_method_10_code 45 = .ok (.iaload, 1) := by decide +kernel
theorem d_Mo_item_46 : decode prog_11_method_10_code 46 = .ok (.iconst 4, 1) := by decide +kernel
theorem d_Mo_item_47 : decode prog_11_method_10_code 47 = .ok (.if_icmp .ne 14, 3) := by decide +kernel
theorem d_Mo_item_50 : decode prog_11_method_10_code 50 = .ok (.aload_n 0, 1) := by decide +kernel
theorem d_Mo_item_51 : decode prog_11_method_10_code 51 = .ok (.bipush 7, 2) := by decide +kernel
theorem d_Mo_item_53 : decode prog_11_method_10_code 53 = .ok (.aload_n 0, 1) := by decide +kernel
theorem d_Mo_item_54 : decode prog_11_method_10_code 54 = .ok (.getfield 114, 3) := by decide +kernel
theorem d_Mo_item_57 : decode prog_11_method_10_code 57 = .ok (.invokevirtual 129, 3) := by decide +kernel
theorem d_Mo_item_60 : decode prog_11_method_10_code 60 = .ok (.ireturn, 1) := by decide +kernel
theorem d_Mo_item_61 : decode prog_11_method_10_code 61 = .ok (.aload_n 0, 1) := by decide +kernel
theorem d_Mo_item_62 : decode prog_11_method_10_code 62 = .ok (.dup, 1) := by decide +kernel
theorem d_Mo_item_63 : decode prog_11_method_10_code 63 = .ok (.getfield 114, 3) := by decide +kernel
theorem d_Mo_item_66 : decode prog_11_method_10_code 66 = .ok (.iconst 1, 1) := by decide +kernel
theorem d_Mo_item_67 : decode prog_11_method_10_code 67 = .ok (.iadd, 1) := by decide +kernel
theorem d_Mo_item_68 : decode prog_11_method_10_code 68 = .ok (.putfield 114, 3) := by decide +kernel
theorem d_Mo_item_71 : decode prog_11_method_10_code 71 = .ok (.aload_n 0, 1) := by decide +kernel
theorem d_Mo_item_72 : decode prog_11_method_10_code 72 = .ok (.getfield 114, 3) := by decide +kernel
theorem d_Mo_item_75 : decode prog_11_method_10_code 75 = .ok (.aload_n 0, 1) := by decide +kernel
theorem d_Mo_item_76 : decode prog_11_method_10_code 76 = .ok (.getfield 65, 3) := by decide +kernel
theorem d_Mo_item_79 : decode prog_11_method_10_code 79 = .ok (.iload_n 2, 1) := by decide +kernel
theorem d_Mo_item_80 : decode prog_11_method_10_code 80 = .ok (.iaload, 1) := by decide +kernel
theorem d_Mo_item_81 : decode prog_11_method_10_code 81 = .ok (.if_icmp .ne 13, 3) := by decide +kernel
theorem d_Mo_item_84 : decode prog_11_method_10_code 84 = .ok (.aload_n 0, 1) := by decide +kernel
theorem d_Mo_item_85 : decode prog_11_method_10_code 85 = .ok (.iconst 1, 1) := by decide +kernel
theorem d_Mo_item_86 : decode prog_11_method_10_code 86 = .ok (.aload_n 0, 1) := by decide +kernel
theorem d_Mo_item_87 : decode prog_11_method_10_code 87 = .ok (.getfield 114, 3) := by decide +kernel
theorem d_Mo_item_90 : decode prog_11_method_10_code 90 = .ok (.invokevirtual 129, 3) := by decide +kernel
theorem d_Mo_item_93 : decode prog_11_method_10_code 93 = .ok (.ireturn, 1) := by decide +kernel
theorem d_Mo_item_94 : decode prog_11_method_10_code 94 = .ok (.aload_n 0, 1) := by decide +kernel
theorem d_Mo_item_95 : decode prog_11_method_10_code 95 = .ok (.getfield 13, 3) := by decide +kernel
theorem d_Mo_item_98 : decode prog_11_method_10_code 98 = .ok (.aload_n 0, 1) := by decide +kernel
theorem d_Mo_item_99 : decode prog_11_method_10_code 99 = .ok (.getfield 114, 3) := by decide +kernel
theorem d_Mo_item_102 : decode prog_11_method_10_code 102 = .ok (.iaload, 1) := by decide +kernel
theorem d_Mo_item_103 : decode prog_11_method_10_code 103 = .ok (.istore 4, 2) := by decide +kernel
theorem d_Mo_item_105 : decode prog_11_method_10_code 105 = .ok (.iload 4, 2) := by decide +kernel
theorem d_Mo_item_107 : decode prog_11_method_10_code 107 = .ok (.sipush 240, 3) := by decide +kernel
theorem d_Mo_item_110 : decode prog_11_method_10_code 110 = .ok (.if_icmp .le 11, 3) := by decide +kernel
theorem d_Mo_item_113 : decode prog_11_method_10_code 113 = .ok (.iload 4, 2) := by decide +kernel
theorem d_Mo_item_115 : decode prog_11_method_10_code 115 = .ok (.sipush 255, 3) := by decide +kernel
theorem d_Mo_item_118 : decode prog_11_method_10_code 118 = .ok (.if_icmp .ne 29, 3) := by decide +kernel
theorem d_Mo_item_121 : decode prog_11_method_10_code 121 = .ok (.iload 4, 2) := by decide +kernel
theorem d_Mo_item_123 : decode prog_11_method_10_code 123 = .ok (.sipush 255, 3) := by decide +kernel
theorem d_Mo_item_126 : decode prog_11_method_10_code 126 = .ok (.if_icmp .eq 31, 3) := by decide +kernel
theorem d_Mo_item_129 : decode prog_11_method_10_code 129 = .ok (.aload_n 0, 1) := by decide +kernel
theorem d_Mo_item_130 : decode prog_11_method_10_code 130 = .ok (.getfield 114, 3) := by decide +kernel
theorem d_Mo_item_133 : decode prog_11_method_10_code 133 = .ok (.iconst 1, 1) := by decide +kernel
theorem d_Mo_item_134 : decode prog_11_method_10_code 134 = .ok (.iadd, 1) := by decide +kernel
theorem d_Mo_item_135 : decode prog_11_method_10_code 135 = .ok (.iload 4, 2) := by decide +kernel
theorem d_Mo_item_137 : decode prog_11_method_10_code 137 = .ok (.iadd, 1) := by decide +kernel
theorem d_Mo_item_138 : decode prog_11_method_10_code 138 = .ok (.aload_n 0, 1) := by decide +kernel
theorem d_Mo_item_139 : decode prog_11_method_10_code 139 = .ok (.getfield 65, 3) := by decide +kernel
theorem d_Mo_item_142 : decode prog_11_method_10_code 142 = .ok (.iload_n 2, 1) := by decide +kernel
theorem d_Mo_item_143 : decode prog_11_method_10_code 143 = .ok (.iaload, 1) := by decide +kernel
theorem d_Mo_item_144 : decode prog_11_method_10_code 144 = .ok (.if_icmp .le 13, 3) := by decide +kernel
theorem d_Mo_item_147 : decode prog_11_method_10_code 147 = .ok (.aload_n 0, 1) := by decide +kernel
theorem d_Mo_item_148 : decode prog_11_method_10_code 148 = .ok (.iconst 4, 1) := by decide +kernel
theorem d_Mo_item_149 : decode prog_11_method_10_code 149 = .ok (.aload_n 0, 1) := by decide +kernel
theorem d_Mo_item_150 : decode prog_11_method_10_code 150 = .ok (.getfield 114, 3) := by decide +kernel
theorem d_Mo_item_153 : decode prog_11_method_10_code 153 = .ok (.invokevirtual 129, 3) := by decide +kernel
theorem d_Mo_item_156 : decode prog_11_method_10_code 156 = .ok (.ireturn, 1) := by decide +kernel
theorem d_Mo_item_157 : decode prog_11_method_10_code 157 = .ok (.aload_n 0, 1) := by decide +kernel
theorem d_Mo_item_158 : decode prog_11_method_10_code 158 = .ok (.dup, 1) := by decide +kernel
theorem d_Mo_item_159 : decode prog_11_method_10_code 159 = .ok (.getfield 114, 3) := by decide +kernel
theorem d_Mo_item_162 : decode prog_11_method_10_code 162 = .ok (.iconst 1, 1) := by decide +kernel
theorem d_Mo_item_163 : decode prog_11_method_10_code 163 = .ok (.iadd, 1) := by decide +kernel
theorem d_Mo_item_164 : decode prog_11_method_10_code 164 = .ok (.putfield 114, 3) := by decide +kernel
theorem d_Mo_item_167 : decode prog_11_method_10_code 167 = .ok (.aload_n 0, 1) := by decide +kernel
theorem d_Mo_item_168 : decode prog_11_method_10_code 168 = .ok (.iload_n 1, 1) := by decide +kernel
theorem d_Mo_item_169 : decode prog_11_method_10_code 169 = .ok (.iconst 0, 1) := by decide +kernel
theorem d_Mo_item_170 : decode prog_11_method_10_code 170 = .ok (.iload_n 3, 1) := by decide +kernel
theorem d_Mo_item_171 : decode prog_11_method_10_code 171 = .ok (.invokevirtual 117, 3) := by decide +kernel
theorem d_Mo_item_174 : decode prog_11_method_10_code 174 = .ok (.istore 5, 2) := by decide +kernel
theorem d_Mo_item_176 : decode prog_11_method_10_code 176 = .ok (.aload_n 0, 1) := by decide +kernel
theorem d_Mo_item_177 : decode prog_11_method_10_code 177 = .ok (.iload 5, 2) := by decide +kernel
theorem d_Mo_item_179 : decode prog_11_method_10_code 179 = .ok (.iload 4, 2) := by decide +kernel
theorem d_Mo_item_181 : decode prog_11_method_10_code 181 = .ok (.sipush 255, 3) := by decide +kernel
theorem d_Mo_item_184 : decode prog_11_method_10_code 184 = .ok (.if_icmp .ne 12, 3) := by decide +kernel
theorem d_Mo_item_187 : decode prog_11_method_10_code 187 = .ok (.aload_n 0, 1) := by decide +kernel
theorem d_Mo_item_188 : decode prog_11_method_10_code 188 = .ok (.getfield 65, 3) := by decide +kernel
theorem d_Mo_item_191 : decode prog_11_method_10_code 191 = .ok (.iload_n 2, 1) := by decide +kernel
theorem d_Mo_item_192 : decode prog_11_method_10_code 192 = .ok (.iaload, 1) := by decide +kernel
theorem d_Mo_item_193 : decode prog_11_method_10_code 193 = .ok (.goto 10, 3) := by decide +kernel
theorem d_Mo_item_196 : decode prog_11_method_10_code 196 = .ok (.aload_n 0, 1) := by decide +kernel
theorem d_Mo_item_197 : decode prog_11_method_10_code 197 = .ok (.getfield 114, 3) := by decide +kernel
theorem d_Mo_item_200 : decode prog_11_method_10_code 200 = .ok (.iload 4, 2) := by decide +kernel
theorem d_Mo_item_202 : decode prog_11_method_10_code 202 = .ok (.iadd, 1) := by decide +kernel
theorem d_Mo_item_203 : decode prog_11_method_10_code 203 = .ok (.iload 4, 2) := by decide +kernel
theorem d_Mo_item_205 : decode prog_11_method_10_code 205 = .ok (.sipush 255, 3) := by decide +kernel
theorem d_Mo_item_208 : decode prog_11_method_10_code 208 = .ok (.if_icmp .ne 7, 3) := by decide +kernel
theorem d_Mo_item_211 : decode prog_11_method_10_code 211 = .ok (.iconst 1, 1) := by decide +kernel
theorem d_Mo_item_212 : decode prog_11_method_10_code 212 = .ok (.goto 4, 3) := by decide +kernel
theorem d_Mo_item_215 : decode prog_11_method_10_code 215 = .ok (.iconst 0, 1) := by decide +kernel
theorem d_Mo_item_216 : decode prog_11_method_10_code 216 = .ok (.invokevirtual 121, 3) := by decide +kernel
theorem d_Mo_item_219 : decode prog_11_method_10_code 219 = .ok (.iconst 1, 1) := by decide +kernel
theorem d_Mo_item_220 : decode prog_11_method_10_code 220 = .ok (.ireturn, 1) := by decide +kernel
theorem d_Mo_goOn_0 : decode prog_11_method_9_code 0 = .ok (.aload_n 0, 1) := by decide +kernel
theorem d_Mo_goOn_1 : decode prog_11_method_9_code 1 = .ok (.getfield 111, 3) := by decide +kernel
theorem d_Mo_goOn_4 : decode prog_11_method_9_code 4 = .ok (.iconst 1, 1) := by decide +kernel
theorem d_Mo_goOn_5 : decode prog_11_method_9_code 5 = .ok (.isub, 1) := by decide +kernel
theorem d_Mo_goOn_6 : decode prog_11_method_9_code 6 = .ok (.istore_n 3, 1) := by decide +kernel
theorem d_Mo_goOn_7 : decode prog_11_method_9_code 7 = .ok (.aload_n 0, 1) := by decide +kernel
theorem d_Mo_goOn_8 : decode prog_11_method_9_code 8 = .ok (.getfield 19, 3) := by decide +kernel
theorem d_Mo_goOn_11 : decode prog_11_method_9_code 11 = .ok (.aload_n 0, 1) := by decide +kernel
theorem d_Mo_goOn_12 : decode prog_11_method_9_code 12 = .ok (.getfield 62, 3) := by decide +kernel
theorem d_Mo_goOn_15 : decode prog_11_method_9_code 15 = .ok (.iload_n 3, 1) := by decide +kernel
theorem d_Mo_goOn_16 : decode prog_11_method_9_code 16 = .ok (.iaload, 1) := by decide +kernel
theorem d_Mo_goOn_17 : decode prog_11_method_9_code 17 = .ok (.iaload, 1) := by decide +kernel
theorem d_Mo_goOn_18 : decode prog_11_method_9_code 18 = .ok (.ifCond .ne 7, 3) := by decide +kernel
theorem d_Mo_goOn_21 : decode prog_11_method_9_code 21 = .ok (.iconst 1, 1) := by decide +kernel
theorem d_Mo_goOn_22 : decode prog_11_method_9_code 22 = .ok (.goto 4, 3) := by decide +kernel
theorem d_Mo_goOn_25 : decode prog_11_method_9_code 25 = .ok (.iconst 0, 1) := by decide +kernel
theorem d_Mo_goOn_26 : decode prog_11_method_9_code 26 = .ok (.istore 4, 2) := by decide +kernel
theorem d_Mo_goOn_28 : decode prog_11_method_9_code 28 = .ok (.aload_n 0, 1) := by decide +kernel
theorem d_Mo_goOn_29 : decode prog_11_method_9_code 29 = .ok (.getfield 114, 3) := by decide +kernel
theorem d_Mo_goOn_32 : decode prog_11_method_9_code 32 = .ok (.aload_n 0, 1) := by decide +kernel
theorem d_Mo_goOn_33 : decode prog_11_method_9_code 33 = .ok (.getfield 65, 3) := by decide +kernel
theorem d_Mo_goOn_36 : decode prog_11_method_9_code 36 = .ok (.iload_n 3, 1) := by decide +kernel
theorem d_Mo_goOn_37 : decode prog_11_method_9_code 37 = .ok (.iaload, 1) := by decide +kernel
theorem d_Mo_goOn_38 : decode prog_11_method_9_code 38 = .ok (.if_icmp .ne 34, 3) := by decide +kernel
theorem d_Mo_goOn_41 : decode prog_11_method_9_code 41 = .ok (.aload_n 0, 1) := by decide +kernel
theorem d_Mo_goOn_42 : decode prog_11_method_9_code 42 = .ok (.getfield 68, 3) := by decide +kernel
theorem d_Mo_goOn_45 : decode prog_11_method_9_code 45 = .ok (.iload_n 3, 1) := by decide +kernel
theorem d_Mo_goOn_46 : decode prog_11_method_9_code 46 = .ok (.baload, 1) := by decide +kernel
theorem d_Mo_goOn_47 : decode prog_11_method_9_code 47 = .ok (.ifCond .eq 13, 3) := by decide +kernel
theorem d_Mo_goOn_50 : decode prog_11_method_9_code 50 = .ok (.aload_n 0, 1) := by decide +kernel
theorem d_Mo_goOn_51 : decode prog_11_method_9_code 51 = .ok (.iconst 1, 1) := by decide +kernel
theorem d_Mo_goOn_52 : decode prog_11_method_9_code 52 = .ok (.aload_n 0, 1) := by decide +kernel
theorem d_Mo_goOn_53 : decode prog_11_method_9_code 53 = .ok (.getfield 114, 3) := by decide +kernel
theorem d_Mo_goOn_56 : decode prog_11_method_9_code 56 = .ok (.invokevirtual 129, 3) := by decide +kernel
theorem d_Mo_goOn_59 : decode prog_11_method_9_code 59 = .ok (.ireturn, 1) := by decide +kernel
theorem d_Mo_goOn_60 : decode prog_11_method_9_code 60 = .ok (.aload_n 0, 1) := by decide +kernel
theorem d_Mo_goOn_61 : decode prog_11_method_9_code 61 = .ok (.dup, 1) := by decide +kernel
theorem d_Mo_goOn_62 : decode prog_11_method_9_code 62 = .ok (.getfield 111, 3) := by decide +kernel
theorem d_Mo_goOn_65 : decode prog_11_method_9_code 65 = .ok (.iconst 1, 1) := by decide +kernel
theorem d_Mo_goOn_66 : decode prog_11_method_9_code 66 = .ok (.isub, 1) := by decide +kernel
theorem d_Mo_goOn_67 : decode prog_11_method_9_code 67 = .ok (.putfield 111, 3) := by decide +kernel
theorem d_Mo_goOn_70 : decode prog_11_method_9_code 70 = .ok (.iconst 1, 1) := by decide +kernel
theorem d_Mo_goOn_71 : decode prog_11_method_9_code 71 = .ok (.ireturn, 1) := by decide +kernel
theorem d_Mo_goOn_72 : decode prog_11_method_9_code 72 = .ok (.aload_n 0, 1) := by decide +kernel
theorem d_Mo_goOn_73 : decode prog_11_method_9_code 73 = .ok (.getfield 68, 3) := by decide +kernel
theorem d_Mo_goOn_76 : decode prog_11_method_9_code 76 = .ok (.iload_n 3, 1) := by decide +kernel
theorem d_Mo_goOn_77 : decode prog_11_method_9_code 77 = .ok (.baload, 1) := by decide +kernel
theorem d_Mo_goOn_78 : decode prog_11_method_9_code 78 = .ok (.ifCond .eq 51, 3) := by decide +kernel
theorem d_Mo_goOn_81 : decode prog_11_method_9_code 81 = .ok (.aload_n 0, 1) := by decide +kernel
theorem d_Mo_goOn_82 : decode prog_11_method_9_code 82 = .ok (.getfield 13, 3) := by decide +kernel
theorem d_Mo_goOn_85 : decode prog_11_method_9_code 85 = .ok (.aload_n 0, 1) := by decide +kernel
theorem d_Mo_goOn_86 : decode prog_11_method_9_code 86 = .ok (.getfield 114, 3) := by decide +kernel
theorem d_Mo_goOn_89 : decode prog_11_method_9_code 89 = .ok (.iaload, 1) := by decide +kernel
theorem d_Mo_goOn_90 : decode prog_11_method_9_code 90 = .ok (.iload 4, 2) := by decide +kernel
theorem d_Mo_goOn_92 : decode prog_11_method_9_code 92 = .ok (.ifCond .eq 9, 3) := by decide +kernel
theorem d_Mo_goOn_95 : decode prog_11_method_9_code 95 = .ok (.sipush 253, 3) := by decide +kernel
theorem d_Mo_goOn_98 : decode prog_11_method_9_code 98 = .ok (.goto 6, 3) := by decide +kernel
theorem d_Mo_goOn_101 : decode prog_11_method_9_code 101 = .ok (.sipush 252, 3) := by decide +kernel
theorem d_Mo_goOn_104 : decode prog_11_method_9_code 104 = .ok (.if_icmp .ne 25, 3) := by decide +kernel
theorem d_Mo_goOn_107 : decode prog_11_method_9_code 107 = .ok (.aload_n 0, 1) := by decide +kernel
theorem d_Mo_goOn_108 : decode prog_11_method_9_code 108 = .ok (.dup, 1) := by decide +kernel
theorem d_Mo_goOn_109 : decode prog_11_method_9_code 109 = .ok (.getfield 114, 3) := by decide +kernel
theorem d_Mo_goOn_112 : decode prog_11_method_9_code 112 = .ok (.iconst 1, 1) := by decide +kernel
theorem d_Mo_goOn_113 : decode prog_11_method_9_code 113 = .ok (.iadd, 1) := by decide +kernel
theorem d_Mo_goOn_114 : decode prog_11_method_9_code 114 = .ok (.putfield 114, 3) := by decide +kernel
theorem d_Mo_goOn_117 : decode prog_11_method_9_code 117 = .ok (.aload_n 0, 1) := by decide +kernel
theorem d_Mo_goOn_118 : decode prog_11_method_9_code 118 = .ok (.dup, 1) := by decide +kernel
theorem d_Mo_goOn_119 : decode prog_11_method_9_code 119 = .ok (.getfield 111, 3) := by decide +kernel
theorem d_Mo_goOn_122 : decode prog_11_method_9_code 122 = .ok (.iconst 1, 1) := by decide +kernel
theorem d_Mo_goOn_123 : decode prog_11_method_9_code 123 = .ok (.isub, 1) := by decide +kernel
theorem d_Mo_goOn_124 : decode prog_11_method_9_code 124 = .ok (.putfield 111, 3) := by decide +kernel
theorem d_Mo_goOn_127 : decode prog_11_method_9_code 127 = .ok (.iconst 1, 1) := by decide +kernel
theorem d_Mo_goOn_128 : decode prog_11_method_9_code 128 = .ok (.ireturn, 1) := by decide +kernel
theorem d_Mo_goOn_129 : decode prog_11_method_9_code 129 = .ok (.iload 4, 2) := by decide +kernel
theorem d_Mo_goOn_131 : decode prog_11_method_9_code 131 = .ok (.ifCond .eq 12, 3) := by decide +kernel
theorem d_Mo_goOn_134 : decode prog_11_method_9_code 134 = .ok (.aload_n 0, 1) := by decide +kernel
theorem d_Mo_goOn_135 : decode prog_11_method_9_code 135 = .ok (.iload_n 1, 1) := by decide +kernel
theorem d_Mo_goOn_136 : decode prog_11_method_9_code 136 = .ok (.iload_n 2, 1) := by decide +kernel
theorem d_Mo_goOn_137 : decode prog_11_method_9_code 137 = .ok (.invokevirtual 132, 3) := by decide +kernel
theorem d_Mo_goOn_140 : decode prog_11_method_9_code 140 = .ok (.goto 8, 3) := by decide +kernel
theorem d_Mo_goOn_143 : decode prog_11_method_9_code 143 = .ok (.aload_n 0, 1) := by decide +kernel
theorem d_Mo_goOn_144 : decode prog_11_method_9_code 144 = .ok (.iload_n 1, 1) := by decide +kernel
theorem d_Mo_goOn_145 : decode prog_11_method_9_code 145 = .ok (.invokevirtual 135, 3) := by decide +kernel
theorem d_Mo_goOn_148 : decode prog_11_method_9_code 148 = .ok (.ireturn, 1) := by decide +kernel
theorem d_Mo_read_0 : decode prog_11_method_8_code 0 = .ok (.aload_n 0, 1) := by decide +kernel
theorem d_Mo_read_1 : decode prog_11_method_8_code 1 = .ok (.getfield 16, 3) := by decide +kernel
theorem d_Mo_read_4 : decode prog_11_method_8_code 4 = .ok (.iload_n 1, 1) := by decide +kernel
theorem d_Mo_read_5 : decode prog_11_method_8_code 5 = .ok (.iconst 0, 1) := by decide +kernel
theorem d_Mo_read_6 : decode prog_11_method_8_code 6 = .ok (.iastore, 1) := by decide +kernel
theorem d_Mo_read_7 : decode prog_11_method_8_code 7 = .ok (.aload_n 0, 1) := by decide +kernel
theorem d_Mo_read_8 : decode prog_11_method_8_code 8 = .ok (.getfield 55, 3) := by decide +kernel
theorem d_Mo_read_11 : decode prog_11_method_8_code 11 = .ok (.iload_n 1, 1) := by decide +kernel
theorem d_Mo_read_12 : decode prog_11_method_8_code 12 = .ok (.sipush 240, 3) := by decide +kernel
theorem d_Mo_read_15 : decode prog_11_method_8_code 15 = .ok (.iload_n 1, 1) := by decide +kernel
theorem d_Mo_read_16 : decode prog_11_method_8_code 16 = .ok (.imul, 1) := by decide +kernel
theorem d_Mo_read_17 : decode prog_11_method_8_code 17 = .ok (.iastore, 1) := by decide +kernel
theorem d_Mo_read_18 : decode prog_11_method_8_code 18 = .ok (.aload_n 0, 1) := by decide +kernel
theorem d_Mo_read_19 : decode prog_11_method_8_code 19 = .ok (.iconst 0, 1) := by decide +kernel
theorem d_Mo_read_20 : decode prog_11_method_8_code 20 = .ok (.putfield 108, 3) := by decide +kernel
theorem d_Mo_read_23 : decode prog_11_method_8_code 23 = .ok (.aload_n 0, 1) := by decide +kernel
theorem d_Mo_read_24 : decode prog_11_method_8_code 24 = .ok (.iconst 0, 1) := by decide +kernel
theorem d_Mo_read_25 : decode prog_11_method_8_code 25 = .ok (.putfield 111, 3) := by decide +kernel
theorem d_Mo_read_28 : decode prog_11_method_8_code 28 = .ok (.aload_n 0, 1) := by decide +kernel
theorem d_Mo_read_29 : decode prog_11_method_8_code 29 = .ok (.iconst 0, 1) := by decide +kernel
theorem d_Mo_read_30 : decode prog_11_method_8_code 30 = .ok (.putfield 114, 3) := by decide +kernel
theorem d_Mo_read_33 : decode prog_11_method_8_code 33 = .ok (.aload_n 0, 1) := by decide +kernel
theorem d_Mo_read_34 : decode prog_11_method_8_code 34 = .ok (.iload_n 1, 1) := by decide +kernel
theorem d_Mo_read_35 : decode prog_11_method_8_code 35 = .ok (.iconst 0, 1) := by decide +kernel
theorem d_Mo_read_36 : decode prog_11_method_8_code 36 = .ok (.iconst (-1), 1) := by decide +kernel
theorem d_Mo_read_37 : decode prog_11_method_8_code 37 = .ok (.invokevirtual 117, 3) := by decide +kernel
theorem d_Mo_read_40 : decode prog_11_method_8_code 40 = .ok (.istore 4, 2) := by decide +kernel
theorem d_Mo_read_42 : decode prog_11_method_8_code 42 = .ok (.aload_n 0, 1) := by decide +kernel
theorem d_Mo_read_43 : decode prog_11_method_8_code 43 = .ok (.iload 4, 2) := by decide +kernel
theorem d_Mo_read_45 : decode prog_11_method_8_code 45 = .ok (.iload_n 2, 1) := by decide +kernel
theorem d_Mo_read_46 : decode prog_11_method_8_code 46 = .ok (.iconst 0, 1) := by decide +kernel
theorem d_Mo_read_47 : decode prog_11_method_8_code 47 = .ok (.invokevirtual 121, 3) := by decide +kernel
theorem d_Mo_read_50 : decode prog_11_method_8_code 50 = .ok (.iconst 1, 1) := by decide +kernel
theorem d_Mo_read_51 : decode prog_11_method_8_code 51 = .ok (.istore 5, 2) := by decide +kernel
theorem d_Mo_read_53 : decode prog_11_method_8_code 53 = .ok (.aload_n 0, 1) := by decide +kernel
theorem d_Mo_read_54 : decode prog_11_method_8_code 54 = .ok (.getfield 111, 3) := by decide +kernel
theorem d_Mo_read_57 : decode prog_11_method_8_code 57 = .ok (.ifCond .le 19, 3) := by decide +kernel
theorem d_Mo_read_60 : decode prog_11_method_8_code 60 = .ok (.iload 5, 2) := by decide +kernel
theorem d_Mo_read_62 : decode prog_11_method_8_code 62 = .ok (.ifCond .eq 14, 3) := by decide +kernel
theorem d_Mo_read_65 : decode prog_11_method_8_code 65 = .ok (.aload_n 0, 1) := by decide +kernel
theorem d_Mo_read_66 : decode prog_11_method_8_code 66 = .ok (.iload_n 1, 1) := by decide +kernel
theorem d_Mo_read_67 : decode prog_11_method_8_code 67 = .ok (.iload_n 3, 1) := by decide +kernel
theorem d_Mo_read_68 : decode prog_11_method_8_code 68 = .ok (.invokevirtual 125, 3) := by decide +kernel
theorem d_Mo_read_71 : decode prog_11_method_8_code 71 = .ok (.istore 5, 2) := by decide +kernel
theorem d_Mo_read_73 : decode prog_11_method_8_code 73 = .ok (.goto (-20), 3) := by decide +kernel
theorem d_Mo_read_76 : decode prog_11_method_8_code 76 = .ok (.iload 5, 2) := by decide +kernel
theorem d_Mo_read_78 : decode prog_11_method_8_code 78 = .ok (.ireturn, 1) := by decide +kernel
theorem d_Mo_readDraft_0 : decode prog_11_method_21_code 0 = .ok (.iconst 0, 1) := by decide +kernel
theorem d_Mo_readDraft_1 : decode prog_11_method_21_code 1 = .ok (.istore_n 2, 1) := by decide +kernel
theorem d_Mo_readDraft_2 : decode prog_11_method_21_code 2 = .ok (.iload_n 2, 1) := by decide +kernel
theorem d_Mo_readDraft_3 : decode prog_11_method_21_code 3 = .ok (.aload_n 0, 1) := by decide +kernel
theorem d_Mo_readDraft_4 : decode prog_11_method_21_code 4 = .ok (.getfield 169, 3) := by decide +kernel
theorem d_Mo_readDraft_7 : decode prog_11_method_21_code 7 = .ok (.if_icmp .ge 21, 3) := by decide +kernel
theorem d_Mo_readDraft_10 : decode prog_11_method_21_code 10 = .ok (.aload_n 0, 1) := by decide +kernel
theorem d_Mo_readDraft_11 : decode prog_11_method_21_code 11 = .ok (.getfield 13, 3) := by decide +kernel
theorem d_Mo_readDraft_14 : decode prog_11_method_21_code 14 = .ok (.iload_n 2, 1) := by decide +kernel
theorem d_Mo_readDraft_15 : decode prog_11_method_21_code 15 = .ok (.aload_n 0, 1) := by decide +kernel
theorem d_Mo_readDraft_16 : decode prog_11_method_21_code 16 = .ok (.getfield 7, 3) := by decide +kernel
theorem d_Mo_readDraft_19 : decode prog_11_method_21_code 19 = .ok (.iload_n 2, 1) := by decide +kernel
theorem d_Mo_readDraft_20 : decode prog_11_method_21_code 20 = .ok (.iaload, 1) := by decide +kernel
theorem d_Mo_readDraft_21 : decode prog_11_method_21_code 21 = .ok (.iastore, 1) := by decide +kernel
theorem d_Mo_readDraft_22 : decode prog_11_method_21_code 22 = .ok (.iinc 2 1, 3) := by decide +kernel
theorem d_Mo_readDraft_25 : decode prog_11_method_21_code 25 = .ok (.goto (-23), 3) := by decide +kernel
theorem d_Mo_readDraft_28 : decode prog_11_method_21_code 28 = .ok (.aload_n 0, 1) := by decide +kernel
theorem d_Mo_readDraft_29 : decode prog_11_method_21_code 29 = .ok (.iconst 0, 1) := by decide +kernel
theorem d_Mo_readDraft_30 : decode prog_11_method_21_code 30 = .ok (.aload_n 0, 1) := by decide +kernel
theorem d_Mo_readDraft_31 : decode prog_11_method_21_code 31 = .ok (.getfield 169, 3) := by decide +kernel
theorem d_Mo_readDraft_34 : decode prog_11_method_21_code 34 = .ok (.iload_n 1, 1) := by decide +kernel
theorem d_Mo_readDraft_35 : decode prog_11_method_21_code 35 = .ok (.invokevirtual 174, 3) := by decide +kernel
theorem d_Mo_readDraft_38 : decode prog_11_method_21_code 38 = .ok (.ireturn, 1) := by decide +kernel
theorem d_Mo_check_0 : decode prog_11_method_22_code 0 = .ok (.aload_n 0, 1) := by decide +kernel
theorem d_Mo_check_1 : decode prog_11_method_22_code 1 = .ok (.iload_n 1, 1) := by decide +kernel
theorem d_Mo_check_2 : decode prog_11_method_22_code 2 = .ok (.iconst 0, 1) := by decide +kernel
theorem d_Mo_check_3 : decode prog_11_method_22_code 3 = .ok (.iconst 1, 1) := by decide +kernel
theorem d_Mo_check_4 : decode prog_11_method_22_code 4 = .ok (.invokestatic 139, 3) := by decide +kernel
theorem d_Mo_check_7 : decode prog_11_method_22_code 7 = .ok (.ifCond .eq 7, 3) := by decide +kernel
theorem d_Mo_check_10 : decode prog_11_method_22_code 10 = .ok (.iconst 0, 1) := by decide +kernel
theorem d_Mo_check_11 : decode prog_11_method_22_code 11 = .ok (.goto 4, 3) := by decide +kernel
theorem d_Mo_check_14 : decode prog_11_method_22_code 14 = .ok (.iconst 1, 1) := by decide +kernel
theorem d_Mo_check_15 : decode prog_11_method_22_code 15 = .ok (.putfield 105, 3) := by decide +kernel
theorem d_Mo_check_18 : decode prog_11_method_22_code 18 = .ok (.aload_n 0, 1) := by decide +kernel
theorem d_Mo_check_19 : decode prog_11_method_22_code 19 = .ok (.getfield 105, 3) := by decide +kernel
theorem d_Mo_check_22 : decode prog_11_method_22_code 22 = .ok (.ifCond .le 5, 3) := by decide +kernel
theorem d_Mo_check_25 : decode prog_11_method_22_code 25 = .ok (.iconst 0, 1) := by decide +kernel
theorem d_Mo_check_26 : decode prog_11_method_22_code 26 = .ok (.ireturn, 1) := by decide +kernel
theorem d_Mo_check_27 : decode prog_11_method_22_code 27 = .ok (.aload_n 0, 1) := by decide +kernel
theorem d_Mo_check_28 : decode prog_11_method_22_code 28 = .ok (.iload_n 1, 1) := by decide +kernel
theorem d_Mo_check_29 : decode prog_11_method_22_code 29 = .ok (.invokevirtual 177, 3) := by decide +kernel
theorem d_Mo_check_32 : decode prog_11_method_22_code 32 = .ok (.ifCond .eq 7, 3) := by decide +kernel
theorem d_Mo_check_35 : decode prog_11_method_22_code 35 = .ok (.iconst 0, 1) := by decide +kernel
theorem d_Mo_check_36 : decode prog_11_method_22_code 36 = .ok (.goto 7, 3) := by decide +kernel
theorem d_Mo_check_39 : decode prog_11_method_22_code 39 = .ok (.aload_n 0, 1) := by decide +kernel
theorem d_Mo_check_40 : decode prog_11_method_22_code 40 = .ok (.getfield 108, 3) := by decide +kernel
theorem d_Mo_check_43 : decode prog_11_method_22_code 43 = .ok (.ireturn, 1) := by decide +kernel
theorem d_Mo_load_0 : decode prog_11_method_46_code 0 = .ok (.iconst 0, 1) := by decide +kernel
theorem d_Mo_load_1 : decode prog_11_method_46_code 1 = .ok (.istore_n 2, 1) := by decide +kernel
theorem d_Mo_load_2 : decode prog_11_method_46_code 2 = .ok (.iload_n 2, 1) := by decide +kernel
theorem d_Mo_load_3 : decode prog_11_method_46_code 3 = .ok (.aload_n 0, 1) := by decide +kernel
theorem d_Mo_load_4 : decode prog_11_method_46_code 4 = .ok (.getfield 98, 3) := by decide +kernel
theorem d_Mo_load_7 : decode prog_11_method_46_code 7 = .ok (.iload_n 1, 1) := by decide +kernel
theorem d_Mo_load_8 : decode prog_11_method_46_code 8 = .ok (.iaload, 1) := by decide +kernel
theorem d_Mo_load_9 : decode prog_11_method_46_code 9 = .ok (.if_icmp .ge 27, 3) := by decide +kernel
theorem d_Mo_load_12 : decode prog_11_method_46_code 12 = .ok (.aload_n 0, 1) := by decide +kernel
theorem d_Mo_load_13 : decode prog_11_method_46_code 13 = .ok (.getfield 13, 3) := by decide +kernel
theorem d_Mo_load_16 : decode prog_11_method_46_code 16 = .ok (.iload_n 2, 1) := by decide +kernel
theorem d_Mo_load_17 : decode prog_11_method_46_code 17 = .ok (.aload_n 0, 1) := by decide +kernel
theorem d_Mo_load_18 : decode prog_11_method_46_code 18 = .ok (.getfield 95, 3) := by decide +kernel
theorem d_Mo_load_21 : decode prog_11_method_46_code 21 = .ok (.sipush 200, 3) := by decide +kernel
theorem d_Mo_load_24 : decode prog_11_method_46_code 24 = .ok (.iload_n 1, 1) := by decide +kernel
theorem d_Mo_load_25 : decode prog_11_method_46_code 25 = .ok (.imul, 1) := by decide +kernel
theorem d_Mo_load_26 : decode prog_11_method_46_code 26 = .ok (.iload_n 2, 1) := by decide +kernel
theorem d_Mo_load_27 : decode prog_11_method_46_code 27 = .ok (.iadd, 1) := by decide +kernel
theorem d_Mo_load_28 : decode prog_11_method_46_code 28 = .ok (.iaload, 1) := by decide +kernel
theorem d_Mo_load_29 : decode prog_11_method_46_code 29 = .ok (.iastore, 1) := by decide +kernel
theorem d_Mo_load_30 : decode prog_11_method_46_code 30 = .ok (.iinc 2 1, 3) := by decide +kernel
theorem d_Mo_load_33 : decode prog_11_method_46_code 33 = .ok (.goto (-31), 3) := by decide +kernel
theorem d_Mo_load_36 : decode prog_11_method_46_code 36 = .ok (.aload_n 0, 1) := by decide +kernel
theorem d_Mo_load_37 : decode prog_11_method_46_code 37 = .ok (.iconst 1, 1) := by decide +kernel
theorem d_Mo_load_38 : decode prog_11_method_46_code 38 = .ok (.aload_n 0, 1) := by decide +kernel
theorem d_Mo_load_39 : decode prog_11_method_46_code 39 = .ok (.getfield 98, 3) := by decide +kernel
theorem d_Mo_load_42 : decode prog_11_method_46_code 42 = .ok (.iload_n 1, 1) := by decide +kernel
theorem d_Mo_load_43 : decode prog_11_method_46_code 43 = .ok (.iaload, 1) := by decide +kernel
theorem d_Mo_load_44 : decode prog_11_method_46_code 44 = .ok (.iconst 0, 1) := by decide +kernel
theorem d_Mo_load_45 : decode prog_11_method_46_code 45 = .ok (.invokevirtual 174, 3) := by decide +kernel
theorem d_Mo_load_48 : decode prog_11_method_46_code 48 = .ok (.pop, 1) := by decide +kernel
theorem d_Mo_load_49 : decode prog_11_method_46_code 49 = .ok (.return_, 1) := by decide +kernel
def ws_Mo_item : List Cond := .code y_Mo_item prog_11_method_10_code 6 (some .boolean) :: TB
def B_Mo_item_216 (s0 : S_Mo) (y0 : Int32) (y1 : Int32) (y2 : Int32) : Option (Int32 × S_Mo) :=
  ((F_Mo_push s0 y2 y1 y0).bind fun o1 => some ((1 : Int32), o1))
def B_Mo_item_215 (s0 : S_Mo) (y0 : Int32) (y1 : Int32) : Option (Int32 × S_Mo) :=
  (B_Mo_item_216 s0 (0 : Int32) y0 y1)
def B_Mo_item_211 (s0 : S_Mo) (y0 : Int32) (y1 : Int32) : Option (Int32 × S_Mo) :=
  (B_Mo_item_216 s0 (1 : Int32) y0 y1)
def B_Mo_item_203 (s0 : S_Mo) (x4 : Int32) (y0 : Int32) (y1 : Int32) : Option (Int32 × S_Mo) :=
  (if x4 = (255 : Int32) then (B_Mo_item_211 s0 y0 y1) else (B_Mo_item_215 s0 y0 y1))
def B_Mo_item_196 (s0 : S_Mo) (x4 : Int32) (y0 : Int32) : Option (Int32 × S_Mo) :=
  (B_Mo_item_203 s0 x4 ((Mo_at s0) + x4) y0)
def B_Mo_item_187 (s0 : S_Mo) (x2 : Int32) (x4 : Int32) (y0 : Int32) : Option (Int32 × S_Mo) :=
  (if (x2 < 0 ∨ 6 ≤ x2.toNatClampNeg) then none else (B_Mo_item_203 s0 x4 ((Mo_end s0) x2.toNatClampNeg) y0))
def B_Mo_item_157 (s0 : S_Mo) (x1 : Int32) (x2 : Int32) (x3 : Int32) (x4 : Int32) : Option (Int32 × S_Mo) :=
  ((F_Mo_add (Mo_set_at s0 ((Mo_at s0) + (1 : Int32))) x1 (0 : Int32) x3).bind fun o1 => (if x4 = (255 : Int32) then (B_Mo_item_187 o1.2 x2 x4 o1.1) else (B_Mo_item_196 o1.2 x4 o1.1)))
def B_Mo_item_147 (s0 : S_Mo) : Option (Int32 × S_Mo) :=
  ((F_Mo_wrong s0 (4 : Int32) (Mo_at s0)).bind fun o1 => (if o1.1 = 0 ∨ o1.1 = 1 then some (o1.1, o1.2) else none))
def B_Mo_item_129 (s0 : S_Mo) (x1 : Int32) (x2 : Int32) (x3 : Int32) (x4 : Int32) : Option (Int32 × S_Mo) :=
  (if (x2 < 0 ∨ 6 ≤ x2.toNatClampNeg) then none else (if (((Mo_at s0) + (1 : Int32)) + x4) ≤ ((Mo_end s0) x2.toNatClampNeg) then (B_Mo_item_157 s0 x1 x2 x3 x4) else (B_Mo_item_147 s0)))
def B_Mo_item_121 (s0 : S_Mo) (x1 : Int32) (x2 : Int32) (x3 : Int32) (x4 : Int32) : Option (Int32 × S_Mo) :=
  (if x4 = (255 : Int32) then (B_Mo_item_157 s0 x1 x2 x3 x4) else (B_Mo_item_129 s0 x1 x2 x3 x4))
def B_Mo_item_113 (s0 : S_Mo) (x1 : Int32) (x2 : Int32) (x3 : Int32) (x4 : Int32) : Option (Int32 × S_Mo) :=
  (if x4 = (255 : Int32) then (B_Mo_item_121 s0 x1 x2 x3 x4) else (B_Mo_item_147 s0))
def B_Mo_item_94 (s0 : S_Mo) (x1 : Int32) (x2 : Int32) (x3 : Int32) : Option (Int32 × S_Mo) :=
  (if ((Mo_at s0) < 0 ∨ 240 ≤ (Mo_at s0).toNatClampNeg) then none else (if ((Mo_source s0) (Mo_at s0).toNatClampNeg) ≤ (240 : Int32) then (B_Mo_item_121 s0 x1 x2 x3 ((Mo_source s0) (Mo_at s0).toNatClampNeg)) else (B_Mo_item_113 s0 x1 x2 x3 ((Mo_source s0) (Mo_at s0).toNatClampNeg))))
def B_Mo_item_84 (s0 : S_Mo) : Option (Int32 × S_Mo) :=
  ((F_Mo_wrong s0 (1 : Int32) (Mo_at s0)).bind fun o1 => (if o1.1 = 0 ∨ o1.1 = 1 then some (o1.1, o1.2) else none))
def B_Mo_item_61 (s0 : S_Mo) (x1 : Int32) (x2 : Int32) (x3 : Int32) : Option (Int32 × S_Mo) :=
  (if (x2 < 0 ∨ 6 ≤ x2.toNatClampNeg) then none else (if (Mo_at (Mo_set_at s0 ((Mo_at s0) + (1 : Int32)))) = ((Mo_end (Mo_set_at s0 ((Mo_at s0) + (1 : Int32)))) x2.toNatClampNeg) then (B_Mo_item_84 (Mo_set_at s0 ((Mo_at s0) + (1 : Int32)))) else (B_Mo_item_94 (Mo_set_at s0 ((Mo_at s0) + (1 : Int32))) x1 x2 x3)))
def B_Mo_item_50 (s0 : S_Mo) : Option (Int32 × S_Mo) :=
  ((F_Mo_wrong s0 (7 : Int32) (Mo_at s0)).bind fun o1 => (if o1.1 = 0 ∨ o1.1 = 1 then some (o1.1, o1.2) else none))
def B_Mo_item_40 (s0 : S_Mo) (x1 : Int32) (x2 : Int32) (x3 : Int32) : Option (Int32 × S_Mo) :=
  (if (x3 < 0 ∨ 260 ≤ x3.toNatClampNeg) then none else (if ((Mo_many s0) x3.toNatClampNeg) = (4 : Int32) then (B_Mo_item_50 s0) else (B_Mo_item_61 s0 x1 x2 x3)))
def B_Mo_item_29 (s0 : S_Mo) : Option (Int32 × S_Mo) :=
  ((F_Mo_wrong s0 (6 : Int32) (Mo_at s0)).bind fun o1 => (if o1.1 = 0 ∨ o1.1 = 1 then some (o1.1, o1.2) else none))
def B_Mo_item_0 (s0 : S_Mo) (x1 : Int32) : Option (Int32 × S_Mo) :=
  (if (((Mo_depth s0) - (1 : Int32)) < 0 ∨ 6 ≤ ((Mo_depth s0) - (1 : Int32)).toNatClampNeg) then none else (if ((Mo_at s0) < 0 ∨ 240 ≤ (Mo_at s0).toNatClampNeg) then none else (if ((Mo_source s0) (Mo_at s0).toNatClampNeg) = (254 : Int32) then (B_Mo_item_40 s0 x1 ((Mo_depth s0) - (1 : Int32)) ((Mo_node s0) ((Mo_depth s0) - (1 : Int32)).toNatClampNeg)) else (B_Mo_item_29 s0))))
def F_Mo_item (s0 : S_Mo) (x1 : Int32) : Option (Int32 × S_Mo) := B_Mo_item_0 s0 x1
set_option maxRecDepth 100000 in
set_option maxHeartbeats 4000000 in
theorem t_Mo_item_216 {p : Program} {l : Launch} {e : Env} {s : State} {m : MethodId} {args : Array Value} {below : List Frame} {meth : Method} {c : Code} {D : va_G} {A : Nat → Prop} {g : Nat → ClassId} {rest : va_W} {a0 : Nat → Nat} {ls : Array Slot} {H : Heap} {locs : List Loc} {s0 : S_Mo} {y0 : Int32} {y1 : Int32} {y2 : Int32} {out : Int32 × S_Mo} (X : Cx p s m args meth c prog_11_method_10_code 6 ws_Mo_item R_Mo (some .boolean) D g) (hl : lv_has ls 6 []) (hI : Iw D A (w_Mo g a0 s0 ++ (rest)) H) (hS : va_S A s.heap H locs) (h : B_Mo_item_216  s0 y0 y1 y2 = some out) : W p l e (headSpec ws_Mo_item { frames := 1, cells := 0, slots := 0, locals := 24 }).room s m args below meth c H locs 0 0 (MQ below (QcI D A g out.1 (fun (_ : Unit) => w_Mo g a0 out.2 ++ (rest))) args s 0 0 A) (F0 m 216 ls [.int y0, .int y1, .int y2, .ref (a0 0)]) := by
  have X1 := X
  obtain ⟨hx, hb, hml, hown, hts, hr, hlocks, hKK⟩ := X1
  have ht : ∀ w ∈ TB, w.before args s = true := fun w h => hts w (List.mem_cons_of_mem _ h)
  have hK := hKK.1
  unfold B_Mo_item_216 at h
  obtain ⟨o1, ho2, h⟩ := bd_s h
  refine cl_v (W1 := fun (_ : Unit) => w_Mo g a0 o1 ++ (rest)) (va_runV (As := [.int y2, .int y1, .int y0]) (rest := []) ⟨hx, hb, hml, hown, ht⟩ (c_Mo_push (l := l) (D := D) (A := A) (g := g) (rest := rest) (a0 := a0) ho2) (cwV 3 ht (gd_V m_999 m_1001 mp_40 m_11 m_1002) rfl rfl rfl (by decide +kernel) ⟨(Nat.le_of_ble_eq_true rfl), (Nat.le_of_ble_eq_true rfl)⟩) (prV (ci := 9) (q0 := 0) hKK hI (List.Perm.refl _) rfl rfl rfl) rfl rfl hl.1 rfl (lv_room (Nat.le_of_ble_eq_true rfl)) d_Mo_item_216 ⟨(Nat.le_of_ble_eq_true rfl), (Nat.le_of_ble_eq_true rfl)⟩) hS (fun _ => ((List.Perm.refl _)).symm) (fun _ H locs hI hS => ?_)
  have hI : Iw D A (w_Mo g a0 o1 ++ (rest)) H := hI
  refine lv_iconst (v := 1) hx hb d_Mo_item_219 (by decide) ?_
  have h9 := Option.some.inj h
  subst h9
  exact W.zret (v := (1 : Int32)) hx hb hr rfl (fun t ht hW => ⟨⟨_, (), rfl, rfl, ⟨by rw [ht]; exact hI, hKK.moved hW⟩⟩, hS.F ht⟩) hS.2.2 d_Mo_item_220
set_option maxRecDepth 100000 in
set_option maxHeartbeats 4000000 in
theorem t_Mo_item_215 {p : Program} {l : Launch} {e : Env} {s : State} {m : MethodId} {args : Array Value} {below : List Frame} {meth : Method} {c : Code} {D : va_G} {A : Nat → Prop} {g : Nat → ClassId} {rest : va_W} {a0 : Nat → Nat} {ls : Array Slot} {H : Heap} {locs : List Loc} {s0 : S_Mo} {y0 : Int32} {y1 : Int32} {out : Int32 × S_Mo} (X : Cx p s m args meth c prog_11_method_10_code 6 ws_Mo_item R_Mo (some .boolean) D g) (hl : lv_has ls 6 []) (hI : Iw D A (w_Mo g a0 s0 ++ (rest)) H) (hS : va_S A s.heap H locs) (h : B_Mo_item_215  s0 y0 y1 = some out) : W p l e (headSpec ws_Mo_item { frames := 1, cells := 0, slots := 0, locals := 24 }).room s m args below meth c H locs 0 0 (MQ below (QcI D A g out.1 (fun (_ : Unit) => w_Mo g a0 out.2 ++ (rest))) args s 0 0 A) (F0 m 215 ls [.int y0, .int y1, .ref (a0 0)]) := by
  have X1 := X
  obtain ⟨hx, hb, hml, hown, hts, hr, hlocks, hKK⟩ := X1
  have ht : ∀ w ∈ TB, w.before args s = true := fun w h => hts w (List.mem_cons_of_mem _ h)
  have hK := hKK.1
  unfold B_Mo_item_215 at h
  refine lv_iconst (v := 0) hx hb d_Mo_item_215 (by decide) ?_
  exact t_Mo_item_216 X (lv_sub hl [] rfl) hI hS h
set_option maxRecDepth 100000 in
set_option maxHeartbeats 4000000 in
theorem t_Mo_item_211 {p : Program} {l : Launch} {e : Env} {s : State} {m : MethodId} {args : Array Value} {below : List Frame} {meth : Method} {c : Code} {D : va_G} {A : Nat → Prop} {g : Nat → ClassId} {rest : va_W} {a0 : Nat → Nat} {ls : Array Slot} {H : Heap} {locs : List Loc} {s0 : S_Mo} {y0 : Int32} {y1 : Int32} {out : Int32 × S_Mo} (X : Cx p s m args meth c prog_11_method_10_code 6 ws_Mo_item R_Mo (some .boolean) D g) (hl : lv_has ls 6 []) (hI : Iw D A (w_Mo g a0 s0 ++ (rest)) H) (hS : va_S A s.heap H locs) (h : B_Mo_item_211  s0 y0 y1 = some out) : W p l e (headSpec ws_Mo_item { frames := 1, cells := 0, slots := 0, locals := 24 }).room s m args below meth c H locs 0 0 (MQ below (QcI D A g out.1 (fun (_ : Unit) => w_Mo g a0 out.2 ++ (rest))) args s 0 0 A) (F0 m 211 ls [.int y0, .int y1, .ref (a0 0)]) := by
  have X1 := X
  obtain ⟨hx, hb, hml, hown, hts, hr, hlocks, hKK⟩ := X1
  have ht : ∀ w ∈ TB, w.before args s = true := fun w h => hts w (List.mem_cons_of_mem _ h)
  have hK := hKK.1
  unfold B_Mo_item_211 at h
  refine lv_iconst (v := 1) hx hb d_Mo_item_211 (by decide) ?_
  refine lv_goto (tgt := 216) hx hb d_Mo_item_212 (by decide) ?_
  exact t_Mo_item_216 X (lv_sub hl [] rfl) hI hS h
set_option maxRecDepth 100000 in
set_option maxHeartbeats 4000000 in
theorem t_Mo_item_203 {p : Program} {l : Launch} {e : Env} {s : State} {m : MethodId} {args : Array Value} {below : List Frame} {meth : Method} {c : Code} {D : va_G} {A : Nat → Prop} {g : Nat → ClassId} {rest : va_W} {a0 : Nat → Nat} {ls : Array Slot} {H : Heap} {locs : List Loc} {s0 : S_Mo} {x4 : Int32} {y0 : Int32} {y1 : Int32} {out : Int32 × S_Mo} (X : Cx p s m args meth c prog_11_method_10_code 6 ws_Mo_item R_Mo (some .boolean) D g) (hl : lv_has ls 6 [(4, .int x4)]) (hI : Iw D A (w_Mo g a0 s0 ++ (rest)) H) (hS : va_S A s.heap H locs) (h : B_Mo_item_203  s0 x4 y0 y1 = some out) : W p l e (headSpec ws_Mo_item { frames := 1, cells := 0, slots := 0, locals := 24 }).room s m args below meth c H locs 0 0 (MQ below (QcI D A g out.1 (fun (_ : Unit) => w_Mo g a0 out.2 ++ (rest))) args s 0 0 A) (F0 m 203 ls [.int y0, .int y1, .ref (a0 0)]) := by
  have X1 := X
  obtain ⟨hx, hb, hml, hown, hts, hr, hlocks, hKK⟩ := X1
  have ht : ∀ w ∈ TB, w.before args s = true := fun w h => hts w (List.mem_cons_of_mem _ h)
  have hK := hKK.1
  unfold B_Mo_item_203 at h
  refine lv_iload hx hb d_Mo_item_203 (lv_at hl 0 rfl) ?_
  refine lv_sipush (v := 255) hx hb d_Mo_item_205 (by decide) ?_
  refine lv_icmp_ne (tgt := 215) hx hb d_Mo_item_208 (by decide) (fun hc => ?_) (fun hc => ?_)
  · have h := it_f h hc
    exact t_Mo_item_215 X (lv_sub hl [] rfl) hI hS h
  · have h := it_t h hc
    exact t_Mo_item_211 X (lv_sub hl [] rfl) hI hS h
set_option maxRecDepth 100000 in
set_option maxHeartbeats 4000000 in
theorem t_Mo_item_196 {p : Program} {l : Launch} {e : Env} {s : State} {m : MethodId} {args : Array Value} {below : List Frame} {meth : Method} {c : Code} {D : va_G} {A : Nat → Prop} {g : Nat → ClassId} {rest : va_W} {a0 : Nat → Nat} {ls : Array Slot} {H : Heap} {locs : List Loc} {s0 : S_Mo} {x4 : Int32} {y0 : Int32} {out : Int32 × S_Mo} (X : Cx p s m args meth c prog_11_method_10_code 6 ws_Mo_item R_Mo (some .boolean) D g) (hl : lv_has ls 6 [(0, .ref (a0 0)), (4, .int x4)]) (hI : Iw D A (w_Mo g a0 s0 ++ (rest)) H) (hS : va_S A s.heap H locs) (h : B_Mo_item_196  s0 x4 y0 = some out) : W p l e (headSpec ws_Mo_item { frames := 1, cells := 0, slots := 0, locals := 24 }).room s m args below meth c H locs 0 0 (MQ below (QcI D A g out.1 (fun (_ : Unit) => w_Mo g a0 out.2 ++ (rest))) args s 0 0 A) (F0 m 196 ls [.int y0, .ref (a0 0)]) := by
  have X1 := X
  obtain ⟨hx, hb, hml, hown, hts, hr, hlocks, hKK⟩ := X1
  have ht : ∀ w ∈ TB, w.before args s = true := fun w h => hts w (List.mem_cons_of_mem _ h)
  have hK := hKK.1
  unfold B_Mo_item_196 at h
  refine lv_aload_n hx hb d_Mo_item_196 rfl (lv_at hl 0 rfl) ?_
  refine gt_Mo_at hx hb ht hown hK hI (ht _ m_841) d_Mo_item_197 ?_
  refine lv_iload hx hb d_Mo_item_200 (lv_at hl 1 rfl) ?_
  refine lv_iadd hx hb d_Mo_item_202 ?_
  exact t_Mo_item_203 X (lv_sub hl [1] rfl) hI hS h
set_option maxRecDepth 100000 in
set_option maxHeartbeats 4000000 in
theorem t_Mo_item_187 {p : Program} {l : Launch} {e : Env} {s : State} {m : MethodId} {args : Array Value} {below : List Frame} {meth : Method} {c : Code} {D : va_G} {A : Nat → Prop} {g : Nat → ClassId} {rest : va_W} {a0 : Nat → Nat} {ls : Array Slot} {H : Heap} {locs : List Loc} {s0 : S_Mo} {x2 : Int32} {x4 : Int32} {y0 : Int32} {out : Int32 × S_Mo} (X : Cx p s m args meth c prog_11_method_10_code 6 ws_Mo_item R_Mo (some .boolean) D g) (hl : lv_has ls 6 [(0, .ref (a0 0)), (2, .int x2), (4, .int x4)]) (hI : Iw D A (w_Mo g a0 s0 ++ (rest)) H) (hS : va_S A s.heap H locs) (h : B_Mo_item_187  s0 x2 x4 y0 = some out) : W p l e (headSpec ws_Mo_item { frames := 1, cells := 0, slots := 0, locals := 24 }).room s m args below meth c H locs 0 0 (MQ below (QcI D A g out.1 (fun (_ : Unit) => w_Mo g a0 out.2 ++ (rest))) args s 0 0 A) (F0 m 187 ls [.int y0, .ref (a0 0)]) := by
  have X1 := X
  obtain ⟨hx, hb, hml, hown, hts, hr, hlocks, hKK⟩ := X1
  have ht : ∀ w ∈ TB, w.before args s = true := fun w h => hts w (List.mem_cons_of_mem _ h)
  have hK := hKK.1
  unfold B_Mo_item_187 at h
  refine lv_aload_n hx hb d_Mo_item_187 rfl (lv_at hl 0 rfl) ?_
  refine gt_Mo_end hx hb ht hown hK hI (ht _ m_839) d_Mo_item_188 ?_
  refine lv_iload_n hx hb d_Mo_item_191 rfl (lv_at hl 1 rfl) ?_
  by_cases hc1 : (x2 < 0 ∨ 6 ≤ x2.toNatClampNeg)
  · exact no_s (it_t h hc1)
  have h := it_f h hc1
  refine al_Mo_end hx hb hK hI hc1 d_Mo_item_192 ?_
  refine lv_goto (tgt := 203) hx hb d_Mo_item_193 (by decide) ?_
  exact t_Mo_item_203 X (lv_sub hl [2] rfl) hI hS h
set_option maxRecDepth 100000 in
set_option maxHeartbeats 4000000 in
theorem t_Mo_item_157 {p : Program} {l : Launch} {e : Env} {s : State} {m : MethodId} {args : Array Value} {below : List Frame} {meth : Method} {c : Code} {D : va_G} {A : Nat → Prop} {g : Nat → ClassId} {rest : va_W} {a0 : Nat → Nat} {ls : Array Slot} {H : Heap} {locs : List Loc} {s0 : S_Mo} {x1 : Int32} {x2 : Int32} {x3 : Int32} {x4 : Int32} {out : Int32 × S_Mo} (X : Cx p s m args meth c prog_11_method_10_code 6 ws_Mo_item R_Mo (some .boolean) D g) (hl : lv_has ls 6 [(0, .ref (a0 0)), (1, .int x1), (2, .int x2), (3, .int x3), (4, .int x4)]) (hI : Iw D A (w_Mo g a0 s0 ++ (rest)) H) (hS : va_S A s.heap H locs) (h : B_Mo_item_157  s0 x1 x2 x3 x4 = some out) : W p l e (headSpec ws_Mo_item { frames := 1, cells := 0, slots := 0, locals := 24 }).room s m args below meth c H locs 0 0 (MQ below (QcI D A g out.1 (fun (_ : Unit) => w_Mo g a0 out.2 ++ (rest))) args s 0 0 A) (F0 m 157 ls []) := by
  have X1 := X
  obtain ⟨hx, hb, hml, hown, hts, hr, hlocks, hKK⟩ := X1
  have ht : ∀ w ∈ TB, w.before args s = true := fun w h => hts w (List.mem_cons_of_mem _ h)
  have hK := hKK.1
  unfold B_Mo_item_157 at h
  refine lv_aload_n hx hb d_Mo_item_157 rfl (lv_at hl 0 rfl) ?_
  refine lv_dup hx hb d_Mo_item_158 rfl ?_
  refine gt_Mo_at hx hb ht hown hK hI (ht _ m_841) d_Mo_item_159 ?_
  refine lv_iconst (v := 1) hx hb d_Mo_item_162 (by decide) ?_
  refine lv_iadd hx hb d_Mo_item_163 ?_
  refine pt_Mo_at hx hb ht hown hK hI hS (ht _ m_841) d_Mo_item_164 (fun H locs hI hS => ?_)
  refine lv_aload_n hx hb d_Mo_item_167 rfl (lv_at hl 0 rfl) ?_
  refine lv_iload_n hx hb d_Mo_item_168 rfl (lv_at hl 1 rfl) ?_
  refine lv_iconst (v := 0) hx hb d_Mo_item_169 (by decide) ?_
  refine lv_iload_n hx hb d_Mo_item_170 rfl (lv_at hl 3 rfl) ?_
  obtain ⟨o1, ho2, h⟩ := bd_s h
  refine cl_i (W1 := fun (_ : Unit) => w_Mo g a0 o1.2 ++ (rest)) (va_runV (As := [.int x1, .int (0 : Int32), .int x3]) (rest := []) ⟨hx, hb, hml, hown, ht⟩ (c_Mo_add (l := l) (D := D) (A := A) (g := g) (rest := rest) (a0 := a0) ho2) (cwV 3 ht (gd_V m_995 m_997 mp_39 m_11 m_998) rfl rfl rfl (by decide +kernel) ⟨(Nat.le_of_ble_eq_true rfl), (Nat.le_of_ble_eq_true rfl)⟩) (prV (ci := 9) (q0 := 0) hKK hI (List.Perm.refl _) rfl rfl rfl) rfl rfl hl.1 rfl (lv_room (Nat.le_of_ble_eq_true rfl)) d_Mo_item_171 ⟨(Nat.le_of_ble_eq_true rfl), (Nat.le_of_ble_eq_true rfl)⟩) hS (fun _ => ((List.Perm.refl _)).symm) (fun _ H locs hI hS => ?_)
  have hI : Iw D A (w_Mo g a0 o1.2 ++ (rest)) H := hI
  refine lv_istore hx hb d_Mo_item_174 hl (Nat.le_of_ble_eq_true rfl) rfl (fun ls hl => ?_)
  have hl : lv_has ls 6 [(5, .int o1.1), (0, .ref (a0 0)), (1, .int x1), (2, .int x2), (3, .int x3), (4, .int x4)] := hl
  refine lv_aload_n hx hb d_Mo_item_176 rfl (lv_at hl 1 rfl) ?_
  refine lv_iload hx hb d_Mo_item_177 (lv_at hl 0 rfl) ?_
  refine lv_iload hx hb d_Mo_item_179 (lv_at hl 5 rfl) ?_
  refine lv_sipush (v := 255) hx hb d_Mo_item_181 (by decide) ?_
  refine lv_icmp_ne (tgt := 196) hx hb d_Mo_item_184 (by decide) (fun hc => ?_) (fun hc => ?_)
  · have h := it_f h hc
    exact t_Mo_item_196 X (lv_sub hl [1, 5] rfl) hI hS h
  · have h := it_t h hc
    exact t_Mo_item_187 X (lv_sub hl [1, 3, 5] rfl) hI hS h
set_option maxRecDepth 100000 in
set_option maxHeartbeats 4000000 in
theorem t_Mo_item_147 {p : Program} {l : Launch} {e : Env} {s : State} {m : MethodId} {args : Array Value} {below : List Frame} {meth : Method} {c : Code} {D : va_G} {A : Nat → Prop} {g : Nat → ClassId} {rest : va_W} {a0 : Nat → Nat} {ls : Array Slot} {H : Heap} {locs : List Loc} {s0 : S_Mo} {out : Int32 × S_Mo} (X : Cx p s m args meth c prog_11_method_10_code 6 ws_Mo_item R_Mo (some .boolean) D g) (hl : lv_has ls 6 [(0, .ref (a0 0))]) (hI : Iw D A (w_Mo g a0 s0 ++ (rest)) H) (hS : va_S A s.heap H locs) (h : B_Mo_item_147  s0 = some out) : W p l e (headSpec ws_Mo_item { frames := 1, cells := 0, slots := 0, locals := 24 }).room s m args below meth c H locs 0 0 (MQ below (QcI D A g out.1 (fun (_ : Unit) => w_Mo g a0 out.2 ++ (rest))) args s 0 0 A) (F0 m 147 ls []) := by
  have X1 := X
  obtain ⟨hx, hb, hml, hown, hts, hr, hlocks, hKK⟩ := X1
  have ht : ∀ w ∈ TB, w.before args s = true := fun w h => hts w (List.mem_cons_of_mem _ h)
  have hK := hKK.1
  unfold B_Mo_item_147 at h
  refine lv_aload_n hx hb d_Mo_item_147 rfl (lv_at hl 0 rfl) ?_
  refine lv_iconst (v := 4) hx hb d_Mo_item_148 (by decide) ?_
  refine lv_aload_n hx hb d_Mo_item_149 rfl (lv_at hl 0 rfl) ?_
  refine gt_Mo_at hx hb ht hown hK hI (ht _ m_841) d_Mo_item_150 ?_
  obtain ⟨o1, ho2, h⟩ := bd_s h
  refine cl_i (W1 := fun (_ : Unit) => w_Mo g a0 o1.2 ++ (rest)) (va_runV (As := [.int (4 : Int32), .int (Mo_at s0)]) (rest := []) ⟨hx, hb, hml, hown, ht⟩ (c_Mo_wrong (l := l) (D := D) (A := A) (g := g) (rest := rest) (a0 := a0) ho2) (cwV 2 ht (gd_V m_1007 m_1009 mp_42 m_11 m_1010) rfl rfl rfl (by decide +kernel) ⟨(Nat.le_of_ble_eq_true rfl), (Nat.le_of_ble_eq_true rfl)⟩) (prV (ci := 9) (q0 := 0) hKK hI (List.Perm.refl _) rfl rfl rfl) rfl rfl hl.1 rfl (lv_room (Nat.le_of_ble_eq_true rfl)) d_Mo_item_153 ⟨(Nat.le_of_ble_eq_true rfl), (Nat.le_of_ble_eq_true rfl)⟩) hS (fun _ => ((List.Perm.refl _)).symm) (fun _ H locs hI hS => ?_)
  have hI : Iw D A (w_Mo g a0 o1.2 ++ (rest)) H := hI
  have hc3 : o1.1 = 0 ∨ o1.1 = 1 := by
    by_cases z : o1.1 = 0 ∨ o1.1 = 1
    · exact z
    · exact no_s (it_f h z)
  have h := it_t h hc3
  have h9 := Option.some.inj h
  subst h9
  exact W.zret (v := o1.1) hx hb hr (by rcases hc3 with z | z <;> rw [z] <;> rfl) (fun t ht hW => ⟨⟨_, (), rfl, rfl, ⟨by rw [ht]; exact hI, hKK.moved hW⟩⟩, hS.F ht⟩) hS.2.2 d_Mo_item_156
set_option maxRecDepth 100000 in
set_option maxHeartbeats 4000000 in
theorem t_Mo_item_129 {p : Program} {l : Launch} {e : Env} {s : State} {m : MethodId} {args : Array Value} {below : List Frame} {meth : Method} {c : Code} {D : va_G} {A : Nat → Prop} {g : Nat → ClassId} {rest : va_W} {a0 : Nat → Nat} {ls : Array Slot} {H : Heap} {locs : List Loc} {s0 : S_Mo} {x1 : Int32} {x2 : Int32} {x3 : Int32} {x4 : Int32} {out : Int32 × S_Mo} (X : Cx p s m args meth c prog_11_method_10_code 6 ws_Mo_item R_Mo (some .boolean) D g) (hl : lv_has ls 6 [(0, .ref (a0 0)), (1, .int x1), (2, .int x2), (3, .int x3), (4, .int x4)]) (hI : Iw D A (w_Mo g a0 s0 ++ (rest)) H) (hS : va_S A s.heap H locs) (h : B_Mo_item_129  s0 x1 x2 x3 x4 = some out) : W p l e (headSpec ws_Mo_item { frames := 1, cells := 0, slots := 0, locals := 24 }).room s m args below meth c H locs 0 0 (MQ below (QcI D A g out.1 (fun (_ : Unit) => w_Mo g a0 out.2 ++ (rest))) args s 0 0 A) (F0 m 129 ls []) := by
  have X1 := X
  obtain ⟨hx, hb, hml, hown, hts, hr, hlocks, hKK⟩ := X1
  have ht : ∀ w ∈ TB, w.before args s = true := fun w h => hts w (List.mem_cons_of_mem _ h)
  have hK := hKK.1
  unfold B_Mo_item_129 at h
  refine lv_aload_n hx hb d_Mo_item_129 rfl (lv_at hl 0 rfl) ?_
  refine gt_Mo_at hx hb ht hown hK hI (ht _ m_841) d_Mo_item_130 ?_
  refine lv_iconst (v := 1) hx hb d_Mo_item_133 (by decide) ?_
  refine lv_iadd hx hb d_Mo_item_134 ?_
  refine lv_iload hx hb d_Mo_item_135 (lv_at hl 4 rfl) ?_
  refine lv_iadd hx hb d_Mo_item_137 ?_
  refine lv_aload_n hx hb d_Mo_item_138 rfl (lv_at hl 0 rfl) ?_
  refine gt_Mo_end hx hb ht hown hK hI (ht _ m_839) d_Mo_item_139 ?_
  refine lv_iload_n hx hb d_Mo_item_142 rfl (lv_at hl 2 rfl) ?_
  by_cases hc1 : (x2 < 0 ∨ 6 ≤ x2.toNatClampNeg)
  · exact no_s (it_t h hc1)
  have h := it_f h hc1
  refine al_Mo_end hx hb hK hI hc1 d_Mo_item_143 ?_
  refine lv_icmp_le (tgt := 157) hx hb d_Mo_item_144 (by decide) (fun hc => ?_) (fun hc => ?_)
  · have h := it_t h hc
    exact t_Mo_item_157 X (lv_sub hl [0, 1, 2, 3, 4] rfl) hI hS h
  · have h := it_f h hc
    exact t_Mo_item_147 X (lv_sub hl [0] rfl) hI hS h
set_option maxRecDepth 100000 in
set_option maxHeartbeats 4000000 in
theorem t_Mo_item_121 {p : Program} {l : Launch} {e : Env} {s : State} {m : MethodId} {args : Array Value} {below : List Frame} {meth : Method} {c : Code} {D : va_G} {A : Nat → Prop} {g : Nat → ClassId} {rest : va_W} {a0 : Nat → Nat} {ls : Array Slot} {H : Heap} {locs : List Loc} {s0 : S_Mo} {x1 : Int32} {x2 : Int32} {x3 : Int32} {x4 : Int32} {out : Int32 × S_Mo} (X : Cx p s m args meth c prog_11_method_10_code 6 ws_Mo_item R_Mo (some .boolean) D g) (hl : lv_has ls 6 [(0, .ref (a0 0)), (1, .int x1), (2, .int x2), (3, .int x3), (4, .int x4)]) (hI : Iw D A (w_Mo g a0 s0 ++ (rest)) H) (hS : va_S A s.heap H locs) (h : B_Mo_item_121  s0 x1 x2 x3 x4 = some out) : W p l e (headSpec ws_Mo_item { frames := 1, cells := 0, slots := 0, locals := 24 }).room s m args below meth c H locs 0 0 (MQ below (QcI D A g out.1 (fun (_ : Unit) => w_Mo g a0 out.2 ++ (rest))) args s 0 0 A) (F0 m 121 ls []) := by
  have X1 := X
  obtain ⟨hx, hb, hml, hown, hts, hr, hlocks, hKK⟩ := X1
  have ht : ∀ w ∈ TB, w.before args s = true := fun w h => hts w (List.mem_cons_of_mem _ h)
  have hK := hKK.1
  unfold B_Mo_item_121 at h
  refine lv_iload hx hb d_Mo_item_121 (lv_at hl 4 rfl) ?_
  refine lv_sipush (v := 255) hx hb d_Mo_item_123 (by decide) ?_
  refine lv_icmp_eq (tgt := 157) hx hb d_Mo_item_126 (by decide) (fun hc => ?_) (fun hc => ?_)
  · have h := it_t h hc
    exact t_Mo_item_157 X (lv_sub hl [0, 1, 2, 3, 4] rfl) hI hS h
  · have h := it_f h hc
    exact t_Mo_item_129 X (lv_sub hl [0, 1, 2, 3, 4] rfl) hI hS h
set_option maxRecDepth 100000 in
set_option maxHeartbeats 4000000 in
theorem t_Mo_item_113 {p : Program} {l : Launch} {e : Env} {s : State} {m : MethodId} {args : Array Value} {below : List Frame} {meth : Method} {c : Code} {D : va_G} {A : Nat → Prop} {g : Nat → ClassId} {rest : va_W} {a0 : Nat → Nat} {ls : Array Slot} {H : Heap} {locs : List Loc} {s0 : S_Mo} {x1 : Int32} {x2 : Int32} {x3 : Int32} {x4 : Int32} {out : Int32 × S_Mo} (X : Cx p s m args meth c prog_11_method_10_code 6 ws_Mo_item R_Mo (some .boolean) D g) (hl : lv_has ls 6 [(0, .ref (a0 0)), (1, .int x1), (2, .int x2), (3, .int x3), (4, .int x4)]) (hI : Iw D A (w_Mo g a0 s0 ++ (rest)) H) (hS : va_S A s.heap H locs) (h : B_Mo_item_113  s0 x1 x2 x3 x4 = some out) : W p l e (headSpec ws_Mo_item { frames := 1, cells := 0, slots := 0, locals := 24 }).room s m args below meth c H locs 0 0 (MQ below (QcI D A g out.1 (fun (_ : Unit) => w_Mo g a0 out.2 ++ (rest))) args s 0 0 A) (F0 m 113 ls []) := by
  have X1 := X
  obtain ⟨hx, hb, hml, hown, hts, hr, hlocks, hKK⟩ := X1
  have ht : ∀ w ∈ TB, w.before args s = true := fun w h => hts w (List.mem_cons_of_mem _ h)
  have hK := hKK.1
  unfold B_Mo_item_113 at h
  refine lv_iload hx hb d_Mo_item_113 (lv_at hl 4 rfl) ?_
  refine lv_sipush (v := 255) hx hb d_Mo_item_115 (by decide) ?_
  refine lv_icmp_ne (tgt := 147) hx hb d_Mo_item_118 (by decide) (fun hc => ?_) (fun hc => ?_)
  · have h := it_f h hc
    exact t_Mo_item_147 X (lv_sub hl [0] rfl) hI hS h
  · have h := it_t h hc
    exact t_Mo_item_121 X (lv_sub hl [0, 1, 2, 3, 4] rfl) hI hS h
set_option maxRecDepth 100000 in
set_option maxHeartbeats 4000000 in
theorem t_Mo_item_94 {p : Program} {l : Launch} {e : Env} {s : State} {m : MethodId} {args : Array Value} {below : List Frame} {meth : Method} {c : Code} {D : va_G} {A : Nat → Prop} {g : Nat → ClassId} {rest : va_W} {a0 : Nat → Nat} {ls : Array Slot} {H : Heap} {locs : List Loc} {s0 : S_Mo} {x1 : Int32} {x2 : Int32} {x3 : Int32} {out : Int32 × S_Mo} (X : Cx p s m args meth c prog_11_method_10_code 6 ws_Mo_item R_Mo (some .boolean) D g) (hl : lv_has ls 6 [(0, .ref (a0 0)), (1, .int x1), (2, .int x2), (3, .int x3)]) (hI : Iw D A (w_Mo g a0 s0 ++ (rest)) H) (hS : va_S A s.heap H locs) (h : B_Mo_item_94  s0 x1 x2 x3 = some out) : W p l e (headSpec ws_Mo_item { frames := 1, cells := 0, slots := 0, locals := 24 }).room s m args below meth c H locs 0 0 (MQ below (QcI D A g out.1 (fun (_ : Unit) => w_Mo g a0 out.2 ++ (rest))) args s 0 0 A) (F0 m 94 ls []) := by
  have X1 := X
  obtain ⟨hx, hb, hml, hown, hts, hr, hlocks, hKK⟩ := X1
  have ht : ∀ w ∈ TB, w.before args s = true := fun w h => hts w (List.mem_cons_of_mem _ h)
  have hK := hKK.1
  unfold B_Mo_item_94 at h
  refine lv_aload_n hx hb d_Mo_item_94 rfl (lv_at hl 0 rfl) ?_
  refine gt_Mo_source hx hb ht hown hK hI (ht _ m_820) d_Mo_item_95 ?_
  refine lv_aload_n hx hb d_Mo_item_98 rfl (lv_at hl 0 rfl) ?_
  refine gt_Mo_at hx hb ht hown hK hI (ht _ m_841) d_Mo_item_99 ?_
  by_cases hc1 : ((Mo_at s0) < 0 ∨ 240 ≤ (Mo_at s0).toNatClampNeg)
  · exact no_s (it_t h hc1)
  have h := it_f h hc1
  refine al_Mo_source hx hb hK hI hc1 d_Mo_item_102 ?_
  refine lv_istore hx hb d_Mo_item_103 hl (Nat.le_of_ble_eq_true rfl) rfl (fun ls hl => ?_)
  have hl : lv_has ls 6 [(4, .int ((Mo_source s0) (Mo_at s0).toNatClampNeg)), (0, .ref (a0 0)), (1, .int x1), (2, .int x2), (3, .int x3)] := hl
  refine lv_iload hx hb d_Mo_item_105 (lv_at hl 0 rfl) ?_
  refine lv_sipush (v := 240) hx hb d_Mo_item_107 (by decide) ?_
  refine lv_icmp_le (tgt := 121) hx hb d_Mo_item_110 (by decide) (fun hc => ?_) (fun hc => ?_)
  · have h := it_t h hc
    exact t_Mo_item_121 X (lv_sub hl [1, 2, 3, 4, 0] rfl) hI hS h
  · have h := it_f h hc
    exact t_Mo_item_113 X (lv_sub hl [1, 2, 3, 4, 0] rfl) hI hS h
set_option maxRecDepth 100000 in
set_option maxHeartbeats 4000000 in
theorem t_Mo_item_84 {p : Program} {l : Launch} {e : Env} {s : State} {m : MethodId} {args : Array Value} {below : List Frame} {meth : Method} {c : Code} {D : va_G} {A : Nat → Prop} {g : Nat → ClassId} {rest : va_W} {a0 : Nat → Nat} {ls : Array Slot} {H : Heap} {locs : List Loc} {s0 : S_Mo} {out : Int32 × S_Mo} (X : Cx p s m args meth c prog_11_method_10_code 6 ws_Mo_item R_Mo (some .boolean) D g) (hl : lv_has ls 6 [(0, .ref (a0 0))]) (hI : Iw D A (w_Mo g a0 s0 ++ (rest)) H) (hS : va_S A s.heap H locs) (h : B_Mo_item_84  s0 = some out) : W p l e (headSpec ws_Mo_item { frames := 1, cells := 0, slots := 0, locals := 24 }).room s m args below meth c H locs 0 0 (MQ below (QcI D A g out.1 (fun (_ : Unit) => w_Mo g a0 out.2 ++ (rest))) args s 0 0 A) (F0 m 84 ls []) := by
  have X1 := X
  obtain ⟨hx, hb, hml, hown, hts, hr, hlocks, hKK⟩ := X1
  have ht : ∀ w ∈ TB, w.before args s = true := fun w h => hts w (List.mem_cons_of_mem _ h)
  have hK := hKK.1
  unfold B_Mo_item_84 at h
  refine lv_aload_n hx hb d_Mo_item_84 rfl (lv_at hl 0 rfl) ?_
  refine lv_iconst (v := 1) hx hb d_Mo_item_85 (by decide) ?_
  refine lv_aload_n hx hb d_Mo_item_86 rfl (lv_at hl 0 rfl) ?_
  refine gt_Mo_at hx hb ht hown hK hI (ht _ m_841) d_Mo_item_87 ?_
  obtain ⟨o1, ho2, h⟩ := bd_s h
  refine cl_i (W1 := fun (_ : Unit) => w_Mo g a0 o1.2 ++ (rest)) (va_runV (As := [.int (1 : Int32), .int (Mo_at s0)]) (rest := []) ⟨hx, hb, hml, hown, ht⟩ (c_Mo_wrong (l := l) (D := D) (A := A) (g := g) (rest := rest) (a0 := a0) ho2) (cwV 2 ht (gd_V m_1007 m_1009 mp_42 m_11 m_1010) rfl rfl rfl (by decide +kernel) ⟨(Nat.le_of_ble_eq_true rfl), (Nat.le_of_ble_eq_true rfl)⟩) (prV (ci := 9) (q0 := 0) hKK hI (List.Perm.refl _) rfl rfl rfl) rfl rfl hl.1 rfl (lv_room (Nat.le_of_ble_eq_true rfl)) d_Mo_item_90 ⟨(Nat.le_of_ble_eq_true rfl), (Nat.le_of_ble_eq_true rfl)⟩) hS (fun _ => ((List.Perm.refl _)).symm) (fun _ H locs hI hS => ?_)
  have hI : Iw D A (w_Mo g a0 o1.2 ++ (rest)) H := hI
  have hc3 : o1.1 = 0 ∨ o1.1 = 1 := by
    by_cases z : o1.1 = 0 ∨ o1.1 = 1
    · exact z
    · exact no_s (it_f h z)
  have h := it_t h hc3
  have h9 := Option.some.inj h
  subst h9
  exact W.zret (v := o1.1) hx hb hr (by rcases hc3 with z | z <;> rw [z] <;> rfl) (fun t ht hW => ⟨⟨_, (), rfl, rfl, ⟨by rw [ht]; exact hI, hKK.moved hW⟩⟩, hS.F ht⟩) hS.2.2 d_Mo_item_93
set_option maxRecDepth 100000 in
set_option maxHeartbeats 4000000 in
theorem t_Mo_item_61 {p : Program} {l : Launch} {e : Env} {s : State} {m : MethodId} {args : Array Value} {below : List Frame} {meth : Method} {c : Code} {D : va_G} {A : Nat → Prop} {g : Nat → ClassId} {rest : va_W} {a0 : Nat → Nat} {ls : Array Slot} {H : Heap} {locs : List Loc} {s0 : S_Mo} {x1 : Int32} {x2 : Int32} {x3 : Int32} {out : Int32 × S_Mo} (X : Cx p s m args meth c prog_11_method_10_code 6 ws_Mo_item R_Mo (some .boolean) D g) (hl : lv_has ls 6 [(0, .ref (a0 0)), (1, .int x1), (2, .int x2), (3, .int x3)]) (hI : Iw D A (w_Mo g a0 s0 ++ (rest)) H) (hS : va_S A s.heap H locs) (h : B_Mo_item_61  s0 x1 x2 x3 = some out) : W p l e (headSpec ws_Mo_item { frames := 1, cells := 0, slots := 0, locals := 24 }).room s m args below meth c H locs 0 0 (MQ below (QcI D A g out.1 (fun (_ : Unit) => w_Mo g a0 out.2 ++ (rest))) args s 0 0 A) (F0 m 61 ls []) := by
  have X1 := X
  obtain ⟨hx, hb, hml, hown, hts, hr, hlocks, hKK⟩ := X1
  have ht : ∀ w ∈ TB, w.before args s = true := fun w h => hts w (List.mem_cons_of_mem _ h)
  have hK := hKK.1
  unfold B_Mo_item_61 at h
  refine lv_aload_n hx hb d_Mo_item_61 rfl (lv_at hl 0 rfl) ?_
  refine lv_dup hx hb d_Mo_item_62 rfl ?_
  refine gt_Mo_at hx hb ht hown hK hI (ht _ m_841) d_Mo_item_63 ?_
  refine lv_iconst (v := 1) hx hb d_Mo_item_66 (by decide) ?_
  refine lv_iadd hx hb d_Mo_item_67 ?_
  refine pt_Mo_at hx hb ht hown hK hI hS (ht _ m_841) d_Mo_item_68 (fun H locs hI hS => ?_)
  refine lv_aload_n hx hb d_Mo_item_71 rfl (lv_at hl 0 rfl) ?_
  refine gt_Mo_at hx hb ht hown hK hI (ht _ m_841) d_Mo_item_72 ?_
  refine lv_aload_n hx hb d_Mo_item_75 rfl (lv_at hl 0 rfl) ?_
  refine gt_Mo_end hx hb ht hown hK hI (ht _ m_839) d_Mo_item_76 ?_
  refine lv_iload_n hx hb d_Mo_item_79 rfl (lv_at hl 2 rfl) ?_
  by_cases hc1 : (x2 < 0 ∨ 6 ≤ x2.toNatClampNeg)
  · exact no_s (it_t h hc1)
  have h := it_f h hc1
  refine al_Mo_end hx hb hK hI hc1 d_Mo_item_80 ?_
  refine lv_icmp_ne (tgt := 94) hx hb d_Mo_item_81 (by decide) (fun hc => ?_) (fun hc => ?_)
  · have h := it_f h hc
    exact t_Mo_item_94 X (lv_sub hl [0, 1, 2, 3] rfl) hI hS h
  · have h := it_t h hc
    exact t_Mo_item_84 X (lv_sub hl [0] rfl) hI hS h
set_option maxRecDepth 100000 in
set_option maxHeartbeats 4000000 in
theorem t_Mo_item_50 {p : Program} {l : Launch} {e : Env} {s : State} {m : MethodId} {args : Array Value} {below : List Frame} {meth : Method} {c : Code} {D : va_G} {A : Nat → Prop} {g : Nat → ClassId} {rest : va_W} {a0 : Nat → Nat} {ls : Array Slot} {H : Heap} {locs : List Loc} {s0 : S_Mo} {out : Int32 × S_Mo} (X : Cx p s m args meth c prog_11_method_10_code 6 ws_Mo_item R_Mo (some .boolean) D g) (hl : lv_has ls 6 [(0, .ref (a0 0))]) (hI : Iw D A (w_Mo g a0 s0 ++ (rest)) H) (hS : va_S A s.heap H locs) (h : B_Mo_item_50  s0 = some out) : W p l e (headSpec ws_Mo_item { frames := 1, cells := 0, slots := 0, locals := 24 }).room s m args below meth c H locs 0 0 (MQ below (QcI D A g out.1 (fun (_ : Unit) => w_Mo g a0 out.2 ++ (rest))) args s 0 0 A) (F0 m 50 ls []) := by
  have X1 := X
  obtain ⟨hx, hb, hml, hown, hts, hr, hlocks, hKK⟩ := X1
  have ht : ∀ w ∈ TB, w.before args s = true := fun w h => hts w (List.mem_cons_of_mem _ h)
  have hK := hKK.1
  unfold B_Mo_item_50 at h
  refine lv_aload_n hx hb d_Mo_item_50 rfl (lv_at hl 0 rfl) ?_
  refine lv_bipush (v := 7) hx hb d_Mo_item_51 (by decide) ?_
  refine lv_aload_n hx hb d_Mo_item_53 rfl (lv_at hl 0 rfl) ?_
  refine gt_Mo_at hx hb ht hown hK hI (ht _ m_841) d_Mo_item_54 ?_
  obtain ⟨o1, ho2, h⟩ := bd_s h
  refine cl_i (W1 := fun (_ : Unit) => w_Mo g a0 o1.2 ++ (rest)) (va_runV (As := [.int (7 : Int32), .int (Mo_at s0)]) (rest := []) ⟨hx, hb, hml, hown, ht⟩ (c_Mo_wrong (l := l) (D := D) (A := A) (g := g) (rest := rest) (a0 := a0) ho2) (cwV 2 ht (gd_V m_1007 m_1009 mp_42 m_11 m_1010) rfl rfl rfl (by decide +kernel) ⟨(Nat.le_of_ble_eq_true rfl), (Nat.le_of_ble_eq_true rfl)⟩) (prV (ci := 9) (q0 := 0) hKK hI (List.Perm.refl _) rfl rfl rfl) rfl rfl hl.1 rfl (lv_room (Nat.le_of_ble_eq_true rfl)) d_Mo_item_57 ⟨(Nat.le_of_ble_eq_true rfl), (Nat.le_of_ble_eq_true rfl)⟩) hS (fun _ => ((List.Perm.refl _)).symm) (fun _ H locs hI hS => ?_)
  have hI : Iw D A (w_Mo g a0 o1.2 ++ (rest)) H := hI
  have hc3 : o1.1 = 0 ∨ o1.1 = 1 := by
    by_cases z : o1.1 = 0 ∨ o1.1 = 1
    · exact z
    · exact no_s (it_f h z)
  have h := it_t h hc3
  have h9 := Option.some.inj h
  subst h9
  exact W.zret (v := o1.1) hx hb hr (by rcases hc3 with z | z <;> rw [z] <;> rfl) (fun t ht hW => ⟨⟨_, (), rfl, rfl, ⟨by rw [ht]; exact hI, hKK.moved hW⟩⟩, hS.F ht⟩) hS.2.2 d_Mo_item_60
set_option maxRecDepth 100000 in
set_option maxHeartbeats 4000000 in
theorem t_Mo_item_40 {p : Program} {l : Launch} {e : Env} {s : State} {m : MethodId} {args : Array Value} {below : List Frame} {meth : Method} {c : Code} {D : va_G} {A : Nat → Prop} {g : Nat → ClassId} {rest : va_W} {a0 : Nat → Nat} {ls : Array Slot} {H : Heap} {locs : List Loc} {s0 : S_Mo} {x1 : Int32} {x2 : Int32} {x3 : Int32} {out : Int32 × S_Mo} (X : Cx p s m args meth c prog_11_method_10_code 6 ws_Mo_item R_Mo (some .boolean) D g) (hl : lv_has ls 6 [(0, .ref (a0 0)), (1, .int x1), (2, .int x2), (3, .int x3)]) (hI : Iw D A (w_Mo g a0 s0 ++ (rest)) H) (hS : va_S A s.heap H locs) (h : B_Mo_item_40  s0 x1 x2 x3 = some out) : W p l e (headSpec ws_Mo_item { frames := 1, cells := 0, slots := 0, locals := 24 }).room s m args below meth c H locs 0 0 (MQ below (QcI D A g out.1 (fun (_ : Unit) => w_Mo g a0 out.2 ++ (rest))) args s 0 0 A) (F0 m 40 ls []) := by
  have X1 := X
  obtain ⟨hx, hb, hml, hown, hts, hr, hlocks, hKK⟩ := X1
  have ht : ∀ w ∈ TB, w.before args s = true := fun w h => hts w (List.mem_cons_of_mem _ h)
  have hK := hKK.1
  unfold B_Mo_item_40 at h
  refine lv_aload_n hx hb d_Mo_item_40 rfl (lv_at hl 0 rfl) ?_
  refine gt_Mo_many hx hb ht hown hK hI (ht _ m_831) d_Mo_item_41 ?_
  refine lv_iload_n hx hb d_Mo_item_44 rfl (lv_at hl 3 rfl) ?_
  by_cases hc1 : (x3 < 0 ∨ 260 ≤ x3.toNatClampNeg)
  · exact no_s (it_t h hc1)
  have h := it_f h hc1
  refine al_Mo_many hx hb hK hI hc1 d_Mo_item_45 ?_
  refine lv_iconst (v := 4) hx hb d_Mo_item_46 (by decide) ?_
  refine lv_icmp_ne (tgt := 61) hx hb d_Mo_item_47 (by decide) (fun hc => ?_) (fun hc => ?_)
  · have h := it_f h hc
    exact t_Mo_item_61 X (lv_sub hl [0, 1, 2, 3] rfl) hI hS h
  · have h := it_t h hc
    exact t_Mo_item_50 X (lv_sub hl [0] rfl) hI hS h
set_option maxRecDepth 100000 in
set_option maxHeartbeats 4000000 in
theorem t_Mo_item_29 {p : Program} {l : Launch} {e : Env} {s : State} {m : MethodId} {args : Array Value} {below : List Frame} {meth : Method} {c : Code} {D : va_G} {A : Nat → Prop} {g : Nat → ClassId} {rest : va_W} {a0 : Nat → Nat} {ls : Array Slot} {H : Heap} {locs : List Loc} {s0 : S_Mo} {out : Int32 × S_Mo} (X : Cx p s m args meth c prog_11_method_10_code 6 ws_Mo_item R_Mo (some .boolean) D g) (hl : lv_has ls 6 [(0, .ref (a0 0))]) (hI : Iw D A (w_Mo g a0 s0 ++ (rest)) H) (hS : va_S A s.heap H locs) (h : B_Mo_item_29  s0 = some out) : W p l e (headSpec ws_Mo_item { frames := 1, cells := 0, slots := 0, locals := 24 }).room s m args below meth c H locs 0 0 (MQ below (QcI D A g out.1 (fun (_ : Unit) => w_Mo g a0 out.2 ++ (rest))) args s 0 0 A) (F0 m 29 ls []) := by
  have X1 := X
  obtain ⟨hx, hb, hml, hown, hts, hr, hlocks, hKK⟩ := X1
  have ht : ∀ w ∈ TB, w.before args s = true := fun w h => hts w (List.mem_cons_of_mem _ h)
  have hK := hKK.1
  unfold B_Mo_item_29 at h
  refine lv_aload_n hx hb d_Mo_item_29 rfl (lv_at hl 0 rfl) ?_
  refine lv_bipush (v := 6) hx hb d_Mo_item_30 (by decide) ?_
  refine lv_aload_n hx hb d_Mo_item_32 rfl (lv_at hl 0 rfl) ?_
  refine gt_Mo_at hx hb ht hown hK hI (ht _ m_841) d_Mo_item_33 ?_
  obtain ⟨o1, ho2, h⟩ := bd_s h
  refine cl_i (W1 := fun (_ : Unit) => w_Mo g a0 o1.2 ++ (rest)) (va_runV (As := [.int (6 : Int32), .int (Mo_at s0)]) (rest := []) ⟨hx, hb, hml, hown, ht⟩ (c_Mo_wrong (l := l) (D := D) (A := A) (g := g) (rest := rest) (a0 := a0) ho2) (cwV 2 ht (gd_V m_1007 m_1009 mp_42 m_11 m_1010) rfl rfl rfl (by decide +kernel) ⟨(Nat.le_of_ble_eq_true rfl), (Nat.le_of_ble_eq_true rfl)⟩) (prV (ci := 9) (q0 := 0) hKK hI (List.Perm.refl _) rfl rfl rfl) rfl rfl hl.1 rfl (lv_room (Nat.le_of_ble_eq_true rfl)) d_Mo_item_36 ⟨(Nat.le_of_ble_eq_true rfl), (Nat.le_of_ble_eq_true rfl)⟩) hS (fun _ => ((List.Perm.refl _)).symm) (fun _ H locs hI hS => ?_)
  have hI : Iw D A (w_Mo g a0 o1.2 ++ (rest)) H := hI
  have hc3 : o1.1 = 0 ∨ o1.1 = 1 := by
    by_cases z : o1.1 = 0 ∨ o1.1 = 1
    · exact z
    · exact no_s (it_f h z)
  have h := it_t h hc3
  have h9 := Option.some.inj h
  subst h9
  exact W.zret (v := o1.1) hx hb hr (by rcases hc3 with z | z <;> rw [z] <;> rfl) (fun t ht hW => ⟨⟨_, (), rfl, rfl, ⟨by rw [ht]; exact hI, hKK.moved hW⟩⟩, hS.F ht⟩) hS.2.2 d_Mo_item_39
set_option maxRecDepth 100000 in
set_option maxHeartbeats 4000000 in
theorem t_Mo_item_0 {p : Program} {l : Launch} {e : Env} {s : State} {m : MethodId} {args : Array Value} {below : List Frame} {meth : Method} {c : Code} {D : va_G} {A : Nat → Prop} {g : Nat → ClassId} {rest : va_W} {a0 : Nat → Nat} {ls : Array Slot} {H : Heap} {locs : List Loc} {s0 : S_Mo} {x1 : Int32} {out : Int32 × S_Mo} (X : Cx p s m args meth c prog_11_method_10_code 6 ws_Mo_item R_Mo (some .boolean) D g) (hl : lv_has ls 6 [(0, .ref (a0 0)), (1, .int x1)]) (hI : Iw D A (w_Mo g a0 s0 ++ (rest)) H) (hS : va_S A s.heap H locs) (h : B_Mo_item_0  s0 x1 = some out) : W p l e (headSpec ws_Mo_item { frames := 1, cells := 0, slots := 0, locals := 24 }).room s m args below meth c H locs 0 0 (MQ below (QcI D A g out.1 (fun (_ : Unit) => w_Mo g a0 out.2 ++ (rest))) args s 0 0 A) (F0 m 0 ls []) := by
  have X1 := X
  obtain ⟨hx, hb, hml, hown, hts, hr, hlocks, hKK⟩ := X1
  have ht : ∀ w ∈ TB, w.before args s = true := fun w h => hts w (List.mem_cons_of_mem _ h)
  have hK := hKK.1
  unfold B_Mo_item_0 at h
  refine lv_aload_n hx hb d_Mo_item_0 rfl (lv_at hl 0 rfl) ?_
  refine gt_Mo_depth hx hb ht hown hK hI (ht _ m_837) d_Mo_item_1 ?_
  refine lv_iconst (v := 1) hx hb d_Mo_item_4 (by decide) ?_
  refine lv_isub hx hb d_Mo_item_5 ?_
  refine lv_istore_n hx hb d_Mo_item_6 rfl hl (Nat.le_of_ble_eq_true rfl) rfl (fun ls hl => ?_)
  have hl : lv_has ls 6 [(2, .int ((Mo_depth s0) - (1 : Int32))), (0, .ref (a0 0)), (1, .int x1)] := hl
  refine lv_aload_n hx hb d_Mo_item_7 rfl (lv_at hl 1 rfl) ?_
  refine gt_Mo_node hx hb ht hown hK hI (ht _ m_838) d_Mo_item_8 ?_
  refine lv_iload_n hx hb d_Mo_item_11 rfl (lv_at hl 0 rfl) ?_
  by_cases hc1 : (((Mo_depth s0) - (1 : Int32)) < 0 ∨ 6 ≤ ((Mo_depth s0) - (1 : Int32)).toNatClampNeg)
  · exact no_s (it_t h hc1)
  have h := it_f h hc1
  refine al_Mo_node hx hb hK hI hc1 d_Mo_item_12 ?_
  refine lv_istore_n hx hb d_Mo_item_13 rfl hl (Nat.le_of_ble_eq_true rfl) rfl (fun ls hl => ?_)
  have hl : lv_has ls 6 [(3, .int ((Mo_node s0) ((Mo_depth s0) - (1 : Int32)).toNatClampNeg)), (2, .int ((Mo_depth s0) - (1 : Int32))), (0, .ref (a0 0)), (1, .int x1)] := hl
  refine lv_aload_n hx hb d_Mo_item_14 rfl (lv_at hl 2 rfl) ?_
  refine gt_Mo_source hx hb ht hown hK hI (ht _ m_820) d_Mo_item_15 ?_
  refine lv_aload_n hx hb d_Mo_item_18 rfl (lv_at hl 2 rfl) ?_
  refine gt_Mo_at hx hb ht hown hK hI (ht _ m_841) d_Mo_item_19 ?_
  by_cases hc2 : ((Mo_at s0) < 0 ∨ 240 ≤ (Mo_at s0).toNatClampNeg)
  · exact no_s (it_t h hc2)
  have h := it_f h hc2
  refine al_Mo_source hx hb hK hI hc2 d_Mo_item_22 ?_
  refine lv_sipush (v := 254) hx hb d_Mo_item_23 (by decide) ?_
  refine lv_icmp_eq (tgt := 40) hx hb d_Mo_item_26 (by decide) (fun hc => ?_) (fun hc => ?_)
  · have h := it_t h hc
    exact t_Mo_item_40 X (lv_sub hl [2, 3, 1, 0] rfl) hI hS h
  · have h := it_f h hc
    exact t_Mo_item_29 X (lv_sub hl [2] rfl) hI hS h
set_option maxRecDepth 100000 in
set_option maxHeartbeats 4000000 in
theorem c_Mo_item {l : Launch} {D : va_G} {A : Nat → Prop} {g : Nat → ClassId} {rest : va_W} {a0 : Nat → Nat} {s0 : S_Mo} {x1 : Int32} {out : Int32 × S_Mo} (h : F_Mo_item s0 x1 = some out) : Met l y_Mo_item ws_Mo_item { frames := 1, cells := 0, slots := 0, locals := 24 } (PcW D A g [.ref (a0 0), .int x1] (w_Mo g a0 s0 ++ (rest))) (QcI D A g out.1 (fun (_ : Unit) => w_Mo g a0 out.2 ++ (rest))) 0 0 A := by
  refine Met.ofW (cc := prog_11_method_10_code) (maxL := 6) (ret := (some .boolean)) (by decide) rfl ?_
  intro p e s m args below meth c s₁ B hml hv
  obtain ⟨rfl, hI, hK⟩ := hv
  have hl := lv_entry [.ref (a0 0), .int x1] (n := 6) (Nat.le_of_ble_eq_true rfl)
  rw [lg_entry_eq]
  generalize (lg_sl [.ref (a0 0), .int x1] ++ List.replicate (6 - (lg_sl [.ref (a0 0), .int x1]).length) Slot.unset).toArray = ls at hl ⊢
  have hl : lv_has ls 6 [(0, .ref (a0 0)), (1, .int x1)] := hl
  exact t_Mo_item_0 ⟨B.exec, B.bytes, hml, findClass_of_methodNamed B.named, atoms_spec (ws := ws_Mo_item) B.pre, B.returns, B.notSynchronized, hK⟩ (lv_sub hl [0, 1] rfl) hI va_S.rf h
def ws_Mo_goOn : List Cond := .code y_Mo_goOn prog_11_method_9_code 5 (some .boolean) :: TB
def B_Mo_goOn_148 (s0 : S_Mo) (y0 : Int32) : Option (Int32 × S_Mo) :=
  (if y0 = 0 ∨ y0 = 1 then some (y0, s0) else none)
def B_Mo_goOn_143 (s0 : S_Mo) (x1 : Int32) : Option (Int32 × S_Mo) :=
  ((F_Mo_item s0 x1).bind fun o1 => (B_Mo_goOn_148 o1.2 o1.1))
def B_Mo_goOn_134 (s0 : S_Mo) (x1 : Int32) (x2 : Int32) : Option (Int32 × S_Mo) :=
  ((F_Mo_element s0 x1 x2).bind fun o1 => (B_Mo_goOn_148 o1.2 o1.1))
def B_Mo_goOn_129 (s0 : S_Mo) (x1 : Int32) (x2 : Int32) (x4 : Int32) : Option (Int32 × S_Mo) :=
  (if x4 = 0 then (B_Mo_goOn_143 s0 x1) else (B_Mo_goOn_134 s0 x1 x2))
def B_Mo_goOn_107 (s0 : S_Mo) : Option (Int32 × S_Mo) :=
  some ((1 : Int32), (Mo_set_depth (Mo_set_at s0 ((Mo_at s0) + (1 : Int32))) ((Mo_depth (Mo_set_at s0 ((Mo_at s0) + (1 : Int32)))) - (1 : Int32))))
def B_Mo_goOn_104 (s0 : S_Mo) (x1 : Int32) (x2 : Int32) (x4 : Int32) (y0 : Int32) (y1 : Int32) : Option (Int32 × S_Mo) :=
  (if y1 = y0 then (B_Mo_goOn_107 s0) else (B_Mo_goOn_129 s0 x1 x2 x4))
def B_Mo_goOn_101 (s0 : S_Mo) (x1 : Int32) (x2 : Int32) (x4 : Int32) (y0 : Int32) : Option (Int32 × S_Mo) :=
  (B_Mo_goOn_104 s0 x1 x2 x4 (252 : Int32) y0)
def B_Mo_goOn_95 (s0 : S_Mo) (x1 : Int32) (x2 : Int32) (x4 : Int32) (y0 : Int32) : Option (Int32 × S_Mo) :=
  (B_Mo_goOn_104 s0 x1 x2 x4 (253 : Int32) y0)
def B_Mo_goOn_81 (s0 : S_Mo) (x1 : Int32) (x2 : Int32) (x4 : Int32) : Option (Int32 × S_Mo) :=
  (if ((Mo_at s0) < 0 ∨ 240 ≤ (Mo_at s0).toNatClampNeg) then none else (if x4 = 0 then (B_Mo_goOn_101 s0 x1 x2 x4 ((Mo_source s0) (Mo_at s0).toNatClampNeg)) else (B_Mo_goOn_95 s0 x1 x2 x4 ((Mo_source s0) (Mo_at s0).toNatClampNeg))))
def B_Mo_goOn_72 (s0 : S_Mo) (x1 : Int32) (x2 : Int32) (x3 : Int32) (x4 : Int32) : Option (Int32 × S_Mo) :=
  (if (x3 < 0 ∨ 6 ≤ x3.toNatClampNeg) then none else (if ((Mo_loose s0) x3.toNatClampNeg) = 0 then (B_Mo_goOn_129 s0 x1 x2 x4) else (B_Mo_goOn_81 s0 x1 x2 x4)))
def B_Mo_goOn_60 (s0 : S_Mo) : Option (Int32 × S_Mo) :=
  some ((1 : Int32), (Mo_set_depth s0 ((Mo_depth s0) - (1 : Int32))))
def B_Mo_goOn_50 (s0 : S_Mo) : Option (Int32 × S_Mo) :=
  ((F_Mo_wrong s0 (1 : Int32) (Mo_at s0)).bind fun o1 => (if o1.1 = 0 ∨ o1.1 = 1 then some (o1.1, o1.2) else none))
def B_Mo_goOn_41 (s0 : S_Mo) (x3 : Int32) : Option (Int32 × S_Mo) :=
  (if (x3 < 0 ∨ 6 ≤ x3.toNatClampNeg) then none else (if ((Mo_loose s0) x3.toNatClampNeg) = 0 then (B_Mo_goOn_60 s0) else (B_Mo_goOn_50 s0)))
def B_Mo_goOn_26 (s0 : S_Mo) (x1 : Int32) (x2 : Int32) (x3 : Int32) (y0 : Int32) : Option (Int32 × S_Mo) :=
  (if (x3 < 0 ∨ 6 ≤ x3.toNatClampNeg) then none else (if (Mo_at s0) = ((Mo_end s0) x3.toNatClampNeg) then (B_Mo_goOn_41 s0 x3) else (B_Mo_goOn_72 s0 x1 x2 x3 y0)))
def B_Mo_goOn_25 (s0 : S_Mo) (x1 : Int32) (x2 : Int32) (x3 : Int32) : Option (Int32 × S_Mo) :=
  (B_Mo_goOn_26 s0 x1 x2 x3 (0 : Int32))
def B_Mo_goOn_21 (s0 : S_Mo) (x1 : Int32) (x2 : Int32) (x3 : Int32) : Option (Int32 × S_Mo) :=
  (B_Mo_goOn_26 s0 x1 x2 x3 (1 : Int32))
def B_Mo_goOn_0 (s0 : S_Mo) (x1 : Int32) (x2 : Int32) : Option (Int32 × S_Mo) :=
  (if (((Mo_depth s0) - (1 : Int32)) < 0 ∨ 6 ≤ ((Mo_depth s0) - (1 : Int32)).toNatClampNeg) then none else (if (((Mo_node s0) ((Mo_depth s0) - (1 : Int32)).toNatClampNeg) < 0 ∨ 260 ≤ ((Mo_node s0) ((Mo_depth s0) - (1 : Int32)).toNatClampNeg).toNatClampNeg) then none else (if ((Mo_kind s0) ((Mo_node s0) ((Mo_depth s0) - (1 : Int32)).toNatClampNeg).toNatClampNeg) = 0 then (B_Mo_goOn_21 s0 x1 x2 ((Mo_depth s0) - (1 : Int32))) else (B_Mo_goOn_25 s0 x1 x2 ((Mo_depth s0) - (1 : Int32))))))
def F_Mo_goOn (s0 : S_Mo) (x1 : Int32) (x2 : Int32) : Option (Int32 × S_Mo) := B_Mo_goOn_0 s0 x1 x2
set_option maxRecDepth 100000 in
set_option maxHeartbeats 4000000 in
theorem t_Mo_goOn_148 {p : Program} {l : Launch} {e : Env} {s : State} {m : MethodId} {args : Array Value} {below : List Frame} {meth : Method} {c : Code} {D : va_G} {A : Nat → Prop} {g : Nat → ClassId} {rest : va_W} {a0 : Nat → Nat} {ls : Array Slot} {H : Heap} {locs : List Loc} {s0 : S_Mo} {y0 : Int32} {out : Int32 × S_Mo} (X : Cx p s m args meth c prog_11_method_9_code 5 ws_Mo_goOn R_Mo (some .boolean) D g) (hl : lv_has ls 5 []) (hI : Iw D A (w_Mo g a0 s0 ++ (rest)) H) (hS : va_S A s.heap H locs) (h : B_Mo_goOn_148  s0 y0 = some out) : W p l e (headSpec ws_Mo_goOn { frames := 3, cells := 0, slots := 0, locals := 79 }).room s m args below meth c H locs 0 0 (MQ below (QcI D A g out.1 (fun (_ : Unit) => w_Mo g a0 out.2 ++ (rest))) args s 0 0 A) (F0 m 148 ls [.int y0]) := by
  have X1 := X
  obtain ⟨hx, hb, hml, hown, hts, hr, hlocks, hKK⟩ := X1
  have ht : ∀ w ∈ TB, w.before args s = true := fun w h => hts w (List.mem_cons_of_mem _ h)
  have hK := hKK.1
  unfold B_Mo_goOn_148 at h
  have hc1 : y0 = 0 ∨ y0 = 1 := by
    by_cases z : y0 = 0 ∨ y0 = 1
    · exact z
    · exact no_s (it_f h z)
  have h := it_t h hc1
  have h9 := Option.some.inj h
  subst h9
  exact W.zret (v := y0) hx hb hr (by rcases hc1 with z | z <;> rw [z] <;> rfl) (fun t ht hW => ⟨⟨_, (), rfl, rfl, ⟨by rw [ht]; exact hI, hKK.moved hW⟩⟩, hS.F ht⟩) hS.2.2 d_Mo_goOn_148
set_option maxRecDepth 100000 in
set_option maxHeartbeats 4000000 in
theorem t_Mo_goOn_143 {p : Program} {l : Launch} {e : Env} {s : State} {m : MethodId} {args : Array Value} {below : List Frame} {meth : Method} {c : Code} {D : va_G} {A : Nat → Prop} {g : Nat → ClassId} {rest : va_W} {a0 : Nat → Nat} {ls : Array Slot} {H : Heap} {locs : List Loc} {s0 : S_Mo} {x1 : Int32} {out : Int32 × S_Mo} (X : Cx p s m args meth c prog_11_method_9_code 5 ws_Mo_goOn R_Mo (some .boolean) D g) (hl : lv_has ls 5 [(0, .ref (a0 0)), (1, .int x1)]) (hI : Iw D A (w_Mo g a0 s0 ++ (rest)) H) (hS : va_S A s.heap H locs) (h : B_Mo_goOn_143  s0 x1 = some out) : W p l e (headSpec ws_Mo_goOn { frames := 3, cells := 0, slots := 0, locals := 79 }).room s m args below meth c H locs 0 0 (MQ below (QcI D A g out.1 (fun (_ : Unit) => w_Mo g a0 out.2 ++ (rest))) args s 0 0 A) (F0 m 143 ls []) := by
  have X1 := X
  obtain ⟨hx, hb, hml, hown, hts, hr, hlocks, hKK⟩ := X1
  have ht : ∀ w ∈ TB, w.before args s = true := fun w h => hts w (List.mem_cons_of_mem _ h)
  have hK := hKK.1
  unfold B_Mo_goOn_143 at h
  refine lv_aload_n hx hb d_Mo_goOn_143 rfl (lv_at hl 0 rfl) ?_
  refine lv_iload_n hx hb d_Mo_goOn_144 rfl (lv_at hl 1 rfl) ?_
  obtain ⟨o1, ho2, h⟩ := bd_s h
  refine cl_i (W1 := fun (_ : Unit) => w_Mo g a0 o1.2 ++ (rest)) (va_runV (As := [.int x1]) (rest := []) ⟨hx, hb, hml, hown, ht⟩ (c_Mo_item (l := l) (D := D) (A := A) (g := g) (rest := rest) (a0 := a0) ho2) (cwV 1 ht (gd_V m_1023 m_1025 mp_46 m_11 m_1026) rfl rfl rfl (by decide +kernel) ⟨(Nat.le_of_ble_eq_true rfl), (Nat.le_of_ble_eq_true rfl)⟩) (prV (ci := 9) (q0 := 0) hKK hI (List.Perm.refl _) rfl rfl rfl) rfl rfl hl.1 rfl (lv_room (Nat.le_of_ble_eq_true rfl)) d_Mo_goOn_145 ⟨(Nat.le_of_ble_eq_true rfl), (Nat.le_of_ble_eq_true rfl)⟩) hS (fun _ => ((List.Perm.refl _)).symm) (fun _ H locs hI hS => ?_)
  have hI : Iw D A (w_Mo g a0 o1.2 ++ (rest)) H := hI
  exact t_Mo_goOn_148 X (lv_sub hl [] rfl) hI hS h
set_option maxRecDepth 100000 in
set_option maxHeartbeats 4000000 in
theorem t_Mo_goOn_134 {p : Program} {l : Launch} {e : Env} {s : State} {m : MethodId} {args : Array Value} {below : List Frame} {meth : Method} {c : Code} {D : va_G} {A : Nat → Prop} {g : Nat → ClassId} {rest : va_W} {a0 : Nat → Nat} {ls : Array Slot} {H : Heap} {locs : List Loc} {s0 : S_Mo} {x1 : Int32} {x2 : Int32} {out : Int32 × S_Mo} (X : Cx p s m args meth c prog_11_method_9_code 5 ws_Mo_goOn R_Mo (some .boolean) D g) (hl : lv_has ls 5 [(0, .ref (a0 0)), (1, .int x1), (2, .int x2)]) (hI : Iw D A (w_Mo g a0 s0 ++ (rest)) H) (hS : va_S A s.heap H locs) (h : B_Mo_goOn_134  s0 x1 x2 = some out) : W p l e (headSpec ws_Mo_goOn { frames := 3, cells := 0, slots := 0, locals := 79 }).room s m args below meth c H locs 0 0 (MQ below (QcI D A g out.1 (fun (_ : Unit) => w_Mo g a0 out.2 ++ (rest))) args s 0 0 A) (F0 m 134 ls []) := by
  have X1 := X
  obtain ⟨hx, hb, hml, hown, hts, hr, hlocks, hKK⟩ := X1
  have ht : ∀ w ∈ TB, w.before args s = true := fun w h => hts w (List.mem_cons_of_mem _ h)
  have hK := hKK.1
  unfold B_Mo_goOn_134 at h
  refine lv_aload_n hx hb d_Mo_goOn_134 rfl (lv_at hl 0 rfl) ?_
  refine lv_iload_n hx hb d_Mo_goOn_135 rfl (lv_at hl 1 rfl) ?_
  refine lv_iload_n hx hb d_Mo_goOn_136 rfl (lv_at hl 2 rfl) ?_
  obtain ⟨o1, ho2, h⟩ := bd_s h
  refine cl_i (W1 := fun (_ : Unit) => w_Mo g a0 o1.2 ++ (rest)) (va_runV (As := [.int x1, .int x2]) (rest := []) ⟨hx, hb, hml, hown, ht⟩ (c_Mo_element (l := l) (D := D) (A := A) (g := g) (rest := rest) (a0 := a0) ho2) (cwV 2 ht (gd_V m_1011 m_1013 mp_43 m_11 m_1014) rfl rfl rfl (by decide +kernel) ⟨(Nat.le_of_ble_eq_true rfl), (Nat.le_of_ble_eq_true rfl)⟩) (prV (ci := 9) (q0 := 0) hKK hI (List.Perm.refl _) rfl rfl rfl) rfl rfl hl.1 rfl (lv_room (Nat.le_of_ble_eq_true rfl)) d_Mo_goOn_137 ⟨(Nat.le_of_ble_eq_true rfl), (Nat.le_of_ble_eq_true rfl)⟩) hS (fun _ => ((List.Perm.refl _)).symm) (fun _ H locs hI hS => ?_)
  have hI : Iw D A (w_Mo g a0 o1.2 ++ (rest)) H := hI
  refine lv_goto (tgt := 148) hx hb d_Mo_goOn_140 (by decide) ?_
  exact t_Mo_goOn_148 X (lv_sub hl [] rfl) hI hS h
set_option maxRecDepth 100000 in
set_option maxHeartbeats 4000000 in
theorem t_Mo_goOn_129 {p : Program} {l : Launch} {e : Env} {s : State} {m : MethodId} {args : Array Value} {below : List Frame} {meth : Method} {c : Code} {D : va_G} {A : Nat → Prop} {g : Nat → ClassId} {rest : va_W} {a0 : Nat → Nat} {ls : Array Slot} {H : Heap} {locs : List Loc} {s0 : S_Mo} {x1 : Int32} {x2 : Int32} {x4 : Int32} {out : Int32 × S_Mo} (X : Cx p s m args meth c prog_11_method_9_code 5 ws_Mo_goOn R_Mo (some .boolean) D g) (hl : lv_has ls 5 [(0, .ref (a0 0)), (1, .int x1), (2, .int x2), (4, .int x4)]) (hI : Iw D A (w_Mo g a0 s0 ++ (rest)) H) (hS : va_S A s.heap H locs) (h : B_Mo_goOn_129  s0 x1 x2 x4 = some out) : W p l e (headSpec ws_Mo_goOn { frames := 3, cells := 0, slots := 0, locals := 79 }).room s m args below meth c H locs 0 0 (MQ below (QcI D A g out.1 (fun (_ : Unit) => w_Mo g a0 out.2 ++ (rest))) args s 0 0 A) (F0 m 129 ls []) := by
  have X1 := X
  obtain ⟨hx, hb, hml, hown, hts, hr, hlocks, hKK⟩ := X1
  have ht : ∀ w ∈ TB, w.before args s = true := fun w h => hts w (List.mem_cons_of_mem _ h)
  have hK := hKK.1
  unfold B_Mo_goOn_129 at h
  refine lv_iload hx hb d_Mo_goOn_129 (lv_at hl 3 rfl) ?_
  refine lv_if_eq (tgt := 143) hx hb d_Mo_goOn_131 (by decide) (fun hc => ?_) (fun hc => ?_)
  · have h := it_t h hc
    exact t_Mo_goOn_143 X (lv_sub hl [0, 1] rfl) hI hS h
  · have h := it_f h hc
    exact t_Mo_goOn_134 X (lv_sub hl [0, 1, 2] rfl) hI hS h
set_option maxRecDepth 100000 in
set_option maxHeartbeats 4000000 in
theorem t_Mo_goOn_107 {p : Program} {l : Launch} {e : Env} {s : State} {m : MethodId} {args : Array Value} {below : List Frame} {meth : Method} {c : Code} {D : va_G} {A : Nat → Prop} {g : Nat → ClassId} {rest : va_W} {a0 : Nat → Nat} {ls : Array Slot} {H : Heap} {locs : List Loc} {s0 : S_Mo} {out : Int32 × S_Mo} (X : Cx p s m args meth c prog_11_method_9_code 5 ws_Mo_goOn R_Mo (some .boolean) D g) (hl : lv_has ls 5 [(0, .ref (a0 0))]) (hI : Iw D A (w_Mo g a0 s0 ++ (rest)) H) (hS : va_S A s.heap H locs) (h : B_Mo_goOn_107  s0 = some out) : W p l e (headSpec ws_Mo_goOn { frames := 3, cells := 0, slots := 0, locals := 79 }).room s m args below meth c H locs 0 0 (MQ below (QcI D A g out.1 (fun (_ : Unit) => w_Mo g a0 out.2 ++ (rest))) args s 0 0 A) (F0 m 107 ls []) := by
  have X1 := X
  obtain ⟨hx, hb, hml, hown, hts, hr, hlocks, hKK⟩ := X1
  have ht : ∀ w ∈ TB, w.before args s = true := fun w h => hts w (List.mem_cons_of_mem _ h)
  have hK := hKK.1
  unfold B_Mo_goOn_107 at h
  refine lv_aload_n hx hb d_Mo_goOn_107 rfl (lv_at hl 0 rfl) ?_
  refine lv_dup hx hb d_Mo_goOn_108 rfl ?_
  refine gt_Mo_at hx hb ht hown hK hI (ht _ m_841) d_Mo_goOn_109 ?_
  refine lv_iconst (v := 1) hx hb d_Mo_goOn_112 (by decide) ?_
  refine lv_iadd hx hb d_Mo_goOn_113 ?_
  refine pt_Mo_at hx hb ht hown hK hI hS (ht _ m_841) d_Mo_goOn_114 (fun H locs hI hS => ?_)
  refine lv_aload_n hx hb d_Mo_goOn_117 rfl (lv_at hl 0 rfl) ?_
  refine lv_dup hx hb d_Mo_goOn_118 rfl ?_
  refine gt_Mo_depth hx hb ht hown hK hI (ht _ m_837) d_Mo_goOn_119 ?_
  refine lv_iconst (v := 1) hx hb d_Mo_goOn_122 (by decide) ?_
  refine lv_isub hx hb d_Mo_goOn_123 ?_
  refine pt_Mo_depth hx hb ht hown hK hI hS (ht _ m_837) d_Mo_goOn_124 (fun H locs hI hS => ?_)
  refine lv_iconst (v := 1) hx hb d_Mo_goOn_127 (by decide) ?_
  have h9 := Option.some.inj h
  subst h9
  exact W.zret (v := (1 : Int32)) hx hb hr rfl (fun t ht hW => ⟨⟨_, (), rfl, rfl, ⟨by rw [ht]; exact hI, hKK.moved hW⟩⟩, hS.F ht⟩) hS.2.2 d_Mo_goOn_128
set_option maxRecDepth 100000 in
set_option maxHeartbeats 4000000 in
theorem t_Mo_goOn_104 {p : Program} {l : Launch} {e : Env} {s : State} {m : MethodId} {args : Array Value} {below : List Frame} {meth : Method} {c : Code} {D : va_G} {A : Nat → Prop} {g : Nat → ClassId} {rest : va_W} {a0 : Nat → Nat} {ls : Array Slot} {H : Heap} {locs : List Loc} {s0 : S_Mo} {x1 : Int32} {x2 : Int32} {x4 : Int32} {y0 : Int32} {y1 : Int32} {out : Int32 × S_Mo} (X : Cx p s m args meth c prog_11_method_9_code 5 ws_Mo_goOn R_Mo (some .boolean) D g) (hl : lv_has ls 5 [(0, .ref (a0 0)), (1, .int x1), (2, .int x2), (4, .int x4)]) (hI : Iw D A (w_Mo g a0 s0 ++ (rest)) H) (hS : va_S A s.heap H locs) (h : B_Mo_goOn_104  s0 x1 x2 x4 y0 y1 = some out) : W p l e (headSpec ws_Mo_goOn { frames := 3, cells := 0, slots := 0, locals := 79 }).room s m args below meth c H locs 0 0 (MQ below (QcI D A g out.1 (fun (_ : Unit) => w_Mo g a0 out.2 ++ (rest))) args s 0 0 A) (F0 m 104 ls [.int y0, .int y1]) := by
  have X1 := X
  obtain ⟨hx, hb, hml, hown, hts, hr, hlocks, hKK⟩ := X1
  have ht : ∀ w ∈ TB, w.before args s = true := fun w h => hts w (List.mem_cons_of_mem _ h)
  have hK := hKK.1
  unfold B_Mo_goOn_104 at h
  refine lv_icmp_ne (tgt := 129) hx hb d_Mo_goOn_104 (by decide) (fun hc => ?_) (fun hc => ?_)
  · have h := it_f h hc
    exact t_Mo_goOn_129 X (lv_sub hl [0, 1, 2, 3] rfl) hI hS h
  · have h := it_t h hc
    exact t_Mo_goOn_107 X (lv_sub hl [0] rfl) hI hS h
set_option maxRecDepth 100000 in
set_option maxHeartbeats 4000000 in
theorem t_Mo_goOn_101 {p : Program} {l : Launch} {e : Env} {s : State} {m : MethodId} {args : Array Value} {below : List Frame} {meth : Method} {c : Code} {D : va_G} {A : Nat → Prop} {g : Nat → ClassId} {rest : va_W} {a0 : Nat → Nat} {ls : Array Slot} {H : Heap} {locs : List Loc} {s0 : S_Mo} {x1 : Int32} {x2 : Int32} {x4 : Int32} {y0 : Int32} {out : Int32 × S_Mo} (X : Cx p s m args meth c prog_11_method_9_code 5 ws_Mo_goOn R_Mo (some .boolean) D g) (hl : lv_has ls 5 [(0, .ref (a0 0)), (1, .int x1), (2, .int x2), (4, .int x4)]) (hI : Iw D A (w_Mo g a0 s0 ++ (rest)) H) (hS : va_S A s.heap H locs) (h : B_Mo_goOn_101  s0 x1 x2 x4 y0 = some out) : W p l e (headSpec ws_Mo_goOn { frames := 3, cells := 0, slots := 0, locals := 79 }).room s m args below meth c H locs 0 0 (MQ below (QcI D A g out.1 (fun (_ : Unit) => w_Mo g a0 out.2 ++ (rest))) args s 0 0 A) (F0 m 101 ls [.int y0]) := by
  have X1 := X
  obtain ⟨hx, hb, hml, hown, hts, hr, hlocks, hKK⟩ := X1
  have ht : ∀ w ∈ TB, w.before args s = true := fun w h => hts w (List.mem_cons_of_mem _ h)
  have hK := hKK.1
  unfold B_Mo_goOn_101 at h
  refine lv_sipush (v := 252) hx hb d_Mo_goOn_101 (by decide) ?_
  exact t_Mo_goOn_104 X (lv_sub hl [0, 1, 2, 3] rfl) hI hS h
set_option maxRecDepth 100000 in
set_option maxHeartbeats 4000000 in
theorem t_Mo_goOn_95 {p : Program} {l : Launch} {e : Env} {s : State} {m : MethodId} {args : Array Value} {below : List Frame} {meth : Method} {c : Code} {D : va_G} {A : Nat → Prop} {g : Nat → ClassId} {rest : va_W} {a0 : Nat → Nat} {ls : Array Slot} {H : Heap} {locs : List Loc} {s0 : S_Mo} {x1 : Int32} {x2 : Int32} {x4 : Int32} {y0 : Int32} {out : Int32 × S_Mo} (X : Cx p s m args meth c prog_11_method_9_code 5 ws_Mo_goOn R_Mo (some .boolean) D g) (hl : lv_has ls 5 [(0, .ref (a0 0)), (1, .int x1), (2, .int x2), (4, .int x4)]) (hI : Iw D A (w_Mo g a0 s0 ++ (rest)) H) (hS : va_S A s.heap H locs) (h : B_Mo_goOn_95  s0 x1 x2 x4 y0 = some out) : W p l e (headSpec ws_Mo_goOn { frames := 3, cells := 0, slots := 0, locals := 79 }).room s m args below meth c H locs 0 0 (MQ below (QcI D A g out.1 (fun (_ : Unit) => w_Mo g a0 out.2 ++ (rest))) args s 0 0 A) (F0 m 95 ls [.int y0]) := by
  have X1 := X
  obtain ⟨hx, hb, hml, hown, hts, hr, hlocks, hKK⟩ := X1
  have ht : ∀ w ∈ TB, w.before args s = true := fun w h => hts w (List.mem_cons_of_mem _ h)
  have hK := hKK.1
  unfold B_Mo_goOn_95 at h
  refine lv_sipush (v := 253) hx hb d_Mo_goOn_95 (by decide) ?_
  refine lv_goto (tgt := 104) hx hb d_Mo_goOn_98 (by decide) ?_
  exact t_Mo_goOn_104 X (lv_sub hl [0, 1, 2, 3] rfl) hI hS h
set_option maxRecDepth 100000 in
set_option maxHeartbeats 4000000 in
theorem t_Mo_goOn_81 {p : Program} {l : Launch} {e : Env} {s : State} {m : MethodId} {args : Array Value} {below : List Frame} {meth : Method} {c : Code} {D : va_G} {A : Nat → Prop} {g : Nat → ClassId} {rest : va_W} {a0 : Nat → Nat} {ls : Array Slot} {H : Heap} {locs : List Loc} {s0 : S_Mo} {x1 : Int32} {x2 : Int32} {x4 : Int32} {out : Int32 × S_Mo} (X : Cx p s m args meth c prog_11_method_9_code 5 ws_Mo_goOn R_Mo (some .boolean) D g) (hl : lv_has ls 5 [(0, .ref (a0 0)), (1, .int x1), (2, .int x2), (4, .int x4)]) (hI : Iw D A (w_Mo g a0 s0 ++ (rest)) H) (hS : va_S A s.heap H locs) (h : B_Mo_goOn_81  s0 x1 x2 x4 = some out) : W p l e (headSpec ws_Mo_goOn { frames := 3, cells := 0, slots := 0, locals := 79 }).room s m args below meth c H locs 0 0 (MQ below (QcI D A g out.1 (fun (_ : Unit) => w_Mo g a0 out.2 ++ (rest))) args s 0 0 A) (F0 m 81 ls []) := by
  have X1 := X
  obtain ⟨hx, hb, hml, hown, hts, hr, hlocks, hKK⟩ := X1
  have ht : ∀ w ∈ TB, w.before args s = true := fun w h => hts w (List.mem_cons_of_mem _ h)
  have hK := hKK.1
  unfold B_Mo_goOn_81 at h
  refine lv_aload_n hx hb d_Mo_goOn_81 rfl (lv_at hl 0 rfl) ?_
  refine gt_Mo_source hx hb ht hown hK hI (ht _ m_820) d_Mo_goOn_82 ?_
  refine lv_aload_n hx hb d_Mo_goOn_85 rfl (lv_at hl 0 rfl) ?_
  refine gt_Mo_at hx hb ht hown hK hI (ht _ m_841) d_Mo_goOn_86 ?_
  by_cases hc1 : ((Mo_at s0) < 0 ∨ 240 ≤ (Mo_at s0).toNatClampNeg)
  · exact no_s (it_t h hc1)
  have h := it_f h hc1
  refine al_Mo_source hx hb hK hI hc1 d_Mo_goOn_89 ?_
  refine lv_iload hx hb d_Mo_goOn_90 (lv_at hl 3 rfl) ?_
  refine lv_if_eq (tgt := 101) hx hb d_Mo_goOn_92 (by decide) (fun hc => ?_) (fun hc => ?_)
  · have h := it_t h hc
    exact t_Mo_goOn_101 X (lv_sub hl [0, 1, 2, 3] rfl) hI hS h
  · have h := it_f h hc
    exact t_Mo_goOn_95 X (lv_sub hl [0, 1, 2, 3] rfl) hI hS h
set_option maxRecDepth 100000 in
set_option maxHeartbeats 4000000 in
theorem t_Mo_goOn_72 {p : Program} {l : Launch} {e : Env} {s : State} {m : MethodId} {args : Array Value} {below : List Frame} {meth : Method} {c : Code} {D : va_G} {A : Nat → Prop} {g : Nat → ClassId} {rest : va_W} {a0 : Nat → Nat} {ls : Array Slot} {H : Heap} {locs : List Loc} {s0 : S_Mo} {x1 : Int32} {x2 : Int32} {x3 : Int32} {x4 : Int32} {out : Int32 × S_Mo} (X : Cx p s m args meth c prog_11_method_9_code 5 ws_Mo_goOn R_Mo (some .boolean) D g) (hl : lv_has ls 5 [(0, .ref (a0 0)), (1, .int x1), (2, .int x2), (3, .int x3), (4, .int x4)]) (hI : Iw D A (w_Mo g a0 s0 ++ (rest)) H) (hS : va_S A s.heap H locs) (h : B_Mo_goOn_72  s0 x1 x2 x3 x4 = some out) : W p l e (headSpec ws_Mo_goOn { frames := 3, cells := 0, slots := 0, locals := 79 }).room s m args below meth c H locs 0 0 (MQ below (QcI D A g out.1 (fun (_ : Unit) => w_Mo g a0 out.2 ++ (rest))) args s 0 0 A) (F0 m 72 ls []) := by
  have X1 := X
  obtain ⟨hx, hb, hml, hown, hts, hr, hlocks, hKK⟩ := X1
  have ht : ∀ w ∈ TB, w.before args s = true := fun w h => hts w (List.mem_cons_of_mem _ h)
  have hK := hKK.1
  unfold B_Mo_goOn_72 at h
  refine lv_aload_n hx hb d_Mo_goOn_72 rfl (lv_at hl 0 rfl) ?_
  refine gt_Mo_loose hx hb ht hown hK hI (ht _ m_840) d_Mo_goOn_73 ?_
  refine lv_iload_n hx hb d_Mo_goOn_76 rfl (lv_at hl 3 rfl) ?_
  by_cases hc1 : (x3 < 0 ∨ 6 ≤ x3.toNatClampNeg)
  · exact no_s (it_t h hc1)
  have h := it_f h hc1
  refine al_Mo_loose hx hb hK hI hc1 d_Mo_goOn_77 ?_
  refine lv_if_eq (tgt := 129) hx hb d_Mo_goOn_78 (by decide) (fun hc => ?_) (fun hc => ?_)
  · have h := it_t h hc
    exact t_Mo_goOn_129 X (lv_sub hl [0, 1, 2, 4] rfl) hI hS h
  · have h := it_f h hc
    exact t_Mo_goOn_81 X (lv_sub hl [0, 1, 2, 4] rfl) hI hS h
set_option maxRecDepth 100000 in
set_option maxHeartbeats 4000000 in
theorem t_Mo_goOn_60 {p : Program} {l : Launch} {e : Env} {s : State} {m : MethodId} {args : Array Value} {below : List Frame} {meth : Method} {c : Code} {D : va_G} {A : Nat → Prop} {g : Nat → ClassId} {rest : va_W} {a0 : Nat → Nat} {ls : Array Slot} {H : Heap} {locs : List Loc} {s0 : S_Mo} {out : Int32 × S_Mo} (X : Cx p s m args meth c prog_11_method_9_code 5 ws_Mo_goOn R_Mo (some .boolean) D g) (hl : lv_has ls 5 [(0, .ref (a0 0))]) (hI : Iw D A (w_Mo g a0 s0 ++ (rest)) H) (hS : va_S A s.heap H locs) (h : B_Mo_goOn_60  s0 = some out) : W p l e (headSpec ws_Mo_goOn { frames := 3, cells := 0, slots := 0, locals := 79 }).room s m args below meth c H locs 0 0 (MQ below (QcI D A g out.1 (fun (_ : Unit) => w_Mo g a0 out.2 ++ (rest))) args s 0 0 A) (F0 m 60 ls []) := by
  have X1 := X
  obtain ⟨hx, hb, hml, hown, hts, hr, hlocks, hKK⟩ := X1
  have ht : ∀ w ∈ TB, w.before args s = true := fun w h => hts w (List.mem_cons_of_mem _ h)
  have hK := hKK.1
  unfold B_Mo_goOn_60 at h
  refine lv_aload_n hx hb d_Mo_goOn_60 rfl (lv_at hl 0 rfl) ?_
  refine lv_dup hx hb d_Mo_goOn_61 rfl ?_
  refine gt_Mo_depth hx hb ht hown hK hI (ht _ m_837) d_Mo_goOn_62 ?_
  refine lv_iconst (v := 1) hx hb d_Mo_goOn_65 (by decide) ?_
  refine lv_isub hx hb d_Mo_goOn_66 ?_
  refine pt_Mo_depth hx hb ht hown hK hI hS (ht _ m_837) d_Mo_goOn_67 (fun H locs hI hS => ?_)
  refine lv_iconst (v := 1) hx hb d_Mo_goOn_70 (by decide) ?_
  have h9 := Option.some.inj h
  subst h9
  exact W.zret (v := (1 : Int32)) hx hb hr rfl (fun t ht hW => ⟨⟨_, (), rfl, rfl, ⟨by rw [ht]; exact hI, hKK.moved hW⟩⟩, hS.F ht⟩) hS.2.2 d_Mo_goOn_71
set_option maxRecDepth 100000 in
set_option maxHeartbeats 4000000 in
theorem t_Mo_goOn_50 {p : Program} {l : Launch} {e : Env} {s : State} {m : MethodId} {args : Array Value} {below : List Frame} {meth : Method} {c : Code} {D : va_G} {A : Nat → Prop} {g : Nat → ClassId} {rest : va_W} {a0 : Nat → Nat} {ls : Array Slot} {H : Heap} {locs : List Loc} {s0 : S_Mo} {out : Int32 × S_Mo} (X : Cx p s m args meth c prog_11_method_9_code 5 ws_Mo_goOn R_Mo (some .boolean) D g) (hl : lv_has ls 5 [(0, .ref (a0 0))]) (hI : Iw D A (w_Mo g a0 s0 ++ (rest)) H) (hS : va_S A s.heap H locs) (h : B_Mo_goOn_50  s0 = some out) : W p l e (headSpec ws_Mo_goOn { frames := 3, cells := 0, slots := 0, locals := 79 }).room s m args below meth c H locs 0 0 (MQ below (QcI D A g out.1 (fun (_ : Unit) => w_Mo g a0 out.2 ++ (rest))) args s 0 0 A) (F0 m 50 ls []) := by
  have X1 := X
  obtain ⟨hx, hb, hml, hown, hts, hr, hlocks, hKK⟩ := X1
  have ht : ∀ w ∈ TB, w.before args s = true := fun w h => hts w (List.mem_cons_of_mem _ h)
  have hK := hKK.1
  unfold B_Mo_goOn_50 at h
  refine lv_aload_n hx hb d_Mo_goOn_50 rfl (lv_at hl 0 rfl) ?_
  refine lv_iconst (v := 1) hx hb d_Mo_goOn_51 (by decide) ?_
  refine lv_aload_n hx hb d_Mo_goOn_52 rfl (lv_at hl 0 rfl) ?_
  refine gt_Mo_at hx hb ht hown hK hI (ht _ m_841) d_Mo_goOn_53 ?_
  obtain ⟨o1, ho2, h⟩ := bd_s h
  refine cl_i (W1 := fun (_ : Unit) => w_Mo g a0 o1.2 ++ (rest)) (va_runV (As := [.int (1 : Int32), .int (Mo_at s0)]) (rest := []) ⟨hx, hb, hml, hown, ht⟩ (c_Mo_wrong (l := l) (D := D) (A := A) (g := g) (rest := rest) (a0 := a0) ho2) (cwV 2 ht (gd_V m_1007 m_1009 mp_42 m_11 m_1010) rfl rfl rfl (by decide +kernel) ⟨(Nat.le_of_ble_eq_true rfl), (Nat.le_of_ble_eq_true rfl)⟩) (prV (ci := 9) (q0 := 0) hKK hI (List.Perm.refl _) rfl rfl rfl) rfl rfl hl.1 rfl (lv_room (Nat.le_of_ble_eq_true rfl)) d_Mo_goOn_56 ⟨(Nat.le_of_ble_eq_true rfl), (Nat.le_of_ble_eq_true rfl)⟩) hS (fun _ => ((List.Perm.refl _)).symm) (fun _ H locs hI hS => ?_)
  have hI : Iw D A (w_Mo g a0 o1.2 ++ (rest)) H := hI
  have hc3 : o1.1 = 0 ∨ o1.1 = 1 := by
    by_cases z : o1.1 = 0 ∨ o1.1 = 1
    · exact z
    · exact no_s (it_f h z)
  have h := it_t h hc3
  have h9 := Option.some.inj h
  subst h9
  exact W.zret (v := o1.1) hx hb hr (by rcases hc3 with z | z <;> rw [z] <;> rfl) (fun t ht hW => ⟨⟨_, (), rfl, rfl, ⟨by rw [ht]; exact hI, hKK.moved hW⟩⟩, hS.F ht⟩) hS.2.2 d_Mo_goOn_59
set_option maxRecDepth 100000 in
set_option maxHeartbeats 4000000 in
theorem t_Mo_goOn_41 {p : Program} {l : Launch} {e : Env} {s : State} {m : MethodId} {args : Array Value} {below : List Frame} {meth : Method} {c : Code} {D : va_G} {A : Nat → Prop} {g : Nat → ClassId} {rest : va_W} {a0 : Nat → Nat} {ls : Array Slot} {H : Heap} {locs : List Loc} {s0 : S_Mo} {x3 : Int32} {out : Int32 × S_Mo} (X : Cx p s m args meth c prog_11_method_9_code 5 ws_Mo_goOn R_Mo (some .boolean) D g) (hl : lv_has ls 5 [(0, .ref (a0 0)), (3, .int x3)]) (hI : Iw D A (w_Mo g a0 s0 ++ (rest)) H) (hS : va_S A s.heap H locs) (h : B_Mo_goOn_41  s0 x3 = some out) : W p l e (headSpec ws_Mo_goOn { frames := 3, cells := 0, slots := 0, locals := 79 }).room s m args below meth c H locs 0 0 (MQ below (QcI D A g out.1 (fun (_ : Unit) => w_Mo g a0 out.2 ++ (rest))) args s 0 0 A) (F0 m 41 ls []) := by
  have X1 := X
  obtain ⟨hx, hb, hml, hown, hts, hr, hlocks, hKK⟩ := X1
  have ht : ∀ w ∈ TB, w.before args s = true := fun w h => hts w (List.mem_cons_of_mem _ h)
  have hK := hKK.1
  unfold B_Mo_goOn_41 at h
  refine lv_aload_n hx hb d_Mo_goOn_41 rfl (lv_at hl 0 rfl) ?_
  refine gt_Mo_loose hx hb ht hown hK hI (ht _ m_840) d_Mo_goOn_42 ?_
  refine lv_iload_n hx hb d_Mo_goOn_45 rfl (lv_at hl 1 rfl) ?_
  by_cases hc1 : (x3 < 0 ∨ 6 ≤ x3.toNatClampNeg)
  · exact no_s (it_t h hc1)
  have h := it_f h hc1
  refine al_Mo_loose hx hb hK hI hc1 d_Mo_goOn_46 ?_
  refine lv_if_eq (tgt := 60) hx hb d_Mo_goOn_47 (by decide) (fun hc => ?_) (fun hc => ?_)
  · have h := it_t h hc
    exact t_Mo_goOn_60 X (lv_sub hl [0] rfl) hI hS h
  · have h := it_f h hc
    exact t_Mo_goOn_50 X (lv_sub hl [0] rfl) hI hS h
set_option maxRecDepth 100000 in
set_option maxHeartbeats 4000000 in
theorem t_Mo_goOn_26 {p : Program} {l : Launch} {e : Env} {s : State} {m : MethodId} {args : Array Value} {below : List Frame} {meth : Method} {c : Code} {D : va_G} {A : Nat → Prop} {g : Nat → ClassId} {rest : va_W} {a0 : Nat → Nat} {ls : Array Slot} {H : Heap} {locs : List Loc} {s0 : S_Mo} {x1 : Int32} {x2 : Int32} {x3 : Int32} {y0 : Int32} {out : Int32 × S_Mo} (X : Cx p s m args meth c prog_11_method_9_code 5 ws_Mo_goOn R_Mo (some .boolean) D g) (hl : lv_has ls 5 [(0, .ref (a0 0)), (1, .int x1), (2, .int x2), (3, .int x3)]) (hI : Iw D A (w_Mo g a0 s0 ++ (rest)) H) (hS : va_S A s.heap H locs) (h : B_Mo_goOn_26  s0 x1 x2 x3 y0 = some out) : W p l e (headSpec ws_Mo_goOn { frames := 3, cells := 0, slots := 0, locals := 79 }).room s m args below meth c H locs 0 0 (MQ below (QcI D A g out.1 (fun (_ : Unit) => w_Mo g a0 out.2 ++ (rest))) args s 0 0 A) (F0 m 26 ls [.int y0]) := by
  have X1 := X
  obtain ⟨hx, hb, hml, hown, hts, hr, hlocks, hKK⟩ := X1
  have ht : ∀ w ∈ TB, w.before args s = true := fun w h => hts w (List.mem_cons_of_mem _ h)
  have hK := hKK.1
  unfold B_Mo_goOn_26 at h
  refine lv_istore hx hb d_Mo_goOn_26 hl (Nat.le_of_ble_eq_true rfl) rfl (fun ls hl => ?_)
  have hl : lv_has ls 5 [(4, .int y0), (0, .ref (a0 0)), (1, .int x1), (2, .int x2), (3, .int x3)] := hl
  refine lv_aload_n hx hb d_Mo_goOn_28 rfl (lv_at hl 1 rfl) ?_
  refine gt_Mo_at hx hb ht hown hK hI (ht _ m_841) d_Mo_goOn_29 ?_
  refine lv_aload_n hx hb d_Mo_goOn_32 rfl (lv_at hl 1 rfl) ?_
  refine gt_Mo_end hx hb ht hown hK hI (ht _ m_839) d_Mo_goOn_33 ?_
  refine lv_iload_n hx hb d_Mo_goOn_36 rfl (lv_at hl 4 rfl) ?_
  by_cases hc1 : (x3 < 0 ∨ 6 ≤ x3.toNatClampNeg)
  · exact no_s (it_t h hc1)
  have h := it_f h hc1
  refine al_Mo_end hx hb hK hI hc1 d_Mo_goOn_37 ?_
  refine lv_icmp_ne (tgt := 72) hx hb d_Mo_goOn_38 (by decide) (fun hc => ?_) (fun hc => ?_)
  · have h := it_f h hc
    exact t_Mo_goOn_72 X (lv_sub hl [1, 2, 3, 4, 0] rfl) hI hS h
  · have h := it_t h hc
    exact t_Mo_goOn_41 X (lv_sub hl [1, 4] rfl) hI hS h
set_option maxRecDepth 100000 in
set_option maxHeartbeats 4000000 in
theorem t_Mo_goOn_25 {p : Program} {l : Launch} {e : Env} {s : State} {m : MethodId} {args : Array Value} {below : List Frame} {meth : Method} {c : Code} {D : va_G} {A : Nat → Prop} {g : Nat → ClassId} {rest : va_W} {a0 : Nat → Nat} {ls : Array Slot} {H : Heap} {locs : List Loc} {s0 : S_Mo} {x1 : Int32} {x2 : Int32} {x3 : Int32} {out : Int32 × S_Mo} (X : Cx p s m args meth c prog_11_method_9_code 5 ws_Mo_goOn R_Mo (some .boolean) D g) (hl : lv_has ls 5 [(0, .ref (a0 0)), (1, .int x1), (2, .int x2), (3, .int x3)]) (hI : Iw D A (w_Mo g a0 s0 ++ (rest)) H) (hS : va_S A s.heap H locs) (h : B_Mo_goOn_25  s0 x1 x2 x3 = some out) : W p l e (headSpec ws_Mo_goOn { frames := 3, cells := 0, slots := 0, locals := 79 }).room s m args below meth c H locs 0 0 (MQ below (QcI D A g out.1 (fun (_ : Unit) => w_Mo g a0 out.2 ++ (rest))) args s 0 0 A) (F0 m 25 ls []) := by
  have X1 := X
  obtain ⟨hx, hb, hml, hown, hts, hr, hlocks, hKK⟩ := X1
  have ht : ∀ w ∈ TB, w.before args s = true := fun w h => hts w (List.mem_cons_of_mem _ h)
  have hK := hKK.1
  unfold B_Mo_goOn_25 at h
  refine lv_iconst (v := 0) hx hb d_Mo_goOn_25 (by decide) ?_
  exact t_Mo_goOn_26 X (lv_sub hl [0, 1, 2, 3] rfl) hI hS h
set_option maxRecDepth 100000 in
set_option maxHeartbeats 4000000 in
theorem t_Mo_goOn_21 {p : Program} {l : Launch} {e : Env} {s : State} {m : MethodId} {args : Array Value} {below : List Frame} {meth : Method} {c : Code} {D : va_G} {A : Nat → Prop} {g : Nat → ClassId} {rest : va_W} {a0 : Nat → Nat} {ls : Array Slot} {H : Heap} {locs : List Loc} {s0 : S_Mo} {x1 : Int32} {x2 : Int32} {x3 : Int32} {out : Int32 × S_Mo} (X : Cx p s m args meth c prog_11_method_9_code 5 ws_Mo_goOn R_Mo (some .boolean) D g) (hl : lv_has ls 5 [(0, .ref (a0 0)), (1, .int x1), (2, .int x2), (3, .int x3)]) (hI : Iw D A (w_Mo g a0 s0 ++ (rest)) H) (hS : va_S A s.heap H locs) (h : B_Mo_goOn_21  s0 x1 x2 x3 = some out) : W p l e (headSpec ws_Mo_goOn { frames := 3, cells := 0, slots := 0, locals := 79 }).room s m args below meth c H locs 0 0 (MQ below (QcI D A g out.1 (fun (_ : Unit) => w_Mo g a0 out.2 ++ (rest))) args s 0 0 A) (F0 m 21 ls []) := by
  have X1 := X
  obtain ⟨hx, hb, hml, hown, hts, hr, hlocks, hKK⟩ := X1
  have ht : ∀ w ∈ TB, w.before args s = true := fun w h => hts w (List.mem_cons_of_mem _ h)
  have hK := hKK.1
  unfold B_Mo_goOn_21 at h
  refine lv_iconst (v := 1) hx hb d_Mo_goOn_21 (by decide) ?_
  refine lv_goto (tgt := 26) hx hb d_Mo_goOn_22 (by decide) ?_
  exact t_Mo_goOn_26 X (lv_sub hl [0, 1, 2, 3] rfl) hI hS h
set_option maxRecDepth 100000 in
set_option maxHeartbeats 4000000 in
theorem t_Mo_goOn_0 {p : Program} {l : Launch} {e : Env} {s : State} {m : MethodId} {args : Array Value} {below : List Frame} {meth : Method} {c : Code} {D : va_G} {A : Nat → Prop} {g : Nat → ClassId} {rest : va_W} {a0 : Nat → Nat} {ls : Array Slot} {H : Heap} {locs : List Loc} {s0 : S_Mo} {x1 : Int32} {x2 : Int32} {out : Int32 × S_Mo} (X : Cx p s m args meth c prog_11_method_9_code 5 ws_Mo_goOn R_Mo (some .boolean) D g) (hl : lv_has ls 5 [(0, .ref (a0 0)), (1, .int x1), (2, .int x2)]) (hI : Iw D A (w_Mo g a0 s0 ++ (rest)) H) (hS : va_S A s.heap H locs) (h : B_Mo_goOn_0  s0 x1 x2 = some out) : W p l e (headSpec ws_Mo_goOn { frames := 3, cells := 0, slots := 0, locals := 79 }).room s m args below meth c H locs 0 0 (MQ below (QcI D A g out.1 (fun (_ : Unit) => w_Mo g a0 out.2 ++ (rest))) args s 0 0 A) (F0 m 0 ls []) := by
  have X1 := X
  obtain ⟨hx, hb, hml, hown, hts, hr, hlocks, hKK⟩ := X1
  have ht : ∀ w ∈ TB, w.before args s = true := fun w h => hts w (List.mem_cons_of_mem _ h)
  have hK := hKK.1
  unfold B_Mo_goOn_0 at h
  refine lv_aload_n hx hb d_Mo_goOn_0 rfl (lv_at hl 0 rfl) ?_
  refine gt_Mo_depth hx hb ht hown hK hI (ht _ m_837) d_Mo_goOn_1 ?_
  refine lv_iconst (v := 1) hx hb d_Mo_goOn_4 (by decide) ?_
  refine lv_isub hx hb d_Mo_goOn_5 ?_
  refine lv_istore_n hx hb d_Mo_goOn_6 rfl hl (Nat.le_of_ble_eq_true rfl) rfl (fun ls hl => ?_)
  have hl : lv_has ls 5 [(3, .int ((Mo_depth s0) - (1 : Int32))), (0, .ref (a0 0)), (1, .int x1), (2, .int x2)] := hl
  refine lv_aload_n hx hb d_Mo_goOn_7 rfl (lv_at hl 1 rfl) ?_
  refine gt_Mo_kind hx hb ht hown hK hI (ht _ m_823) d_Mo_goOn_8 ?_
  refine lv_aload_n hx hb d_Mo_goOn_11 rfl (lv_at hl 1 rfl) ?_
  refine gt_Mo_node hx hb ht hown hK hI (ht _ m_838) d_Mo_goOn_12 ?_
  refine lv_iload_n hx hb d_Mo_goOn_15 rfl (lv_at hl 0 rfl) ?_
  by_cases hc1 : (((Mo_depth s0) - (1 : Int32)) < 0 ∨ 6 ≤ ((Mo_depth s0) - (1 : Int32)).toNatClampNeg)
  · exact no_s (it_t h hc1)
  have h := it_f h hc1
  refine al_Mo_node hx hb hK hI hc1 d_Mo_goOn_16 ?_
  by_cases hc2 : (((Mo_node s0) ((Mo_depth s0) - (1 : Int32)).toNatClampNeg) < 0 ∨ 260 ≤ ((Mo_node s0) ((Mo_depth s0) - (1 : Int32)).toNatClampNeg).toNatClampNeg)
  · exact no_s (it_t h hc2)
  have h := it_f h hc2
  refine al_Mo_kind hx hb hK hI hc2 d_Mo_goOn_17 ?_
  refine lv_if_ne (tgt := 25) hx hb d_Mo_goOn_18 (by decide) (fun hc => ?_) (fun hc => ?_)
  · have h := it_f h hc
    exact t_Mo_goOn_25 X (lv_sub hl [1, 2, 3, 0] rfl) hI hS h
  · have h := it_t h hc
    exact t_Mo_goOn_21 X (lv_sub hl [1, 2, 3, 0] rfl) hI hS h
set_option maxRecDepth 100000 in
set_option maxHeartbeats 4000000 in
theorem c_Mo_goOn {l : Launch} {D : va_G} {A : Nat → Prop} {g : Nat → ClassId} {rest : va_W} {a0 : Nat → Nat} {s0 : S_Mo} {x1 : Int32} {x2 : Int32} {out : Int32 × S_Mo} (h : F_Mo_goOn s0 x1 x2 = some out) : Met l y_Mo_goOn ws_Mo_goOn { frames := 3, cells := 0, slots := 0, locals := 79 } (PcW D A g [.ref (a0 0), .int x1, .int x2] (w_Mo g a0 s0 ++ (rest))) (QcI D A g out.1 (fun (_ : Unit) => w_Mo g a0 out.2 ++ (rest))) 0 0 A := by
  refine Met.ofW (cc := prog_11_method_9_code) (maxL := 5) (ret := (some .boolean)) (by decide) rfl ?_
  intro p e s m args below meth c s₁ B hml hv
  obtain ⟨rfl, hI, hK⟩ := hv
  have hl := lv_entry [.ref (a0 0), .int x1, .int x2] (n := 5) (Nat.le_of_ble_eq_true rfl)
  rw [lg_entry_eq]
  generalize (lg_sl [.ref (a0 0), .int x1, .int x2] ++ List.replicate (5 - (lg_sl [.ref (a0 0), .int x1, .int x2]).length) Slot.unset).toArray = ls at hl ⊢
  have hl : lv_has ls 5 [(0, .ref (a0 0)), (1, .int x1), (2, .int x2)] := hl
  exact t_Mo_goOn_0 ⟨B.exec, B.bytes, hml, findClass_of_methodNamed B.named, atoms_spec (ws := ws_Mo_goOn) B.pre, B.returns, B.notSynchronized, hK⟩ (lv_sub hl [0, 1, 2] rfl) hI va_S.rf h
def ws_Mo_read : List Cond := .code y_Mo_read prog_11_method_8_code 6 (some .boolean) :: TB
def B_Mo_read_76 (s0 : S_Mo) (x5 : Int32) : Option (Int32 × S_Mo) :=
  (if x5 = 0 ∨ x5 = 1 then some (x5, s0) else none)
def B_Mo_read_65 (k53 : S_Mo × Int32 × Int32 × Int32 → Option (Int32 × S_Mo)) (s0 : S_Mo) (x1 : Int32) (x3 : Int32) : Option (Int32 × S_Mo) :=
  ((F_Mo_goOn s0 x1 x3).bind fun o1 => (k53 (o1.2, x1, x3, o1.1)))
def B_Mo_read_60 (k53 : S_Mo × Int32 × Int32 × Int32 → Option (Int32 × S_Mo)) (s0 : S_Mo) (x1 : Int32) (x3 : Int32) (x5 : Int32) : Option (Int32 × S_Mo) :=
  (if x5 = 0 then (B_Mo_read_76 s0 x5) else (B_Mo_read_65 k53 s0 x1 x3))
def B_Mo_read_53 (k53 : S_Mo × Int32 × Int32 × Int32 → Option (Int32 × S_Mo)) (s0 : S_Mo) (x1 : Int32) (x3 : Int32) (x5 : Int32) : Option (Int32 × S_Mo) :=
  (if (Mo_depth s0) ≤ 0 then (B_Mo_read_76 s0 x5) else (B_Mo_read_60 k53 s0 x1 x3 x5))
def L_Mo_read_53 (v : S_Mo × Int32 × Int32 × Int32) : Option (Int32 × S_Mo) := lp (fun k53 v => B_Mo_read_53  k53  v.1 v.2.1 v.2.2.1 v.2.2.2) FU v
def B_Mo_read_0 (s0 : S_Mo) (x1 : Int32) (x2 : Int32) (x3 : Int32) : Option (Int32 × S_Mo) :=
  (if (x1 < 0 ∨ 2 ≤ x1.toNatClampNeg) then none else (if (x1 < 0 ∨ 2 ≤ x1.toNatClampNeg) then none else ((F_Mo_add (Mo_set_at (Mo_set_depth (Mo_set_fault (Mo_set_held (Mo_set_count s0 (upd (Mo_count s0) x1.toNatClampNeg (0 : Int32))) (upd (Mo_held (Mo_set_count s0 (upd (Mo_count s0) x1.toNatClampNeg (0 : Int32)))) x1.toNatClampNeg ((240 : Int32) * x1))) (0 : Int32)) (0 : Int32)) (0 : Int32)) x1 (0 : Int32) ((-1) : Int32)).bind fun o3 => ((F_Mo_push o3.2 o3.1 x2 (0 : Int32)).bind fun o5 => (L_Mo_read_53 (o5, x1, x3, (1 : Int32)))))))
def F_Mo_read (s0 : S_Mo) (x1 : Int32) (x2 : Int32) (x3 : Int32) : Option (Int32 × S_Mo) := B_Mo_read_0 s0 x1 x2 x3
set_option maxRecDepth 100000 in
set_option maxHeartbeats 4000000 in
theorem t_Mo_read_76 {p : Program} {l : Launch} {e : Env} {s : State} {m : MethodId} {args : Array Value} {below : List Frame} {meth : Method} {c : Code} {D : va_G} {A : Nat → Prop} {g : Nat → ClassId} {rest : va_W} {a0 : Nat → Nat} {ls : Array Slot} {H : Heap} {locs : List Loc} {s0 : S_Mo} {x5 : Int32} {out : Int32 × S_Mo} (X : Cx p s m args meth c prog_11_method_8_code 6 ws_Mo_read R_Mo (some .boolean) D g) (hl : lv_has ls 6 [(5, .int x5)]) (hI : Iw D A (w_Mo g a0 s0 ++ (rest)) H) (hS : va_S A s.heap H locs) (h : B_Mo_read_76  s0 x5 = some out) : W p l e (headSpec ws_Mo_read { frames := 4, cells := 0, slots := 0, locals := 103 }).room s m args below meth c H locs 0 0 (MQ below (QcI D A g out.1 (fun (_ : Unit) => w_Mo g a0 out.2 ++ (rest))) args s 0 0 A) (F0 m 76 ls []) := by
  have X1 := X
  obtain ⟨hx, hb, hml, hown, hts, hr, hlocks, hKK⟩ := X1
  have ht : ∀ w ∈ TB, w.before args s = true := fun w h => hts w (List.mem_cons_of_mem _ h)
  have hK := hKK.1
  unfold B_Mo_read_76 at h
  refine lv_iload hx hb d_Mo_read_76 (lv_at hl 0 rfl) ?_
  have hc1 : x5 = 0 ∨ x5 = 1 := by
    by_cases z : x5 = 0 ∨ x5 = 1
    · exact z
    · exact no_s (it_f h z)
  have h := it_t h hc1
  have h9 := Option.some.inj h
  subst h9
  exact W.zret (v := x5) hx hb hr (by rcases hc1 with z | z <;> rw [z] <;> rfl) (fun t ht hW => ⟨⟨_, (), rfl, rfl, ⟨by rw [ht]; exact hI, hKK.moved hW⟩⟩, hS.F ht⟩) hS.2.2 d_Mo_read_78
set_option maxRecDepth 100000 in
set_option maxHeartbeats 4000000 in
theorem t_Mo_read_65 {p : Program} {l : Launch} {e : Env} {s : State} {m : MethodId} {args : Array Value} {below : List Frame} {meth : Method} {c : Code} {D : va_G} {A : Nat → Prop} {g : Nat → ClassId} {rest : va_W} {a0 : Nat → Nat} {ls : Array Slot} {H : Heap} {locs : List Loc} {k53 : S_Mo × Int32 × Int32 × Int32 → Option (Int32 × S_Mo)} {s0 : S_Mo} {x1 : Int32} {x3 : Int32} {out : Int32 × S_Mo} (X : Cx p s m args meth c prog_11_method_8_code 6 ws_Mo_read R_Mo (some .boolean) D g) (hk53 : ∀ (v : S_Mo × Int32 × Int32 × Int32) (ls : Array Slot) (H : Heap) (locs : List Loc), lv_has ls 6 [(0, .ref (a0 0)), (1, .int v.2.1), (3, .int v.2.2.1), (5, .int v.2.2.2)] → Iw D A (w_Mo g a0 v.1 ++ (rest)) H → va_S A s.heap H locs → k53 v = some out → W p l e (headSpec ws_Mo_read { frames := 4, cells := 0, slots := 0, locals := 103 }).room s m args below meth c H locs 0 0 (MQ below (QcI D A g out.1 (fun (_ : Unit) => w_Mo g a0 out.2 ++ (rest))) args s 0 0 A) (F0 m 53 ls [])) (hl : lv_has ls 6 [(0, .ref (a0 0)), (1, .int x1), (3, .int x3)]) (hI : Iw D A (w_Mo g a0 s0 ++ (rest)) H) (hS : va_S A s.heap H locs) (h : B_Mo_read_65 k53 s0 x1 x3 = some out) : W p l e (headSpec ws_Mo_read { frames := 4, cells := 0, slots := 0, locals := 103 }).room s m args below meth c H locs 0 0 (MQ below (QcI D A g out.1 (fun (_ : Unit) => w_Mo g a0 out.2 ++ (rest))) args s 0 0 A) (F0 m 65 ls []) := by
  have X1 := X
  obtain ⟨hx, hb, hml, hown, hts, hr, hlocks, hKK⟩ := X1
  have ht : ∀ w ∈ TB, w.before args s = true := fun w h => hts w (List.mem_cons_of_mem _ h)
  have hK := hKK.1
  unfold B_Mo_read_65 at h
  refine lv_aload_n hx hb d_Mo_read_65 rfl (lv_at hl 0 rfl) ?_
  refine lv_iload_n hx hb d_Mo_read_66 rfl (lv_at hl 1 rfl) ?_
  refine lv_iload_n hx hb d_Mo_read_67 rfl (lv_at hl 2 rfl) ?_
  obtain ⟨o1, ho2, h⟩ := bd_s h
  refine cl_i (W1 := fun (_ : Unit) => w_Mo g a0 o1.2 ++ (rest)) (va_runV (As := [.int x1, .int x3]) (rest := []) ⟨hx, hb, hml, hown, ht⟩ (c_Mo_goOn (l := l) (D := D) (A := A) (g := g) (rest := rest) (a0 := a0) ho2) (cwV 2 ht (gd_V m_1003 m_1005 mp_41 m_11 m_1006) rfl rfl rfl (by decide +kernel) ⟨(Nat.le_of_ble_eq_true rfl), (Nat.le_of_ble_eq_true rfl)⟩) (prV (ci := 9) (q0 := 0) hKK hI (List.Perm.refl _) rfl rfl rfl) rfl rfl hl.1 rfl (lv_room (Nat.le_of_ble_eq_true rfl)) d_Mo_read_68 ⟨(Nat.le_of_ble_eq_true rfl), (Nat.le_of_ble_eq_true rfl)⟩) hS (fun _ => ((List.Perm.refl _)).symm) (fun _ H locs hI hS => ?_)
  have hI : Iw D A (w_Mo g a0 o1.2 ++ (rest)) H := hI
  refine lv_istore hx hb d_Mo_read_71 hl (Nat.le_of_ble_eq_true rfl) rfl (fun ls hl => ?_)
  have hl : lv_has ls 6 [(5, .int o1.1), (0, .ref (a0 0)), (1, .int x1), (3, .int x3)] := hl
  refine lv_goto (tgt := 53) hx hb d_Mo_read_73 (by decide) ?_
  exact hk53 (o1.2, x1, x3, o1.1) _ _ _ (lv_sub hl [1, 2, 3, 0] rfl) hI hS h
set_option maxRecDepth 100000 in
set_option maxHeartbeats 4000000 in
theorem t_Mo_read_60 {p : Program} {l : Launch} {e : Env} {s : State} {m : MethodId} {args : Array Value} {below : List Frame} {meth : Method} {c : Code} {D : va_G} {A : Nat → Prop} {g : Nat → ClassId} {rest : va_W} {a0 : Nat → Nat} {ls : Array Slot} {H : Heap} {locs : List Loc} {k53 : S_Mo × Int32 × Int32 × Int32 → Option (Int32 × S_Mo)} {s0 : S_Mo} {x1 : Int32} {x3 : Int32} {x5 : Int32} {out : Int32 × S_Mo} (X : Cx p s m args meth c prog_11_method_8_code 6 ws_Mo_read R_Mo (some .boolean) D g) (hk53 : ∀ (v : S_Mo × Int32 × Int32 × Int32) (ls : Array Slot) (H : Heap) (locs : List Loc), lv_has ls 6 [(0, .ref (a0 0)), (1, .int v.2.1), (3, .int v.2.2.1), (5, .int v.2.2.2)] → Iw D A (w_Mo g a0 v.1 ++ (rest)) H → va_S A s.heap H locs → k53 v = some out → W p l e (headSpec ws_Mo_read { frames := 4, cells := 0, slots := 0, locals := 103 }).room s m args below meth c H locs 0 0 (MQ below (QcI D A g out.1 (fun (_ : Unit) => w_Mo g a0 out.2 ++ (rest))) args s 0 0 A) (F0 m 53 ls [])) (hl : lv_has ls 6 [(0, .ref (a0 0)), (1, .int x1), (3, .int x3), (5, .int x5)]) (hI : Iw D A (w_Mo g a0 s0 ++ (rest)) H) (hS : va_S A s.heap H locs) (h : B_Mo_read_60 k53 s0 x1 x3 x5 = some out) : W p l e (headSpec ws_Mo_read { frames := 4, cells := 0, slots := 0, locals := 103 }).room s m args below meth c H locs 0 0 (MQ below (QcI D A g out.1 (fun (_ : Unit) => w_Mo g a0 out.2 ++ (rest))) args s 0 0 A) (F0 m 60 ls []) := by
  have X1 := X
  obtain ⟨hx, hb, hml, hown, hts, hr, hlocks, hKK⟩ := X1
  have ht : ∀ w ∈ TB, w.before args s = true := fun w h => hts w (List.mem_cons_of_mem _ h)
  have hK := hKK.1
  unfold B_Mo_read_60 at h
  refine lv_iload hx hb d_Mo_read_60 (lv_at hl 3 rfl) ?_
  refine lv_if_eq (tgt := 76) hx hb d_Mo_read_62 (by decide) (fun hc => ?_) (fun hc => ?_)
  · have h := it_t h hc
    exact t_Mo_read_76 X (lv_sub hl [3] rfl) hI hS h
  · have h := it_f h hc
    exact t_Mo_read_65 X hk53 (lv_sub hl [0, 1, 2] rfl) hI hS h
set_option maxRecDepth 100000 in
set_option maxHeartbeats 4000000 in
theorem t_Mo_read_53 {p : Program} {l : Launch} {e : Env} {s : State} {m : MethodId} {args : Array Value} {below : List Frame} {meth : Method} {c : Code} {D : va_G} {A : Nat → Prop} {g : Nat → ClassId} {rest : va_W} {a0 : Nat → Nat} {ls : Array Slot} {H : Heap} {locs : List Loc} {k53 : S_Mo × Int32 × Int32 × Int32 → Option (Int32 × S_Mo)} {s0 : S_Mo} {x1 : Int32} {x3 : Int32} {x5 : Int32} {out : Int32 × S_Mo} (X : Cx p s m args meth c prog_11_method_8_code 6 ws_Mo_read R_Mo (some .boolean) D g) (hk53 : ∀ (v : S_Mo × Int32 × Int32 × Int32) (ls : Array Slot) (H : Heap) (locs : List Loc), lv_has ls 6 [(0, .ref (a0 0)), (1, .int v.2.1), (3, .int v.2.2.1), (5, .int v.2.2.2)] → Iw D A (w_Mo g a0 v.1 ++ (rest)) H → va_S A s.heap H locs → k53 v = some out → W p l e (headSpec ws_Mo_read { frames := 4, cells := 0, slots := 0, locals := 103 }).room s m args below meth c H locs 0 0 (MQ below (QcI D A g out.1 (fun (_ : Unit) => w_Mo g a0 out.2 ++ (rest))) args s 0 0 A) (F0 m 53 ls [])) (hl : lv_has ls 6 [(0, .ref (a0 0)), (1, .int x1), (3, .int x3), (5, .int x5)]) (hI : Iw D A (w_Mo g a0 s0 ++ (rest)) H) (hS : va_S A s.heap H locs) (h : B_Mo_read_53 k53 s0 x1 x3 x5 = some out) : W p l e (headSpec ws_Mo_read { frames := 4, cells := 0, slots := 0, locals := 103 }).room s m args below meth c H locs 0 0 (MQ below (QcI D A g out.1 (fun (_ : Unit) => w_Mo g a0 out.2 ++ (rest))) args s 0 0 A) (F0 m 53 ls []) := by
  have X1 := X
  obtain ⟨hx, hb, hml, hown, hts, hr, hlocks, hKK⟩ := X1
  have ht : ∀ w ∈ TB, w.before args s = true := fun w h => hts w (List.mem_cons_of_mem _ h)
  have hK := hKK.1
  unfold B_Mo_read_53 at h
  refine lv_aload_n hx hb d_Mo_read_53 rfl (lv_at hl 0 rfl) ?_
  refine gt_Mo_depth hx hb ht hown hK hI (ht _ m_837) d_Mo_read_54 ?_
  refine lv_if_le (tgt := 76) hx hb d_Mo_read_57 (by decide) (fun hc => ?_) (fun hc => ?_)
  · have h := it_t h hc
    exact t_Mo_read_76 X (lv_sub hl [3] rfl) hI hS h
  · have h := it_f h hc
    exact t_Mo_read_60 X hk53 (lv_sub hl [0, 1, 2, 3] rfl) hI hS h
set_option maxRecDepth 100000 in
set_option maxHeartbeats 4000000 in
theorem T_Mo_read_53 {p : Program} {l : Launch} {e : Env} {s : State} {m : MethodId} {args : Array Value} {below : List Frame} {meth : Method} {c : Code} {D : va_G} {A : Nat → Prop} {g : Nat → ClassId} {rest : va_W} {a0 : Nat → Nat} {ls : Array Slot} {H : Heap} {locs : List Loc} {s0 : S_Mo} {x1 : Int32} {x3 : Int32} {x5 : Int32} {out : Int32 × S_Mo} (X : Cx p s m args meth c prog_11_method_8_code 6 ws_Mo_read R_Mo (some .boolean) D g) (hl : lv_has ls 6 [(0, .ref (a0 0)), (1, .int x1), (3, .int x3), (5, .int x5)]) (hI : Iw D A (w_Mo g a0 s0 ++ (rest)) H) (hS : va_S A s.heap H locs) (h : L_Mo_read_53   (s0, x1, x3, x5) = some out) : W p l e (headSpec ws_Mo_read { frames := 4, cells := 0, slots := 0, locals := 103 }).room s m args below meth c H locs 0 0 (MQ below (QcI D A g out.1 (fun (_ : Unit) => w_Mo g a0 out.2 ++ (rest))) args s 0 0 A) (F0 m 53 ls []) := by
  unfold L_Mo_read_53 at h
  exact lp_ind (P := fun v => ∀ (ls : Array Slot) (H : Heap) (locs : List Loc), lv_has ls 6 [(0, .ref (a0 0)), (1, .int v.2.1), (3, .int v.2.2.1), (5, .int v.2.2.2)] → Iw D A (w_Mo g a0 v.1 ++ (rest)) H → va_S A s.heap H locs → W p l e (headSpec ws_Mo_read { frames := 4, cells := 0, slots := 0, locals := 103 }).room s m args below meth c H locs 0 0 (MQ below (QcI D A g out.1 (fun (_ : Unit) => w_Mo g a0 out.2 ++ (rest))) args s 0 0 A) (F0 m 53 ls [])) (fun k v ih hb ls H locs  hl hI hS => t_Mo_read_53 X  (fun v' ls H locs  hl hI hS h' => ih v' h' ls H locs  hl hI hS) hl hI hS hb) FU _ h ls H locs  hl hI hS
set_option maxRecDepth 100000 in
set_option maxHeartbeats 4000000 in
theorem t_Mo_read_0 {p : Program} {l : Launch} {e : Env} {s : State} {m : MethodId} {args : Array Value} {below : List Frame} {meth : Method} {c : Code} {D : va_G} {A : Nat → Prop} {g : Nat → ClassId} {rest : va_W} {a0 : Nat → Nat} {ls : Array Slot} {H : Heap} {locs : List Loc} {s0 : S_Mo} {x1 : Int32} {x2 : Int32} {x3 : Int32} {out : Int32 × S_Mo} (X : Cx p s m args meth c prog_11_method_8_code 6 ws_Mo_read R_Mo (some .boolean) D g) (hl : lv_has ls 6 [(0, .ref (a0 0)), (1, .int x1), (2, .int x2), (3, .int x3)]) (hI : Iw D A (w_Mo g a0 s0 ++ (rest)) H) (hS : va_S A s.heap H locs) (h : B_Mo_read_0  s0 x1 x2 x3 = some out) : W p l e (headSpec ws_Mo_read { frames := 4, cells := 0, slots := 0, locals := 103 }).room s m args below meth c H locs 0 0 (MQ below (QcI D A g out.1 (fun (_ : Unit) => w_Mo g a0 out.2 ++ (rest))) args s 0 0 A) (F0 m 0 ls []) := by
  have X1 := X
  obtain ⟨hx, hb, hml, hown, hts, hr, hlocks, hKK⟩ := X1
  have ht : ∀ w ∈ TB, w.before args s = true := fun w h => hts w (List.mem_cons_of_mem _ h)
  have hK := hKK.1
  unfold B_Mo_read_0 at h
  refine lv_aload_n hx hb d_Mo_read_0 rfl (lv_at hl 0 rfl) ?_
  refine gt_Mo_count hx hb ht hown hK hI (ht _ m_822) d_Mo_read_1 ?_
  refine lv_iload_n hx hb d_Mo_read_4 rfl (lv_at hl 1 rfl) ?_
  refine lv_iconst (v := 0) hx hb d_Mo_read_5 (by decide) ?_
  by_cases hc1 : (x1 < 0 ∨ 2 ≤ x1.toNatClampNeg)
  · exact no_s (it_t h hc1)
  have h := it_f h hc1
  refine as_Mo_count hx hb hK hI hS hc1 d_Mo_read_6 (fun H locs hI hS => ?_)
  refine lv_aload_n hx hb d_Mo_read_7 rfl (lv_at hl 0 rfl) ?_
  refine gt_Mo_held hx hb ht hown hK hI (ht _ m_835) d_Mo_read_8 ?_
  refine lv_iload_n hx hb d_Mo_read_11 rfl (lv_at hl 1 rfl) ?_
  refine lv_sipush (v := 240) hx hb d_Mo_read_12 (by decide) ?_
  refine lv_iload_n hx hb d_Mo_read_15 rfl (lv_at hl 1 rfl) ?_
  refine lv_imul hx hb d_Mo_read_16 ?_
  by_cases hc2 : (x1 < 0 ∨ 2 ≤ x1.toNatClampNeg)
  · exact no_s (it_t h hc2)
  have h := it_f h hc2
  refine as_Mo_held hx hb hK hI hS hc2 d_Mo_read_17 (fun H locs hI hS => ?_)
  refine lv_aload_n hx hb d_Mo_read_18 rfl (lv_at hl 0 rfl) ?_
  refine lv_iconst (v := 0) hx hb d_Mo_read_19 (by decide) ?_
  refine pt_Mo_fault hx hb ht hown hK hI hS (ht _ m_821) d_Mo_read_20 (fun H locs hI hS => ?_)
  refine lv_aload_n hx hb d_Mo_read_23 rfl (lv_at hl 0 rfl) ?_
  refine lv_iconst (v := 0) hx hb d_Mo_read_24 (by decide) ?_
  refine pt_Mo_depth hx hb ht hown hK hI hS (ht _ m_837) d_Mo_read_25 (fun H locs hI hS => ?_)
  refine lv_aload_n hx hb d_Mo_read_28 rfl (lv_at hl 0 rfl) ?_
  refine lv_iconst (v := 0) hx hb d_Mo_read_29 (by decide) ?_
  refine pt_Mo_at hx hb ht hown hK hI hS (ht _ m_841) d_Mo_read_30 (fun H locs hI hS => ?_)
  refine lv_aload_n hx hb d_Mo_read_33 rfl (lv_at hl 0 rfl) ?_
  refine lv_iload_n hx hb d_Mo_read_34 rfl (lv_at hl 1 rfl) ?_
  refine lv_iconst (v := 0) hx hb d_Mo_read_35 (by decide) ?_
  refine lv_iconst (v := (-1)) hx hb d_Mo_read_36 (by decide) ?_
  obtain ⟨o3, ho4, h⟩ := bd_s h
  refine cl_i (W1 := fun (_ : Unit) => w_Mo g a0 o3.2 ++ (rest)) (va_runV (As := [.int x1, .int (0 : Int32), .int ((-1) : Int32)]) (rest := []) ⟨hx, hb, hml, hown, ht⟩ (c_Mo_add (l := l) (D := D) (A := A) (g := g) (rest := rest) (a0 := a0) ho4) (cwV 3 ht (gd_V m_995 m_997 mp_39 m_11 m_998) rfl rfl rfl (by decide +kernel) ⟨(Nat.le_of_ble_eq_true rfl), (Nat.le_of_ble_eq_true rfl)⟩) (prV (ci := 9) (q0 := 0) hKK hI (List.Perm.refl _) rfl rfl rfl) rfl rfl hl.1 rfl (lv_room (Nat.le_of_ble_eq_true rfl)) d_Mo_read_37 ⟨(Nat.le_of_ble_eq_true rfl), (Nat.le_of_ble_eq_true rfl)⟩) hS (fun _ => ((List.Perm.refl _)).symm) (fun _ H locs hI hS => ?_)
  have hI : Iw D A (w_Mo g a0 o3.2 ++ (rest)) H := hI
  refine lv_istore hx hb d_Mo_read_40 hl (Nat.le_of_ble_eq_true rfl) rfl (fun ls hl => ?_)
  have hl : lv_has ls 6 [(4, .int o3.1), (0, .ref (a0 0)), (1, .int x1), (2, .int x2), (3, .int x3)] := hl
  refine lv_aload_n hx hb d_Mo_read_42 rfl (lv_at hl 1 rfl) ?_
  refine lv_iload hx hb d_Mo_read_43 (lv_at hl 0 rfl) ?_
  refine lv_iload_n hx hb d_Mo_read_45 rfl (lv_at hl 3 rfl) ?_
  refine lv_iconst (v := 0) hx hb d_Mo_read_46 (by decide) ?_
  obtain ⟨o5, ho6, h⟩ := bd_s h
  refine cl_v (W1 := fun (_ : Unit) => w_Mo g a0 o5 ++ (rest)) (va_runV (As := [.int o3.1, .int x2, .int (0 : Int32)]) (rest := []) ⟨hx, hb, hml, hown, ht⟩ (c_Mo_push (l := l) (D := D) (A := A) (g := g) (rest := rest) (a0 := a0) ho6) (cwV 3 ht (gd_V m_999 m_1001 mp_40 m_11 m_1002) rfl rfl rfl (by decide +kernel) ⟨(Nat.le_of_ble_eq_true rfl), (Nat.le_of_ble_eq_true rfl)⟩) (prV (ci := 9) (q0 := 0) hKK hI (List.Perm.refl _) rfl rfl rfl) rfl rfl hl.1 rfl (lv_room (Nat.le_of_ble_eq_true rfl)) d_Mo_read_47 ⟨(Nat.le_of_ble_eq_true rfl), (Nat.le_of_ble_eq_true rfl)⟩) hS (fun _ => ((List.Perm.refl _)).symm) (fun _ H locs hI hS => ?_)
  have hI : Iw D A (w_Mo g a0 o5 ++ (rest)) H := hI
  refine lv_iconst (v := 1) hx hb d_Mo_read_50 (by decide) ?_
  refine lv_istore hx hb d_Mo_read_51 hl (Nat.le_of_ble_eq_true rfl) rfl (fun ls hl => ?_)
  have hl : lv_has ls 6 [(5, .int (1 : Int32)), (4, .int o3.1), (0, .ref (a0 0)), (1, .int x1), (2, .int x2), (3, .int x3)] := hl
  exact T_Mo_read_53 X (lv_sub hl [2, 3, 5, 0] rfl) hI hS h
set_option maxRecDepth 100000 in
set_option maxHeartbeats 4000000 in
theorem c_Mo_read {l : Launch} {D : va_G} {A : Nat → Prop} {g : Nat → ClassId} {rest : va_W} {a0 : Nat → Nat} {s0 : S_Mo} {x1 : Int32} {x2 : Int32} {x3 : Int32} {out : Int32 × S_Mo} (h : F_Mo_read s0 x1 x2 x3 = some out) : Met l y_Mo_read ws_Mo_read { frames := 4, cells := 0, slots := 0, locals := 103 } (PcW D A g [.ref (a0 0), .int x1, .int x2, .int x3] (w_Mo g a0 s0 ++ (rest))) (QcI D A g out.1 (fun (_ : Unit) => w_Mo g a0 out.2 ++ (rest))) 0 0 A := by
  refine Met.ofW (cc := prog_11_method_8_code) (maxL := 6) (ret := (some .boolean)) (by decide) rfl ?_
  intro p e s m args below meth c s₁ B hml hv
  obtain ⟨rfl, hI, hK⟩ := hv
  have hl := lv_entry [.ref (a0 0), .int x1, .int x2, .int x3] (n := 6) (Nat.le_of_ble_eq_true rfl)
  rw [lg_entry_eq]
  generalize (lg_sl [.ref (a0 0), .int x1, .int x2, .int x3] ++ List.replicate (6 - (lg_sl [.ref (a0 0), .int x1, .int x2, .int x3]).length) Slot.unset).toArray = ls at hl ⊢
  have hl : lv_has ls 6 [(0, .ref (a0 0)), (1, .int x1), (2, .int x2), (3, .int x3)] := hl
  exact t_Mo_read_0 ⟨B.exec, B.bytes, hml, findClass_of_methodNamed B.named, atoms_spec (ws := ws_Mo_read) B.pre, B.returns, B.notSynchronized, hK⟩ (lv_sub hl [0, 1, 2, 3] rfl) hI va_S.rf h
def ws_Mo_readDraft : List Cond := .code y_Mo_readDraft prog_11_method_21_code 3 (some .boolean) :: TB
def B_Mo_readDraft_28 (s0 : S_Mo) (x1 : Int32) : Option (Int32 × S_Mo) :=
  ((F_Mo_read s0 (0 : Int32) (Mo_drafted s0) x1).bind fun o1 => (if o1.1 = 0 ∨ o1.1 = 1 then some (o1.1, o1.2) else none))
def B_Mo_readDraft_10 (k2 : S_Mo × Int32 × Int32 → Option (Int32 × S_Mo)) (s0 : S_Mo) (x1 : Int32) (x2 : Int32) : Option (Int32 × S_Mo) :=
  (if (x2 < 0 ∨ 120 ≤ x2.toNatClampNeg) then none else (if (x2 < 0 ∨ 240 ≤ x2.toNatClampNeg) then none else (k2 ((Mo_set_source s0 (upd (Mo_source s0) x2.toNatClampNeg ((Mo_draft s0) x2.toNatClampNeg))), x1, (x2 + 1)))))
def B_Mo_readDraft_2 (k2 : S_Mo × Int32 × Int32 → Option (Int32 × S_Mo)) (s0 : S_Mo) (x1 : Int32) (x2 : Int32) : Option (Int32 × S_Mo) :=
  (if (Mo_drafted s0) ≤ x2 then (B_Mo_readDraft_28 s0 x1) else (B_Mo_readDraft_10 k2 s0 x1 x2))
def L_Mo_readDraft_2 (v : S_Mo × Int32 × Int32) : Option (Int32 × S_Mo) := lp (fun k2 v => B_Mo_readDraft_2  k2  v.1 v.2.1 v.2.2) FU v
def B_Mo_readDraft_0 (s0 : S_Mo) (x1 : Int32) : Option (Int32 × S_Mo) :=
  (L_Mo_readDraft_2 (s0, x1, (0 : Int32)))
def F_Mo_readDraft (s0 : S_Mo) (x1 : Int32) : Option (Int32 × S_Mo) := B_Mo_readDraft_0 s0 x1
set_option maxRecDepth 100000 in
set_option maxHeartbeats 4000000 in
theorem t_Mo_readDraft_28 {p : Program} {l : Launch} {e : Env} {s : State} {m : MethodId} {args : Array Value} {below : List Frame} {meth : Method} {c : Code} {D : va_G} {A : Nat → Prop} {g : Nat → ClassId} {rest : va_W} {a0 : Nat → Nat} {ls : Array Slot} {H : Heap} {locs : List Loc} {s0 : S_Mo} {x1 : Int32} {out : Int32 × S_Mo} (X : Cx p s m args meth c prog_11_method_21_code 3 ws_Mo_readDraft R_Mo (some .boolean) D g) (hl : lv_has ls 3 [(0, .ref (a0 0)), (1, .int x1)]) (hI : Iw D A (w_Mo g a0 s0 ++ (rest)) H) (hS : va_S A s.heap H locs) (h : B_Mo_readDraft_28  s0 x1 = some out) : W p l e (headSpec ws_Mo_readDraft { frames := 5, cells := 0, slots := 0, locals := 128 }).room s m args below meth c H locs 0 0 (MQ below (QcI D A g out.1 (fun (_ : Unit) => w_Mo g a0 out.2 ++ (rest))) args s 0 0 A) (F0 m 28 ls []) := by
  have X1 := X
  obtain ⟨hx, hb, hml, hown, hts, hr, hlocks, hKK⟩ := X1
  have ht : ∀ w ∈ TB, w.before args s = true := fun w h => hts w (List.mem_cons_of_mem _ h)
  have hK := hKK.1
  unfold B_Mo_readDraft_28 at h
  refine lv_aload_n hx hb d_Mo_readDraft_28 rfl (lv_at hl 0 rfl) ?_
  refine lv_iconst (v := 0) hx hb d_Mo_readDraft_29 (by decide) ?_
  refine lv_aload_n hx hb d_Mo_readDraft_30 rfl (lv_at hl 0 rfl) ?_
  refine gt_Mo_drafted hx hb ht hown hK hI (ht _ m_819) d_Mo_readDraft_31 ?_
  refine lv_iload_n hx hb d_Mo_readDraft_34 rfl (lv_at hl 1 rfl) ?_
  obtain ⟨o1, ho2, h⟩ := bd_s h
  refine cl_i (W1 := fun (_ : Unit) => w_Mo g a0 o1.2 ++ (rest)) (va_runV (As := [.int (0 : Int32), .int (Mo_drafted s0), .int x1]) (rest := []) ⟨hx, hb, hml, hown, ht⟩ (c_Mo_read (l := l) (D := D) (A := A) (g := g) (rest := rest) (a0 := a0) ho2) (cwV 3 ht (gd_V m_991 m_993 mp_38 m_11 m_994) rfl rfl rfl (by decide +kernel) ⟨(Nat.le_of_ble_eq_true rfl), (Nat.le_of_ble_eq_true rfl)⟩) (prV (ci := 9) (q0 := 0) hKK hI (List.Perm.refl _) rfl rfl rfl) rfl rfl hl.1 rfl (lv_room (Nat.le_of_ble_eq_true rfl)) d_Mo_readDraft_35 ⟨(Nat.le_of_ble_eq_true rfl), (Nat.le_of_ble_eq_true rfl)⟩) hS (fun _ => ((List.Perm.refl _)).symm) (fun _ H locs hI hS => ?_)
  have hI : Iw D A (w_Mo g a0 o1.2 ++ (rest)) H := hI
  have hc3 : o1.1 = 0 ∨ o1.1 = 1 := by
    by_cases z : o1.1 = 0 ∨ o1.1 = 1
    · exact z
    · exact no_s (it_f h z)
  have h := it_t h hc3
  have h9 := Option.some.inj h
  subst h9
  exact W.zret (v := o1.1) hx hb hr (by rcases hc3 with z | z <;> rw [z] <;> rfl) (fun t ht hW => ⟨⟨_, (), rfl, rfl, ⟨by rw [ht]; exact hI, hKK.moved hW⟩⟩, hS.F ht⟩) hS.2.2 d_Mo_readDraft_38
set_option maxRecDepth 100000 in
set_option maxHeartbeats 4000000 in
theorem t_Mo_readDraft_10 {p : Program} {l : Launch} {e : Env} {s : State} {m : MethodId} {args : Array Value} {below : List Frame} {meth : Method} {c : Code} {D : va_G} {A : Nat → Prop} {g : Nat → ClassId} {rest : va_W} {a0 : Nat → Nat} {ls : Array Slot} {H : Heap} {locs : List Loc} {k2 : S_Mo × Int32 × Int32 → Option (Int32 × S_Mo)} {s0 : S_Mo} {x1 : Int32} {x2 : Int32} {out : Int32 × S_Mo} (X : Cx p s m args meth c prog_11_method_21_code 3 ws_Mo_readDraft R_Mo (some .boolean) D g) (hk2 : ∀ (v : S_Mo × Int32 × Int32) (ls : Array Slot) (H : Heap) (locs : List Loc), lv_has ls 3 [(0, .ref (a0 0)), (1, .int v.2.1), (2, .int v.2.2)] → Iw D A (w_Mo g a0 v.1 ++ (rest)) H → va_S A s.heap H locs → k2 v = some out → W p l e (headSpec ws_Mo_readDraft { frames := 5, cells := 0, slots := 0, locals := 128 }).room s m args below meth c H locs 0 0 (MQ below (QcI D A g out.1 (fun (_ : Unit) => w_Mo g a0 out.2 ++ (rest))) args s 0 0 A) (F0 m 2 ls [])) (hl : lv_has ls 3 [(0, .ref (a0 0)), (1, .int x1), (2, .int x2)]) (hI : Iw D A (w_Mo g a0 s0 ++ (rest)) H) (hS : va_S A s.heap H locs) (h : B_Mo_readDraft_10 k2 s0 x1 x2 = some out) : W p l e (headSpec ws_Mo_readDraft { frames := 5, cells := 0, slots := 0, locals := 128 }).room s m args below meth c H locs 0 0 (MQ below (QcI D A g out.1 (fun (_ : Unit) => w_Mo g a0 out.2 ++ (rest))) args s 0 0 A) (F0 m 10 ls []) := by
  have X1 := X
  obtain ⟨hx, hb, hml, hown, hts, hr, hlocks, hKK⟩ := X1
  have ht : ∀ w ∈ TB, w.before args s = true := fun w h => hts w (List.mem_cons_of_mem _ h)
  have hK := hKK.1
  unfold B_Mo_readDraft_10 at h
  refine lv_aload_n hx hb d_Mo_readDraft_10 rfl (lv_at hl 0 rfl) ?_
  refine gt_Mo_source hx hb ht hown hK hI (ht _ m_820) d_Mo_readDraft_11 ?_
  refine lv_iload_n hx hb d_Mo_readDraft_14 rfl (lv_at hl 2 rfl) ?_
  refine lv_aload_n hx hb d_Mo_readDraft_15 rfl (lv_at hl 0 rfl) ?_
  refine gt_Mo_draft hx hb ht hown hK hI (ht _ m_818) d_Mo_readDraft_16 ?_
  refine lv_iload_n hx hb d_Mo_readDraft_19 rfl (lv_at hl 2 rfl) ?_
  by_cases hc1 : (x2 < 0 ∨ 120 ≤ x2.toNatClampNeg)
  · exact no_s (it_t h hc1)
  have h := it_f h hc1
  refine al_Mo_draft hx hb hK hI hc1 d_Mo_readDraft_20 ?_
  by_cases hc2 : (x2 < 0 ∨ 240 ≤ x2.toNatClampNeg)
  · exact no_s (it_t h hc2)
  have h := it_f h hc2
  refine as_Mo_source hx hb hK hI hS hc2 d_Mo_readDraft_21 (fun H locs hI hS => ?_)
  refine lv_iinc (k := 2) (v := (x2 + 1)) hx hb d_Mo_readDraft_22 hl rfl (congrArg (fun z => x2 + z) (by decide)) (Nat.le_of_ble_eq_true rfl) rfl (fun ls hl => ?_)
  have hl : lv_has ls 3 [(2, .int (x2 + 1)), (0, .ref (a0 0)), (1, .int x1)] := hl
  refine lv_goto (tgt := 2) hx hb d_Mo_readDraft_25 (by decide) ?_
  exact hk2 ((Mo_set_source s0 (upd (Mo_source s0) x2.toNatClampNeg ((Mo_draft s0) x2.toNatClampNeg))), x1, (x2 + 1)) _ _ _ (lv_sub hl [1, 2, 0] rfl) hI hS h
set_option maxRecDepth 100000 in
set_option maxHeartbeats 4000000 in
theorem t_Mo_readDraft_2 {p : Program} {l : Launch} {e : Env} {s : State} {m : MethodId} {args : Array Value} {below : List Frame} {meth : Method} {c : Code} {D : va_G} {A : Nat → Prop} {g : Nat → ClassId} {rest : va_W} {a0 : Nat → Nat} {ls : Array Slot} {H : Heap} {locs : List Loc} {k2 : S_Mo × Int32 × Int32 → Option (Int32 × S_Mo)} {s0 : S_Mo} {x1 : Int32} {x2 : Int32} {out : Int32 × S_Mo} (X : Cx p s m args meth c prog_11_method_21_code 3 ws_Mo_readDraft R_Mo (some .boolean) D g) (hk2 : ∀ (v : S_Mo × Int32 × Int32) (ls : Array Slot) (H : Heap) (locs : List Loc), lv_has ls 3 [(0, .ref (a0 0)), (1, .int v.2.1), (2, .int v.2.2)] → Iw D A (w_Mo g a0 v.1 ++ (rest)) H → va_S A s.heap H locs → k2 v = some out → W p l e (headSpec ws_Mo_readDraft { frames := 5, cells := 0, slots := 0, locals := 128 }).room s m args below meth c H locs 0 0 (MQ below (QcI D A g out.1 (fun (_ : Unit) => w_Mo g a0 out.2 ++ (rest))) args s 0 0 A) (F0 m 2 ls [])) (hl : lv_has ls 3 [(0, .ref (a0 0)), (1, .int x1), (2, .int x2)]) (hI : Iw D A (w_Mo g a0 s0 ++ (rest)) H) (hS : va_S A s.heap H locs) (h : B_Mo_readDraft_2 k2 s0 x1 x2 = some out) : W p l e (headSpec ws_Mo_readDraft { frames := 5, cells := 0, slots := 0, locals := 128 }).room s m args below meth c H locs 0 0 (MQ below (QcI D A g out.1 (fun (_ : Unit) => w_Mo g a0 out.2 ++ (rest))) args s 0 0 A) (F0 m 2 ls []) := by
  have X1 := X
  obtain ⟨hx, hb, hml, hown, hts, hr, hlocks, hKK⟩ := X1
  have ht : ∀ w ∈ TB, w.before args s = true := fun w h => hts w (List.mem_cons_of_mem _ h)
  have hK := hKK.1
  unfold B_Mo_readDraft_2 at h
  refine lv_iload_n hx hb d_Mo_readDraft_2 rfl (lv_at hl 2 rfl) ?_
  refine lv_aload_n hx hb d_Mo_readDraft_3 rfl (lv_at hl 0 rfl) ?_
  refine gt_Mo_drafted hx hb ht hown hK hI (ht _ m_819) d_Mo_readDraft_4 ?_
  refine lv_icmp_ge (tgt := 28) hx hb d_Mo_readDraft_7 (by decide) (fun hc => ?_) (fun hc => ?_)
  · have h := it_t h hc
    exact t_Mo_readDraft_28 X (lv_sub hl [0, 1] rfl) hI hS h
  · have h := it_f h hc
    exact t_Mo_readDraft_10 X hk2 (lv_sub hl [0, 1, 2] rfl) hI hS h
set_option maxRecDepth 100000 in
set_option maxHeartbeats 4000000 in
theorem T_Mo_readDraft_2 {p : Program} {l : Launch} {e : Env} {s : State} {m : MethodId} {args : Array Value} {below : List Frame} {meth : Method} {c : Code} {D : va_G} {A : Nat → Prop} {g : Nat → ClassId} {rest : va_W} {a0 : Nat → Nat} {ls : Array Slot} {H : Heap} {locs : List Loc} {s0 : S_Mo} {x1 : Int32} {x2 : Int32} {out : Int32 × S_Mo} (X : Cx p s m args meth c prog_11_method_21_code 3 ws_Mo_readDraft R_Mo (some .boolean) D g) (hl : lv_has ls 3 [(0, .ref (a0 0)), (1, .int x1), (2, .int x2)]) (hI : Iw D A (w_Mo g a0 s0 ++ (rest)) H) (hS : va_S A s.heap H locs) (h : L_Mo_readDraft_2   (s0, x1, x2) = some out) : W p l e (headSpec ws_Mo_readDraft { frames := 5, cells := 0, slots := 0, locals := 128 }).room s m args below meth c H locs 0 0 (MQ below (QcI D A g out.1 (fun (_ : Unit) => w_Mo g a0 out.2 ++ (rest))) args s 0 0 A) (F0 m 2 ls []) := by
  unfold L_Mo_readDraft_2 at h
  exact lp_ind (P := fun v => ∀ (ls : Array Slot) (H : Heap) (locs : List Loc), lv_has ls 3 [(0, .ref (a0 0)), (1, .int v.2.1), (2, .int v.2.2)] → Iw D A (w_Mo g a0 v.1 ++ (rest)) H → va_S A s.heap H locs → W p l e (headSpec ws_Mo_readDraft { frames := 5, cells := 0, slots := 0, locals := 128 }).room s m args below meth c H locs 0 0 (MQ below (QcI D A g out.1 (fun (_ : Unit) => w_Mo g a0 out.2 ++ (rest))) args s 0 0 A) (F0 m 2 ls [])) (fun k v ih hb ls H locs  hl hI hS => t_Mo_readDraft_2 X  (fun v' ls H locs  hl hI hS h' => ih v' h' ls H locs  hl hI hS) hl hI hS hb) FU _ h ls H locs  hl hI hS
set_option maxRecDepth 100000 in
set_option maxHeartbeats 4000000 in
theorem t_Mo_readDraft_0 {p : Program} {l : Launch} {e : Env} {s : State} {m : MethodId} {args : Array Value} {below : List Frame} {meth : Method} {c : Code} {D : va_G} {A : Nat → Prop} {g : Nat → ClassId} {rest : va_W} {a0 : Nat → Nat} {ls : Array Slot} {H : Heap} {locs : List Loc} {s0 : S_Mo} {x1 : Int32} {out : Int32 × S_Mo} (X : Cx p s m args meth c prog_11_method_21_code 3 ws_Mo_readDraft R_Mo (some .boolean) D g) (hl : lv_has ls 3 [(0, .ref (a0 0)), (1, .int x1)]) (hI : Iw D A (w_Mo g a0 s0 ++ (rest)) H) (hS : va_S A s.heap H locs) (h : B_Mo_readDraft_0  s0 x1 = some out) : W p l e (headSpec ws_Mo_readDraft { frames := 5, cells := 0, slots := 0, locals := 128 }).room s m args below meth c H locs 0 0 (MQ below (QcI D A g out.1 (fun (_ : Unit) => w_Mo g a0 out.2 ++ (rest))) args s 0 0 A) (F0 m 0 ls []) := by
  have X1 := X
  obtain ⟨hx, hb, hml, hown, hts, hr, hlocks, hKK⟩ := X1
  have ht : ∀ w ∈ TB, w.before args s = true := fun w h => hts w (List.mem_cons_of_mem _ h)
  have hK := hKK.1
  unfold B_Mo_readDraft_0 at h
  refine lv_iconst (v := 0) hx hb d_Mo_readDraft_0 (by decide) ?_
  refine lv_istore_n hx hb d_Mo_readDraft_1 rfl hl (Nat.le_of_ble_eq_true rfl) rfl (fun ls hl => ?_)
  have hl : lv_has ls 3 [(2, .int (0 : Int32)), (0, .ref (a0 0)), (1, .int x1)] := hl
  exact T_Mo_readDraft_2 X (lv_sub hl [1, 2, 0] rfl) hI hS h
set_option maxRecDepth 100000 in
set_option maxHeartbeats 4000000 in
theorem c_Mo_readDraft {l : Launch} {D : va_G} {A : Nat → Prop} {g : Nat → ClassId} {rest : va_W} {a0 : Nat → Nat} {s0 : S_Mo} {x1 : Int32} {out : Int32 × S_Mo} (h : F_Mo_readDraft s0 x1 = some out) : Met l y_Mo_readDraft ws_Mo_readDraft { frames := 5, cells := 0, slots := 0, locals := 128 } (PcW D A g [.ref (a0 0), .int x1] (w_Mo g a0 s0 ++ (rest))) (QcI D A g out.1 (fun (_ : Unit) => w_Mo g a0 out.2 ++ (rest))) 0 0 A := by
  refine Met.ofW (cc := prog_11_method_21_code) (maxL := 3) (ret := (some .boolean)) (by decide) rfl ?_
  intro p e s m args below meth c s₁ B hml hv
  obtain ⟨rfl, hI, hK⟩ := hv
  have hl := lv_entry [.ref (a0 0), .int x1] (n := 3) (Nat.le_of_ble_eq_true rfl)
  rw [lg_entry_eq]
  generalize (lg_sl [.ref (a0 0), .int x1] ++ List.replicate (3 - (lg_sl [.ref (a0 0), .int x1]).length) Slot.unset).toArray = ls at hl ⊢
  have hl : lv_has ls 3 [(0, .ref (a0 0)), (1, .int x1)] := hl
  exact t_Mo_readDraft_0 ⟨B.exec, B.bytes, hml, findClass_of_methodNamed B.named, atoms_spec (ws := ws_Mo_readDraft) B.pre, B.returns, B.notSynchronized, hK⟩ (lv_sub hl [0, 1] rfl) hI va_S.rf h
def ws_Mo_check : List Cond := .code y_Mo_check prog_11_method_22_code 2 (some .int) :: TB
def B_Mo_check_43 (s0 : S_Mo) (y0 : Int32) : Option (Int32 × S_Mo) :=
  some (y0, s0)
def B_Mo_check_39 (s0 : S_Mo) : Option (Int32 × S_Mo) :=
  (B_Mo_check_43 s0 (Mo_fault s0))
def B_Mo_check_35 (s0 : S_Mo) : Option (Int32 × S_Mo) :=
  (B_Mo_check_43 s0 (0 : Int32))
def B_Mo_check_27 (s0 : S_Mo) (x1 : Int32) : Option (Int32 × S_Mo) :=
  ((F_Mo_readDraft s0 x1).bind fun o1 => (if o1.1 = 0 then (B_Mo_check_39 o1.2) else (B_Mo_check_35 o1.2)))
def B_Mo_check_25 (s0 : S_Mo) : Option (Int32 × S_Mo) :=
  some ((0 : Int32), s0)
def B_Mo_check_15 (s0 : S_Mo) (x1 : Int32) (y0 : Int32) : Option (Int32 × S_Mo) :=
  (if (Mo_code (Mo_set_code s0 y0)) ≤ 0 then (B_Mo_check_27 (Mo_set_code s0 y0) x1) else (B_Mo_check_25 (Mo_set_code s0 y0)))
def B_Mo_check_14 (s0 : S_Mo) (x1 : Int32) : Option (Int32 × S_Mo) :=
  (B_Mo_check_15 s0 x1 (1 : Int32))
def B_Mo_check_10 (s0 : S_Mo) (x1 : Int32) : Option (Int32 × S_Mo) :=
  (B_Mo_check_15 s0 x1 (0 : Int32))
def B_Mo_check_0 (s0 : S_Mo) (x1 : Int32) : Option (Int32 × S_Mo) :=
  ((F_Mo_in x1 (0 : Int32) (1 : Int32)).bind fun o1 => (if o1 = 0 then (B_Mo_check_14 s0 x1) else (B_Mo_check_10 s0 x1)))
def F_Mo_check (s0 : S_Mo) (x1 : Int32) : Option (Int32 × S_Mo) := B_Mo_check_0 s0 x1
set_option maxRecDepth 100000 in
set_option maxHeartbeats 4000000 in
theorem t_Mo_check_43 {p : Program} {l : Launch} {e : Env} {s : State} {m : MethodId} {args : Array Value} {below : List Frame} {meth : Method} {c : Code} {D : va_G} {A : Nat → Prop} {g : Nat → ClassId} {rest : va_W} {a0 : Nat → Nat} {ls : Array Slot} {H : Heap} {locs : List Loc} {s0 : S_Mo} {y0 : Int32} {out : Int32 × S_Mo} (X : Cx p s m args meth c prog_11_method_22_code 2 ws_Mo_check R_Mo (some .int) D g) (hl : lv_has ls 2 []) (hI : Iw D A (w_Mo g a0 s0 ++ (rest)) H) (hS : va_S A s.heap H locs) (h : B_Mo_check_43  s0 y0 = some out) : W p l e (headSpec ws_Mo_check { frames := 6, cells := 0, slots := 0, locals := 150 }).room s m args below meth c H locs 0 0 (MQ below (QcI D A g out.1 (fun (_ : Unit) => w_Mo g a0 out.2 ++ (rest))) args s 0 0 A) (F0 m 43 ls [.int y0]) := by
  have X1 := X
  obtain ⟨hx, hb, hml, hown, hts, hr, hlocks, hKK⟩ := X1
  have ht : ∀ w ∈ TB, w.before args s = true := fun w h => hts w (List.mem_cons_of_mem _ h)
  have hK := hKK.1
  unfold B_Mo_check_43 at h
  have h9 := Option.some.inj h
  subst h9
  exact W.iret (v := y0) hx hb hr (fun t ht hW => ⟨⟨_, (), rfl, rfl, ⟨by rw [ht]; exact hI, hKK.moved hW⟩⟩, hS.F ht⟩) hS.2.2 d_Mo_check_43
set_option maxRecDepth 100000 in
set_option maxHeartbeats 4000000 in
theorem t_Mo_check_39 {p : Program} {l : Launch} {e : Env} {s : State} {m : MethodId} {args : Array Value} {below : List Frame} {meth : Method} {c : Code} {D : va_G} {A : Nat → Prop} {g : Nat → ClassId} {rest : va_W} {a0 : Nat → Nat} {ls : Array Slot} {H : Heap} {locs : List Loc} {s0 : S_Mo} {out : Int32 × S_Mo} (X : Cx p s m args meth c prog_11_method_22_code 2 ws_Mo_check R_Mo (some .int) D g) (hl : lv_has ls 2 [(0, .ref (a0 0))]) (hI : Iw D A (w_Mo g a0 s0 ++ (rest)) H) (hS : va_S A s.heap H locs) (h : B_Mo_check_39  s0 = some out) : W p l e (headSpec ws_Mo_check { frames := 6, cells := 0, slots := 0, locals := 150 }).room s m args below meth c H locs 0 0 (MQ below (QcI D A g out.1 (fun (_ : Unit) => w_Mo g a0 out.2 ++ (rest))) args s 0 0 A) (F0 m 39 ls []) := by
  have X1 := X
  obtain ⟨hx, hb, hml, hown, hts, hr, hlocks, hKK⟩ := X1
  have ht : ∀ w ∈ TB, w.before args s = true := fun w h => hts w (List.mem_cons_of_mem _ h)
  have hK := hKK.1
  unfold B_Mo_check_39 at h
  refine lv_aload_n hx hb d_Mo_check_39 rfl (lv_at hl 0 rfl) ?_
  refine gt_Mo_fault hx hb ht hown hK hI (ht _ m_821) d_Mo_check_40 ?_
  exact t_Mo_check_43 X (lv_sub hl [] rfl) hI hS h
set_option maxRecDepth 100000 in
set_option maxHeartbeats 4000000 in
theorem t_Mo_check_35 {p : Program} {l : Launch} {e : Env} {s : State} {m : MethodId} {args : Array Value} {below : List Frame} {meth : Method} {c : Code} {D : va_G} {A : Nat → Prop} {g : Nat → ClassId} {rest : va_W} {a0 : Nat → Nat} {ls : Array Slot} {H : Heap} {locs : List Loc} {s0 : S_Mo} {out : Int32 × S_Mo} (X : Cx p s m args meth c prog_11_method_22_code 2 ws_Mo_check R_Mo (some .int) D g) (hl : lv_has ls 2 []) (hI : Iw D A (w_Mo g a0 s0 ++ (rest)) H) (hS : va_S A s.heap H locs) (h : B_Mo_check_35  s0 = some out) : W p l e (headSpec ws_Mo_check { frames := 6, cells := 0, slots := 0, locals := 150 }).room s m args below meth c H locs 0 0 (MQ below (QcI D A g out.1 (fun (_ : Unit) => w_Mo g a0 out.2 ++ (rest))) args s 0 0 A) (F0 m 35 ls []) := by
  have X1 := X
  obtain ⟨hx, hb, hml, hown, hts, hr, hlocks, hKK⟩ := X1
  have ht : ∀ w ∈ TB, w.before args s = true := fun w h => hts w (List.mem_cons_of_mem _ h)
  have hK := hKK.1
  unfold B_Mo_check_35 at h
  refine lv_iconst (v := 0) hx hb d_Mo_check_35 (by decide) ?_
  refine lv_goto (tgt := 43) hx hb d_Mo_check_36 (by decide) ?_
  exact t_Mo_check_43 X (lv_sub hl [] rfl) hI hS h
set_option maxRecDepth 100000 in
set_option maxHeartbeats 4000000 in
theorem t_Mo_check_27 {p : Program} {l : Launch} {e : Env} {s : State} {m : MethodId} {args : Array Value} {below : List Frame} {meth : Method} {c : Code} {D : va_G} {A : Nat → Prop} {g : Nat → ClassId} {rest : va_W} {a0 : Nat → Nat} {ls : Array Slot} {H : Heap} {locs : List Loc} {s0 : S_Mo} {x1 : Int32} {out : Int32 × S_Mo} (X : Cx p s m args meth c prog_11_method_22_code 2 ws_Mo_check R_Mo (some .int) D g) (hl : lv_has ls 2 [(0, .ref (a0 0)), (1, .int x1)]) (hI : Iw D A (w_Mo g a0 s0 ++ (rest)) H) (hS : va_S A s.heap H locs) (h : B_Mo_check_27  s0 x1 = some out) : W p l e (headSpec ws_Mo_check { frames := 6, cells := 0, slots := 0, locals := 150 }).room s m args below meth c H locs 0 0 (MQ below (QcI D A g out.1 (fun (_ : Unit) => w_Mo g a0 out.2 ++ (rest))) args s 0 0 A) (F0 m 27 ls []) := by
  have X1 := X
  obtain ⟨hx, hb, hml, hown, hts, hr, hlocks, hKK⟩ := X1
  have ht : ∀ w ∈ TB, w.before args s = true := fun w h => hts w (List.mem_cons_of_mem _ h)
  have hK := hKK.1
  unfold B_Mo_check_27 at h
  refine lv_aload_n hx hb d_Mo_check_27 rfl (lv_at hl 0 rfl) ?_
  refine lv_iload_n hx hb d_Mo_check_28 rfl (lv_at hl 1 rfl) ?_
  obtain ⟨o1, ho2, h⟩ := bd_s h
  refine cl_i (W1 := fun (_ : Unit) => w_Mo g a0 o1.2 ++ (rest)) (va_runV (As := [.int x1]) (rest := []) ⟨hx, hb, hml, hown, ht⟩ (c_Mo_readDraft (l := l) (D := D) (A := A) (g := g) (rest := rest) (a0 := a0) ho2) (cwV 1 ht (gd_V m_987 m_989 mp_37 m_11 m_990) rfl rfl rfl (by decide +kernel) ⟨(Nat.le_of_ble_eq_true rfl), (Nat.le_of_ble_eq_true rfl)⟩) (prV (ci := 9) (q0 := 0) hKK hI (List.Perm.refl _) rfl rfl rfl) rfl rfl hl.1 rfl (lv_room (Nat.le_of_ble_eq_true rfl)) d_Mo_check_29 ⟨(Nat.le_of_ble_eq_true rfl), (Nat.le_of_ble_eq_true rfl)⟩) hS (fun _ => ((List.Perm.refl _)).symm) (fun _ H locs hI hS => ?_)
  have hI : Iw D A (w_Mo g a0 o1.2 ++ (rest)) H := hI
  refine lv_if_eq (tgt := 39) hx hb d_Mo_check_32 (by decide) (fun hc => ?_) (fun hc => ?_)
  · have h := it_t h hc
    exact t_Mo_check_39 X (lv_sub hl [0] rfl) hI hS h
  · have h := it_f h hc
    exact t_Mo_check_35 X (lv_sub hl [] rfl) hI hS h
set_option maxRecDepth 100000 in
set_option maxHeartbeats 4000000 in
theorem t_Mo_check_25 {p : Program} {l : Launch} {e : Env} {s : State} {m : MethodId} {args : Array Value} {below : List Frame} {meth : Method} {c : Code} {D : va_G} {A : Nat → Prop} {g : Nat → ClassId} {rest : va_W} {a0 : Nat → Nat} {ls : Array Slot} {H : Heap} {locs : List Loc} {s0 : S_Mo} {out : Int32 × S_Mo} (X : Cx p s m args meth c prog_11_method_22_code 2 ws_Mo_check R_Mo (some .int) D g) (hl : lv_has ls 2 []) (hI : Iw D A (w_Mo g a0 s0 ++ (rest)) H) (hS : va_S A s.heap H locs) (h : B_Mo_check_25  s0 = some out) : W p l e (headSpec ws_Mo_check { frames := 6, cells := 0, slots := 0, locals := 150 }).room s m args below meth c H locs 0 0 (MQ below (QcI D A g out.1 (fun (_ : Unit) => w_Mo g a0 out.2 ++ (rest))) args s 0 0 A) (F0 m 25 ls []) := by
  have X1 := X
  obtain ⟨hx, hb, hml, hown, hts, hr, hlocks, hKK⟩ := X1
  have ht : ∀ w ∈ TB, w.before args s = true := fun w h => hts w (List.mem_cons_of_mem _ h)
  have hK := hKK.1
  unfold B_Mo_check_25 at h
  refine lv_iconst (v := 0) hx hb d_Mo_check_25 (by decide) ?_
  have h9 := Option.some.inj h
  subst h9
  exact W.iret (v := (0 : Int32)) hx hb hr (fun t ht hW => ⟨⟨_, (), rfl, rfl, ⟨by rw [ht]; exact hI, hKK.moved hW⟩⟩, hS.F ht⟩) hS.2.2 d_Mo_check_26
set_option maxRecDepth 100000 in
set_option maxHeartbeats 4000000 in
theorem t_Mo_check_15 {p : Program} {l : Launch} {e : Env} {s : State} {m : MethodId} {args : Array Value} {below : List Frame} {meth : Method} {c : Code} {D : va_G} {A : Nat → Prop} {g : Nat → ClassId} {rest : va_W} {a0 : Nat → Nat} {ls : Array Slot} {H : Heap} {locs : List Loc} {s0 : S_Mo} {x1 : Int32} {y0 : Int32} {out : Int32 × S_Mo} (X : Cx p s m args meth c prog_11_method_22_code 2 ws_Mo_check R_Mo (some .int) D g) (hl : lv_has ls 2 [(0, .ref (a0 0)), (1, .int x1)]) (hI : Iw D A (w_Mo g a0 s0 ++ (rest)) H) (hS : va_S A s.heap H locs) (h : B_Mo_check_15  s0 x1 y0 = some out) : W p l e (headSpec ws_Mo_check { frames := 6, cells := 0, slots := 0, locals := 150 }).room s m args below meth c H locs 0 0 (MQ below (QcI D A g out.1 (fun (_ : Unit) => w_Mo g a0 out.2 ++ (rest))) args s 0 0 A) (F0 m 15 ls [.int y0, .ref (a0 0)]) := by
  have X1 := X
  obtain ⟨hx, hb, hml, hown, hts, hr, hlocks, hKK⟩ := X1
  have ht : ∀ w ∈ TB, w.before args s = true := fun w h => hts w (List.mem_cons_of_mem _ h)
  have hK := hKK.1
  unfold B_Mo_check_15 at h
  refine pt_Mo_code hx hb ht hown hK hI hS (ht _ m_817) d_Mo_check_15 (fun H locs hI hS => ?_)
  refine lv_aload_n hx hb d_Mo_check_18 rfl (lv_at hl 0 rfl) ?_
  refine gt_Mo_code hx hb ht hown hK hI (ht _ m_817) d_Mo_check_19 ?_
  refine lv_if_le (tgt := 27) hx hb d_Mo_check_22 (by decide) (fun hc => ?_) (fun hc => ?_)
  · have h := it_t h hc
    exact t_Mo_check_27 X (lv_sub hl [0, 1] rfl) hI hS h
  · have h := it_f h hc
    exact t_Mo_check_25 X (lv_sub hl [] rfl) hI hS h
set_option maxRecDepth 100000 in
set_option maxHeartbeats 4000000 in
theorem t_Mo_check_14 {p : Program} {l : Launch} {e : Env} {s : State} {m : MethodId} {args : Array Value} {below : List Frame} {meth : Method} {c : Code} {D : va_G} {A : Nat → Prop} {g : Nat → ClassId} {rest : va_W} {a0 : Nat → Nat} {ls : Array Slot} {H : Heap} {locs : List Loc} {s0 : S_Mo} {x1 : Int32} {out : Int32 × S_Mo} (X : Cx p s m args meth c prog_11_method_22_code 2 ws_Mo_check R_Mo (some .int) D g) (hl : lv_has ls 2 [(0, .ref (a0 0)), (1, .int x1)]) (hI : Iw D A (w_Mo g a0 s0 ++ (rest)) H) (hS : va_S A s.heap H locs) (h : B_Mo_check_14  s0 x1 = some out) : W p l e (headSpec ws_Mo_check { frames := 6, cells := 0, slots := 0, locals := 150 }).room s m args below meth c H locs 0 0 (MQ below (QcI D A g out.1 (fun (_ : Unit) => w_Mo g a0 out.2 ++ (rest))) args s 0 0 A) (F0 m 14 ls [.ref (a0 0)]) := by
  have X1 := X
  obtain ⟨hx, hb, hml, hown, hts, hr, hlocks, hKK⟩ := X1
  have ht : ∀ w ∈ TB, w.before args s = true := fun w h => hts w (List.mem_cons_of_mem _ h)
  have hK := hKK.1
  unfold B_Mo_check_14 at h
  refine lv_iconst (v := 1) hx hb d_Mo_check_14 (by decide) ?_
  exact t_Mo_check_15 X (lv_sub hl [0, 1] rfl) hI hS h
set_option maxRecDepth 100000 in
set_option maxHeartbeats 4000000 in
theorem t_Mo_check_10 {p : Program} {l : Launch} {e : Env} {s : State} {m : MethodId} {args : Array Value} {below : List Frame} {meth : Method} {c : Code} {D : va_G} {A : Nat → Prop} {g : Nat → ClassId} {rest : va_W} {a0 : Nat → Nat} {ls : Array Slot} {H : Heap} {locs : List Loc} {s0 : S_Mo} {x1 : Int32} {out : Int32 × S_Mo} (X : Cx p s m args meth c prog_11_method_22_code 2 ws_Mo_check R_Mo (some .int) D g) (hl : lv_has ls 2 [(0, .ref (a0 0)), (1, .int x1)]) (hI : Iw D A (w_Mo g a0 s0 ++ (rest)) H) (hS : va_S A s.heap H locs) (h : B_Mo_check_10  s0 x1 = some out) : W p l e (headSpec ws_Mo_check { frames := 6, cells := 0, slots := 0, locals := 150 }).room s m args below meth c H locs 0 0 (MQ below (QcI D A g out.1 (fun (_ : Unit) => w_Mo g a0 out.2 ++ (rest))) args s 0 0 A) (F0 m 10 ls [.ref (a0 0)]) := by
  have X1 := X
  obtain ⟨hx, hb, hml, hown, hts, hr, hlocks, hKK⟩ := X1
  have ht : ∀ w ∈ TB, w.before args s = true := fun w h => hts w (List.mem_cons_of_mem _ h)
  have hK := hKK.1
  unfold B_Mo_check_10 at h
  refine lv_iconst (v := 0) hx hb d_Mo_check_10 (by decide) ?_
  refine lv_goto (tgt := 15) hx hb d_Mo_check_11 (by decide) ?_
  exact t_Mo_check_15 X (lv_sub hl [0, 1] rfl) hI hS h
set_option maxRecDepth 100000 in
set_option maxHeartbeats 4000000 in
theorem t_Mo_check_0 {p : Program} {l : Launch} {e : Env} {s : State} {m : MethodId} {args : Array Value} {below : List Frame} {meth : Method} {c : Code} {D : va_G} {A : Nat → Prop} {g : Nat → ClassId} {rest : va_W} {a0 : Nat → Nat} {ls : Array Slot} {H : Heap} {locs : List Loc} {s0 : S_Mo} {x1 : Int32} {out : Int32 × S_Mo} (X : Cx p s m args meth c prog_11_method_22_code 2 ws_Mo_check R_Mo (some .int) D g) (hl : lv_has ls 2 [(0, .ref (a0 0)), (1, .int x1)]) (hI : Iw D A (w_Mo g a0 s0 ++ (rest)) H) (hS : va_S A s.heap H locs) (h : B_Mo_check_0  s0 x1 = some out) : W p l e (headSpec ws_Mo_check { frames := 6, cells := 0, slots := 0, locals := 150 }).room s m args below meth c H locs 0 0 (MQ below (QcI D A g out.1 (fun (_ : Unit) => w_Mo g a0 out.2 ++ (rest))) args s 0 0 A) (F0 m 0 ls []) := by
  have X1 := X
  obtain ⟨hx, hb, hml, hown, hts, hr, hlocks, hKK⟩ := X1
  have ht : ∀ w ∈ TB, w.before args s = true := fun w h => hts w (List.mem_cons_of_mem _ h)
  have hK := hKK.1
  unfold B_Mo_check_0 at h
  refine lv_aload_n hx hb d_Mo_check_0 rfl (lv_at hl 0 rfl) ?_
  refine lv_iload_n hx hb d_Mo_check_1 rfl (lv_at hl 1 rfl) ?_
  refine lv_iconst (v := 0) hx hb d_Mo_check_2 (by decide) ?_
  refine lv_iconst (v := 1) hx hb d_Mo_check_3 (by decide) ?_
  obtain ⟨o1, ho2, h⟩ := bd_s h
  refine cl_i (W1 := fun (_ : Unit) => w_Mo g a0 s0 ++ (rest)) (va_runS (As := [.int x1, .int (0 : Int32), .int (1 : Int32)]) (rest := [.ref (a0 0)]) ⟨hx, hb, hml, hown, ht⟩ (c_Mo_in (l := l) (D := D) (A := A) (g := g) (rest := w_Mo g a0 s0 ++ (rest))  ho2) (va_cwS 3 ht (gd_S m_975 m_976 m_11 m_977) rfl rfl rfl (by decide +kernel) ⟨(Nat.le_of_ble_eq_true rfl), (Nat.le_of_ble_eq_true rfl)⟩) (prS hKK hI (List.Perm.refl _)) rfl rfl hl.1 rfl (lv_room (Nat.le_of_ble_eq_true rfl)) d_Mo_check_4 ⟨(Nat.le_of_ble_eq_true rfl), (Nat.le_of_ble_eq_true rfl)⟩) hS (fun _ => ((List.Perm.refl _)).symm) (fun _ H locs hI hS => ?_)
  have hI : Iw D A (w_Mo g a0 s0 ++ (rest)) H := hI
  refine lv_if_eq (tgt := 14) hx hb d_Mo_check_7 (by decide) (fun hc => ?_) (fun hc => ?_)
  · have h := it_t h hc
    exact t_Mo_check_14 X (lv_sub hl [0, 1] rfl) hI hS h
  · have h := it_f h hc
    exact t_Mo_check_10 X (lv_sub hl [0, 1] rfl) hI hS h
set_option maxRecDepth 100000 in
set_option maxHeartbeats 4000000 in
theorem c_Mo_check {l : Launch} {D : va_G} {A : Nat → Prop} {g : Nat → ClassId} {rest : va_W} {a0 : Nat → Nat} {s0 : S_Mo} {x1 : Int32} {out : Int32 × S_Mo} (h : F_Mo_check s0 x1 = some out) : Met l y_Mo_check ws_Mo_check { frames := 6, cells := 0, slots := 0, locals := 150 } (PcW D A g [.ref (a0 0), .int x1] (w_Mo g a0 s0 ++ (rest))) (QcI D A g out.1 (fun (_ : Unit) => w_Mo g a0 out.2 ++ (rest))) 0 0 A := by
  refine Met.ofW (cc := prog_11_method_22_code) (maxL := 2) (ret := (some .int)) (by decide) rfl ?_
  intro p e s m args below meth c s₁ B hml hv
  obtain ⟨rfl, hI, hK⟩ := hv
  have hl := lv_entry [.ref (a0 0), .int x1] (n := 2) (Nat.le_of_ble_eq_true rfl)
  rw [lg_entry_eq]
  generalize (lg_sl [.ref (a0 0), .int x1] ++ List.replicate (2 - (lg_sl [.ref (a0 0), .int x1]).length) Slot.unset).toArray = ls at hl ⊢
  have hl : lv_has ls 2 [(0, .ref (a0 0)), (1, .int x1)] := hl
  exact t_Mo_check_0 ⟨B.exec, B.bytes, hml, findClass_of_methodNamed B.named, atoms_spec (ws := ws_Mo_check) B.pre, B.returns, B.notSynchronized, hK⟩ (lv_sub hl [0, 1] rfl) hI va_S.rf h
def ws_Mo_load : List Cond := .code y_Mo_load prog_11_method_46_code 3 none :: TB
def B_Mo_load_36 (s0 : S_Mo) (x1 : Int32) : Option S_Mo :=
  (if (x1 < 0 ∨ 8 ≤ x1.toNatClampNeg) then none else ((F_Mo_read s0 (1 : Int32) ((Mo_lengths s0) x1.toNatClampNeg) (0 : Int32)).bind fun o2 => some o2.2))
def B_Mo_load_12 (k2 : S_Mo × Int32 × Int32 → Option S_Mo) (s0 : S_Mo) (x1 : Int32) (x2 : Int32) : Option S_Mo :=
  (if ((((200 : Int32) * x1) + x2) < 0 ∨ 1600 ≤ (((200 : Int32) * x1) + x2).toNatClampNeg) then none else (if (x2 < 0 ∨ 240 ≤ x2.toNatClampNeg) then none else (k2 ((Mo_set_source s0 (upd (Mo_source s0) x2.toNatClampNeg ((Mo_kept s0) (((200 : Int32) * x1) + x2).toNatClampNeg))), x1, (x2 + 1)))))
def B_Mo_load_2 (k2 : S_Mo × Int32 × Int32 → Option S_Mo) (s0 : S_Mo) (x1 : Int32) (x2 : Int32) : Option S_Mo :=
  (if (x1 < 0 ∨ 8 ≤ x1.toNatClampNeg) then none else (if ((Mo_lengths s0) x1.toNatClampNeg) ≤ x2 then (B_Mo_load_36 s0 x1) else (B_Mo_load_12 k2 s0 x1 x2)))
def L_Mo_load_2 (v : S_Mo × Int32 × Int32) : Option S_Mo := lp (fun k2 v => B_Mo_load_2  k2  v.1 v.2.1 v.2.2) FU v
def B_Mo_load_0 (s0 : S_Mo) (x1 : Int32) : Option S_Mo :=
  (L_Mo_load_2 (s0, x1, (0 : Int32)))
def F_Mo_load (s0 : S_Mo) (x1 : Int32) : Option S_Mo := B_Mo_load_0 s0 x1
set_option maxRecDepth 100000 in
set_option maxHeartbeats 4000000 in
theorem t_Mo_load_36 {p : Program} {l : Launch} {e : Env} {s : State} {m : MethodId} {args : Array Value} {below : List Frame} {meth : Method} {c : Code} {D : va_G} {A : Nat → Prop} {g : Nat → ClassId} {rest : va_W} {a0 : Nat → Nat} {ls : Array Slot} {H : Heap} {locs : List Loc} {s0 : S_Mo} {x1 : Int32} {out : S_Mo} (X : Cx p s m args meth c prog_11_method_46_code 3 ws_Mo_load R_Mo none D g) (hl : lv_has ls 3 [(0, .ref (a0 0)), (1, .int x1)]) (hI : Iw D A (w_Mo g a0 s0 ++ (rest)) H) (hS : va_S A s.heap H locs) (h : B_Mo_load_36  s0 x1 = some out) : W p l e (headSpec ws_Mo_load { frames := 5, cells := 0, slots := 0, locals := 128 }).room s m args below meth c H locs 0 0 (MQ below (QcV D A g (fun (_ : Unit) => w_Mo g a0 out ++ (rest))) args s 0 0 A) (F0 m 36 ls []) := by
  have X1 := X
  obtain ⟨hx, hb, hml, hown, hts, hr, hlocks, hKK⟩ := X1
  have ht : ∀ w ∈ TB, w.before args s = true := fun w h => hts w (List.mem_cons_of_mem _ h)
  have hK := hKK.1
  unfold B_Mo_load_36 at h
  refine lv_aload_n hx hb d_Mo_load_36 rfl (lv_at hl 0 rfl) ?_
  refine lv_iconst (v := 1) hx hb d_Mo_load_37 (by decide) ?_
  refine lv_aload_n hx hb d_Mo_load_38 rfl (lv_at hl 0 rfl) ?_
  refine gt_Mo_lengths hx hb ht hown hK hI (ht _ m_865) d_Mo_load_39 ?_
  refine lv_iload_n hx hb d_Mo_load_42 rfl (lv_at hl 1 rfl) ?_
  by_cases hc1 : (x1 < 0 ∨ 8 ≤ x1.toNatClampNeg)
  · exact no_s (it_t h hc1)
  have h := it_f h hc1
  refine al_Mo_lengths hx hb hK hI hc1 d_Mo_load_43 ?_
  refine lv_iconst (v := 0) hx hb d_Mo_load_44 (by decide) ?_
  obtain ⟨o2, ho3, h⟩ := bd_s h
  refine cl_i (W1 := fun (_ : Unit) => w_Mo g a0 o2.2 ++ (rest)) (va_runV (As := [.int (1 : Int32), .int ((Mo_lengths s0) x1.toNatClampNeg), .int (0 : Int32)]) (rest := []) ⟨hx, hb, hml, hown, ht⟩ (c_Mo_read (l := l) (D := D) (A := A) (g := g) (rest := rest) (a0 := a0) ho3) (cwV 3 ht (gd_V m_991 m_993 mp_38 m_11 m_994) rfl rfl rfl (by decide +kernel) ⟨(Nat.le_of_ble_eq_true rfl), (Nat.le_of_ble_eq_true rfl)⟩) (prV (ci := 9) (q0 := 0) hKK hI (List.Perm.refl _) rfl rfl rfl) rfl rfl hl.1 rfl (lv_room (Nat.le_of_ble_eq_true rfl)) d_Mo_load_45 ⟨(Nat.le_of_ble_eq_true rfl), (Nat.le_of_ble_eq_true rfl)⟩) hS (fun _ => ((List.Perm.refl _)).symm) (fun _ H locs hI hS => ?_)
  have hI : Iw D A (w_Mo g a0 o2.2 ++ (rest)) H := hI
  refine lv_pop hx hb d_Mo_load_48 rfl ?_
  have h9 := Option.some.inj h
  subst h9
  exact W.vret hx hb hr (fun t ht hW => ⟨⟨(), rfl, trivial, ⟨by rw [ht]; exact hI, hKK.moved hW⟩⟩, hS.F ht⟩) hS.2.2 d_Mo_load_49
set_option maxRecDepth 100000 in
set_option maxHeartbeats 4000000 in
theorem t_Mo_load_12 {p : Program} {l : Launch} {e : Env} {s : State} {m : MethodId} {args : Array Value} {below : List Frame} {meth : Method} {c : Code} {D : va_G} {A : Nat → Prop} {g : Nat → ClassId} {rest : va_W} {a0 : Nat → Nat} {ls : Array Slot} {H : Heap} {locs : List Loc} {k2 : S_Mo × Int32 × Int32 → Option S_Mo} {s0 : S_Mo} {x1 : Int32} {x2 : Int32} {out : S_Mo} (X : Cx p s m args meth c prog_11_method_46_code 3 ws_Mo_load R_Mo none D g) (hk2 : ∀ (v : S_Mo × Int32 × Int32) (ls : Array Slot) (H : Heap) (locs : List Loc), lv_has ls 3 [(0, .ref (a0 0)), (1, .int v.2.1), (2, .int v.2.2)] → Iw D A (w_Mo g a0 v.1 ++ (rest)) H → va_S A s.heap H locs → k2 v = some out → W p l e (headSpec ws_Mo_load { frames := 5, cells := 0, slots := 0, locals := 128 }).room s m args below meth c H locs 0 0 (MQ below (QcV D A g (fun (_ : Unit) => w_Mo g a0 out ++ (rest))) args s 0 0 A) (F0 m 2 ls [])) (hl : lv_has ls 3 [(0, .ref (a0 0)), (1, .int x1), (2, .int x2)]) (hI : Iw D A (w_Mo g a0 s0 ++ (rest)) H) (hS : va_S A s.heap H locs) (h : B_Mo_load_12 k2 s0 x1 x2 = some out) : W p l e (headSpec ws_Mo_load { frames := 5, cells := 0, slots := 0, locals := 128 }).room s m args below meth c H locs 0 0 (MQ below (QcV D A g (fun (_ : Unit) => w_Mo g a0 out ++ (rest))) args s 0 0 A) (F0 m 12 ls []) := by
  have X1 := X
  obtain ⟨hx, hb, hml, hown, hts, hr, hlocks, hKK⟩ := X1
  have ht : ∀ w ∈ TB, w.before args s = true := fun w h => hts w (List.mem_cons_of_mem _ h)
  have hK := hKK.1
  unfold B_Mo_load_12 at h
  refine lv_aload_n hx hb d_Mo_load_12 rfl (lv_at hl 0 rfl) ?_
  refine gt_Mo_source hx hb ht hown hK hI (ht _ m_820) d_Mo_load_13 ?_
  refine lv_iload_n hx hb d_Mo_load_16 rfl (lv_at hl 2 rfl) ?_
  refine lv_aload_n hx hb d_Mo_load_17 rfl (lv_at hl 0 rfl) ?_
  refine gt_Mo_kept hx hb ht hown hK hI (ht _ m_864) d_Mo_load_18 ?_
  refine lv_sipush (v := 200) hx hb d_Mo_load_21 (by decide) ?_
  refine lv_iload_n hx hb d_Mo_load_24 rfl (lv_at hl 1 rfl) ?_
  refine lv_imul hx hb d_Mo_load_25 ?_
  refine lv_iload_n hx hb d_Mo_load_26 rfl (lv_at hl 2 rfl) ?_
  refine lv_iadd hx hb d_Mo_load_27 ?_
  by_cases hc1 : ((((200 : Int32) * x1) + x2) < 0 ∨ 1600 ≤ (((200 : Int32) * x1) + x2).toNatClampNeg)
  · exact no_s (it_t h hc1)
  have h := it_f h hc1
  refine al_Mo_kept hx hb hK hI hc1 d_Mo_load_28 ?_
  by_cases hc2 : (x2 < 0 ∨ 240 ≤ x2.toNatClampNeg)
  · exact no_s (it_t h hc2)
  have h := it_f h hc2
  refine as_Mo_source hx hb hK hI hS hc2 d_Mo_load_29 (fun H locs hI hS => ?_)
  refine lv_iinc (k := 2) (v := (x2 + 1)) hx hb d_Mo_load_30 hl rfl (congrArg (fun z => x2 + z) (by decide)) (Nat.le_of_ble_eq_true rfl) rfl (fun ls hl => ?_)
  have hl : lv_has ls 3 [(2, .int (x2 + 1)), (0, .ref (a0 0)), (1, .int x1)] := hl
  refine lv_goto (tgt := 2) hx hb d_Mo_load_33 (by decide) ?_
  exact hk2 ((Mo_set_source s0 (upd (Mo_source s0) x2.toNatClampNeg ((Mo_kept s0) (((200 : Int32) * x1) + x2).toNatClampNeg))), x1, (x2 + 1)) _ _ _ (lv_sub hl [1, 2, 0] rfl) hI hS h
set_option maxRecDepth 100000 in
set_option maxHeartbeats 4000000 in
theorem t_Mo_load_2 {p : Program} {l : Launch} {e : Env} {s : State} {m : MethodId} {args : Array Value} {below : List Frame} {meth : Method} {c : Code} {D : va_G} {A : Nat → Prop} {g : Nat → ClassId} {rest : va_W} {a0 : Nat → Nat} {ls : Array Slot} {H : Heap} {locs : List Loc} {k2 : S_Mo × Int32 × Int32 → Option S_Mo} {s0 : S_Mo} {x1 : Int32} {x2 : Int32} {out : S_Mo} (X : Cx p s m args meth c prog_11_method_46_code 3 ws_Mo_load R_Mo none D g) (hk2 : ∀ (v : S_Mo × Int32 × Int32) (ls : Array Slot) (H : Heap) (locs : List Loc), lv_has ls 3 [(0, .ref (a0 0)), (1, .int v.2.1), (2, .int v.2.2)] → Iw D A (w_Mo g a0 v.1 ++ (rest)) H → va_S A s.heap H locs → k2 v = some out → W p l e (headSpec ws_Mo_load { frames := 5, cells := 0, slots := 0, locals := 128 }).room s m args below meth c H locs 0 0 (MQ below (QcV D A g (fun (_ : Unit) => w_Mo g a0 out ++ (rest))) args s 0 0 A) (F0 m 2 ls [])) (hl : lv_has ls 3 [(0, .ref (a0 0)), (1, .int x1), (2, .int x2)]) (hI : Iw D A (w_Mo g a0 s0 ++ (rest)) H) (hS : va_S A s.heap H locs) (h : B_Mo_load_2 k2 s0 x1 x2 = some out) : W p l e (headSpec ws_Mo_load { frames := 5, cells := 0, slots := 0, locals := 128 }).room s m args below meth c H locs 0 0 (MQ below (QcV D A g (fun (_ : Unit) => w_Mo g a0 out ++ (rest))) args s 0 0 A) (F0 m 2 ls []) := by
  have X1 := X
  obtain ⟨hx, hb, hml, hown, hts, hr, hlocks, hKK⟩ := X1
  have ht : ∀ w ∈ TB, w.before args s = true := fun w h => hts w (List.mem_cons_of_mem _ h)
  have hK := hKK.1
  unfold B_Mo_load_2 at h
  refine lv_iload_n hx hb d_Mo_load_2 rfl (lv_at hl 2 rfl) ?_
  refine lv_aload_n hx hb d_Mo_load_3 rfl (lv_at hl 0 rfl) ?_
  refine gt_Mo_lengths hx hb ht hown hK hI (ht _ m_865) d_Mo_load_4 ?_
  refine lv_iload_n hx hb d_Mo_load_7 rfl (lv_at hl 1 rfl) ?_
  by_cases hc1 : (x1 < 0 ∨ 8 ≤ x1.toNatClampNeg)
  · exact no_s (it_t h hc1)
  have h := it_f h hc1
  refine al_Mo_lengths hx hb hK hI hc1 d_Mo_load_8 ?_
  refine lv_icmp_ge (tgt := 36) hx hb d_Mo_load_9 (by decide) (fun hc => ?_) (fun hc => ?_)
  · have h := it_t h hc
    exact t_Mo_load_36 X (lv_sub hl [0, 1] rfl) hI hS h
  · have h := it_f h hc
    exact t_Mo_load_12 X hk2 (lv_sub hl [0, 1, 2] rfl) hI hS h
set_option maxRecDepth 100000 in
set_option maxHeartbeats 4000000 in
theorem T_Mo_load_2 {p : Program} {l : Launch} {e : Env} {s : State} {m : MethodId} {args : Array Value} {below : List Frame} {meth : Method} {c : Code} {D : va_G} {A : Nat → Prop} {g : Nat → ClassId} {rest : va_W} {a0 : Nat → Nat} {ls : Array Slot} {H : Heap} {locs : List Loc} {s0 : S_Mo} {x1 : Int32} {x2 : Int32} {out : S_Mo} (X : Cx p s m args meth c prog_11_method_46_code 3 ws_Mo_load R_Mo none D g) (hl : lv_has ls 3 [(0, .ref (a0 0)), (1, .int x1), (2, .int x2)]) (hI : Iw D A (w_Mo g a0 s0 ++ (rest)) H) (hS : va_S A s.heap H locs) (h : L_Mo_load_2   (s0, x1, x2) = some out) : W p l e (headSpec ws_Mo_load { frames := 5, cells := 0, slots := 0, locals := 128 }).room s m args below meth c H locs 0 0 (MQ below (QcV D A g (fun (_ : Unit) => w_Mo g a0 out ++ (rest))) args s 0 0 A) (F0 m 2 ls []) := by
  unfold L_Mo_load_2 at h
  exact lp_ind (P := fun v => ∀ (ls : Array Slot) (H : Heap) (locs : List Loc), lv_has ls 3 [(0, .ref (a0 0)), (1, .int v.2.1), (2, .int v.2.2)] → Iw D A (w_Mo g a0 v.1 ++ (rest)) H → va_S A s.heap H locs → W p l e (headSpec ws_Mo_load { frames := 5, cells := 0, slots := 0, locals := 128 }).room s m args below meth c H locs 0 0 (MQ below (QcV D A g (fun (_ : Unit) => w_Mo g a0 out ++ (rest))) args s 0 0 A) (F0 m 2 ls [])) (fun k v ih hb ls H locs  hl hI hS => t_Mo_load_2 X  (fun v' ls H locs  hl hI hS h' => ih v' h' ls H locs  hl hI hS) hl hI hS hb) FU _ h ls H locs  hl hI hS
set_option maxRecDepth 100000 in
set_option maxHeartbeats 4000000 in
theorem t_Mo_load_0 {p : Program} {l : Launch} {e : Env} {s : State} {m : MethodId} {args : Array Value} {below : List Frame} {meth : Method} {c : Code} {D : va_G} {A : Nat → Prop} {g : Nat → ClassId} {rest : va_W} {a0 : Nat → Nat} {ls : Array Slot} {H : Heap} {locs : List Loc} {s0 : S_Mo} {x1 : Int32} {out : S_Mo} (X : Cx p s m args meth c prog_11_method_46_code 3 ws_Mo_load R_Mo none D g) (hl : lv_has ls 3 [(0, .ref (a0 0)), (1, .int x1)]) (hI : Iw D A (w_Mo g a0 s0 ++ (rest)) H) (hS : va_S A s.heap H locs) (h : B_Mo_load_0  s0 x1 = some out) : W p l e (headSpec ws_Mo_load { frames := 5, cells := 0, slots := 0, locals := 128 }).room s m args below meth c H locs 0 0 (MQ below (QcV D A g (fun (_ : Unit) => w_Mo g a0 out ++ (rest))) args s 0 0 A) (F0 m 0 ls []) := by
  have X1 := X
  obtain ⟨hx, hb, hml, hown, hts, hr, hlocks, hKK⟩ := X1
  have ht : ∀ w ∈ TB, w.before args s = true := fun w h => hts w (List.mem_cons_of_mem _ h)
  have hK := hKK.1
  unfold B_Mo_load_0 at h
  refine lv_iconst (v := 0) hx hb d_Mo_load_0 (by decide) ?_
  refine lv_istore_n hx hb d_Mo_load_1 rfl hl (Nat.le_of_ble_eq_true rfl) rfl (fun ls hl => ?_)
  have hl : lv_has ls 3 [(2, .int (0 : Int32)), (0, .ref (a0 0)), (1, .int x1)] := hl
  exact T_Mo_load_2 X (lv_sub hl [1, 2, 0] rfl) hI hS h
set_option maxRecDepth 100000 in
set_option maxHeartbeats 4000000 in
theorem c_Mo_load {l : Launch} {D : va_G} {A : Nat → Prop} {g : Nat → ClassId} {rest : va_W} {a0 : Nat → Nat} {s0 : S_Mo} {x1 : Int32} {out : S_Mo} (h : F_Mo_load s0 x1 = some out) : Met l y_Mo_load ws_Mo_load { frames := 5, cells := 0, slots := 0, locals := 128 } (PcW D A g [.ref (a0 0), .int x1] (w_Mo g a0 s0 ++ (rest))) (QcV D A g (fun (_ : Unit) => w_Mo g a0 out ++ (rest))) 0 0 A := by
  refine Met.ofW (cc := prog_11_method_46_code) (maxL := 3) (ret := none) (by decide) rfl ?_
  intro p e s m args below meth c s₁ B hml hv
  obtain ⟨rfl, hI, hK⟩ := hv
  have hl := lv_entry [.ref (a0 0), .int x1] (n := 3) (Nat.le_of_ble_eq_true rfl)
  rw [lg_entry_eq]
  generalize (lg_sl [.ref (a0 0), .int x1] ++ List.replicate (3 - (lg_sl [.ref (a0 0), .int x1]).length) Slot.unset).toArray = ls at hl ⊢
  have hl : lv_has ls 3 [(0, .ref (a0 0)), (1, .int x1)] := hl
  exact t_Mo_load_0 ⟨B.exec, B.bytes, hml, findClass_of_methodNamed B.named, atoms_spec (ws := ws_Mo_load) B.pre, B.returns, B.notSynchronized, hK⟩ (lv_sub hl [0, 1] rfl) hI va_S.rf h
