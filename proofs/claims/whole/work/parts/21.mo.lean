theorem d_Mo_add_0 : decode prog_11_method_6_code 0 = .ok (.sipush 130, 3) := by decide +kernel
theorem d_Mo_add_3 : decode prog_11_method_6_code 3 = .ok (.iload_n 1, 1) := by decide +kernel
theorem d_Mo_add_4 : decode prog_11_method_6_code 4 = .ok (.imul, 1) := by decide +kernel
theorem d_Mo_add_5 : decode prog_11_method_6_code 5 = .ok (.aload_n 0, 1) := by decide +kernel
theorem d_Mo_add_6 : decode prog_11_method_6_code 6 = .ok (.getfield 16, 3) := by decide +kernel
theorem d_Mo_add_9 : decode prog_11_method_6_code 9 = .ok (.iload_n 1, 1) := by decide +kernel
theorem d_Mo_add_10 : decode prog_11_method_6_code 10 = .ok (.iaload, 1) := by decide +kernel
theorem d_Mo_add_11 : decode prog_11_method_6_code 11 = .ok (.iadd, 1) := by decide +kernel
theorem d_Mo_add_12 : decode prog_11_method_6_code 12 = .ok (.istore 4, 2) := by decide +kernel
theorem d_Mo_add_14 : decode prog_11_method_6_code 14 = .ok (.aload_n 0, 1) := by decide +kernel
theorem d_Mo_add_15 : decode prog_11_method_6_code 15 = .ok (.getfield 16, 3) := by decide +kernel
theorem d_Mo_add_18 : decode prog_11_method_6_code 18 = .ok (.iload_n 1, 1) := by decide +kernel
theorem d_Mo_add_19 : decode prog_11_method_6_code 19 = .ok (.dup2, 1) := by decide +kernel
theorem d_Mo_add_20 : decode prog_11_method_6_code 20 = .ok (.iaload, 1) := by decide +kernel
theorem d_Mo_add_21 : decode prog_11_method_6_code 21 = .ok (.iconst 1, 1) := by decide +kernel
theorem d_Mo_add_22 : decode prog_11_method_6_code 22 = .ok (.iadd, 1) := by decide +kernel
theorem d_Mo_add_23 : decode prog_11_method_6_code 23 = .ok (.iastore, 1) := by decide +kernel
theorem d_Mo_add_24 : decode prog_11_method_6_code 24 = .ok (.aload_n 0, 1) := by decide +kernel
theorem d_Mo_add_25 : decode prog_11_method_6_code 25 = .ok (.getfield 19, 3) := by decide +kernel
theorem d_Mo_add_28 : decode prog_11_method_6_code 28 = .ok (.iload 4, 2) := by decide +kernel
theorem d_Mo_add_30 : decode prog_11_method_6_code 30 = .ok (.iload_n 2, 1) := by decide +kernel
theorem d_Mo_add_31 : decode prog_11_method_6_code 31 = .ok (.iastore, 1) := by decide +kernel
theorem d_Mo_add_32 : decode prog_11_method_6_code 32 = .ok (.aload_n 0, 1) := by decide +kernel
theorem d_Mo_add_33 : decode prog_11_method_6_code 33 = .ok (.getfield 22, 3) := by decide +kernel
theorem d_Mo_add_36 : decode prog_11_method_6_code 36 = .ok (.iload 4, 2) := by decide +kernel
theorem d_Mo_add_38 : decode prog_11_method_6_code 38 = .ok (.iconst 0, 1) := by decide +kernel
theorem d_Mo_add_39 : decode prog_11_method_6_code 39 = .ok (.iastore, 1) := by decide +kernel
theorem d_Mo_add_40 : decode prog_11_method_6_code 40 = .ok (.aload_n 0, 1) := by decide +kernel
theorem d_Mo_add_41 : decode prog_11_method_6_code 41 = .ok (.getfield 25, 3) := by decide +kernel
theorem d_Mo_add_44 : decode prog_11_method_6_code 44 = .ok (.iload 4, 2) := by decide +kernel
theorem d_Mo_add_46 : decode prog_11_method_6_code 46 = .ok (.iconst 0, 1) := by decide +kernel
theorem d_Mo_add_47 : decode prog_11_method_6_code 47 = .ok (.iastore, 1) := by decide +kernel
theorem d_Mo_add_48 : decode prog_11_method_6_code 48 = .ok (.aload_n 0, 1) := by decide +kernel
theorem d_Mo_add_49 : decode prog_11_method_6_code 49 = .ok (.getfield 31, 3) := by decide +kernel
theorem d_Mo_add_52 : decode prog_11_method_6_code 52 = .ok (.iload 4, 2) := by decide +kernel
theorem d_Mo_add_54 : decode prog_11_method_6_code 54 = .ok (.iload_n 3, 1) := by decide +kernel
theorem d_Mo_add_55 : decode prog_11_method_6_code 55 = .ok (.iastore, 1) := by decide +kernel
theorem d_Mo_add_56 : decode prog_11_method_6_code 56 = .ok (.aload_n 0, 1) := by decide +kernel
theorem d_Mo_add_57 : decode prog_11_method_6_code 57 = .ok (.getfield 34, 3) := by decide +kernel
theorem d_Mo_add_60 : decode prog_11_method_6_code 60 = .ok (.iload 4, 2) := by decide +kernel
theorem d_Mo_add_62 : decode prog_11_method_6_code 62 = .ok (.iconst (-1), 1) := by decide +kernel
theorem d_Mo_add_63 : decode prog_11_method_6_code 63 = .ok (.iastore, 1) := by decide +kernel
theorem d_Mo_add_64 : decode prog_11_method_6_code 64 = .ok (.aload_n 0, 1) := by decide +kernel
theorem d_Mo_add_65 : decode prog_11_method_6_code 65 = .ok (.getfield 37, 3) := by decide +kernel
theorem d_Mo_add_68 : decode prog_11_method_6_code 68 = .ok (.iload 4, 2) := by decide +kernel
theorem d_Mo_add_70 : decode prog_11_method_6_code 70 = .ok (.iconst (-1), 1) := by decide +kernel
theorem d_Mo_add_71 : decode prog_11_method_6_code 71 = .ok (.iastore, 1) := by decide +kernel
theorem d_Mo_add_72 : decode prog_11_method_6_code 72 = .ok (.aload_n 0, 1) := by decide +kernel
theorem d_Mo_add_73 : decode prog_11_method_6_code 73 = .ok (.getfield 40, 3) := by decide +kernel
theorem d_Mo_add_76 : decode prog_11_method_6_code 76 = .ok (.iload 4, 2) := by decide +kernel
theorem d_Mo_add_78 : decode prog_11_method_6_code 78 = .ok (.iconst (-1), 1) := by decide +kernel
theorem d_Mo_add_79 : decode prog_11_method_6_code 79 = .ok (.iastore, 1) := by decide +kernel
theorem d_Mo_add_80 : decode prog_11_method_6_code 80 = .ok (.aload_n 0, 1) := by decide +kernel
theorem d_Mo_add_81 : decode prog_11_method_6_code 81 = .ok (.getfield 43, 3) := by decide +kernel
theorem d_Mo_add_84 : decode prog_11_method_6_code 84 = .ok (.iload 4, 2) := by decide +kernel
theorem d_Mo_add_86 : decode prog_11_method_6_code 86 = .ok (.iconst 0, 1) := by decide +kernel
theorem d_Mo_add_87 : decode prog_11_method_6_code 87 = .ok (.iastore, 1) := by decide +kernel
theorem d_Mo_add_88 : decode prog_11_method_6_code 88 = .ok (.iload_n 3, 1) := by decide +kernel
theorem d_Mo_add_89 : decode prog_11_method_6_code 89 = .ok (.ifCond .ge 6, 3) := by decide +kernel
theorem d_Mo_add_92 : decode prog_11_method_6_code 92 = .ok (.iload 4, 2) := by decide +kernel
theorem d_Mo_add_94 : decode prog_11_method_6_code 94 = .ok (.ireturn, 1) := by decide +kernel
theorem d_Mo_add_95 : decode prog_11_method_6_code 95 = .ok (.aload_n 0, 1) := by decide +kernel
theorem d_Mo_add_96 : decode prog_11_method_6_code 96 = .ok (.getfield 43, 3) := by decide +kernel
theorem d_Mo_add_99 : decode prog_11_method_6_code 99 = .ok (.iload_n 3, 1) := by decide +kernel
theorem d_Mo_add_100 : decode prog_11_method_6_code 100 = .ok (.iaload, 1) := by decide +kernel
theorem d_Mo_add_101 : decode prog_11_method_6_code 101 = .ok (.ifCond .ne 14, 3) := by decide +kernel
theorem d_Mo_add_104 : decode prog_11_method_6_code 104 = .ok (.aload_n 0, 1) := by decide +kernel
theorem d_Mo_add_105 : decode prog_11_method_6_code 105 = .ok (.getfield 34, 3) := by decide +kernel
theorem d_Mo_add_108 : decode prog_11_method_6_code 108 = .ok (.iload_n 3, 1) := by decide +kernel
theorem d_Mo_add_109 : decode prog_11_method_6_code 109 = .ok (.iload 4, 2) := by decide +kernel
theorem d_Mo_add_111 : decode prog_11_method_6_code 111 = .ok (.iastore, 1) := by decide +kernel
theorem d_Mo_add_112 : decode prog_11_method_6_code 112 = .ok (.goto 16, 3) := by decide +kernel
theorem d_Mo_add_115 : decode prog_11_method_6_code 115 = .ok (.aload_n 0, 1) := by decide +kernel
theorem d_Mo_add_116 : decode prog_11_method_6_code 116 = .ok (.getfield 37, 3) := by decide +kernel
theorem d_Mo_add_119 : decode prog_11_method_6_code 119 = .ok (.aload_n 0, 1) := by decide +kernel
theorem d_Mo_add_120 : decode prog_11_method_6_code 120 = .ok (.getfield 40, 3) := by decide +kernel
theorem d_Mo_add_123 : decode prog_11_method_6_code 123 = .ok (.iload_n 3, 1) := by decide +kernel
theorem d_Mo_add_124 : decode prog_11_method_6_code 124 = .ok (.iaload, 1) := by decide +kernel
theorem d_Mo_add_125 : decode prog_11_method_6_code 125 = .ok (.iload 4, 2) := by decide +kernel
theorem d_Mo_add_127 : decode prog_11_method_6_code 127 = .ok (.iastore, 1) := by decide +kernel
theorem d_Mo_add_128 : decode prog_11_method_6_code 128 = .ok (.aload_n 0, 1) := by decide +kernel
theorem d_Mo_add_129 : decode prog_11_method_6_code 129 = .ok (.getfield 40, 3) := by decide +kernel
theorem d_Mo_add_132 : decode prog_11_method_6_code 132 = .ok (.iload_n 3, 1) := by decide +kernel
theorem d_Mo_add_133 : decode prog_11_method_6_code 133 = .ok (.iload 4, 2) := by decide +kernel
theorem d_Mo_add_135 : decode prog_11_method_6_code 135 = .ok (.iastore, 1) := by decide +kernel
theorem d_Mo_add_136 : decode prog_11_method_6_code 136 = .ok (.aload_n 0, 1) := by decide +kernel
theorem d_Mo_add_137 : decode prog_11_method_6_code 137 = .ok (.getfield 43, 3) := by decide +kernel
theorem d_Mo_add_140 : decode prog_11_method_6_code 140 = .ok (.iload_n 3, 1) := by decide +kernel
theorem d_Mo_add_141 : decode prog_11_method_6_code 141 = .ok (.dup2, 1) := by decide +kernel
theorem d_Mo_add_142 : decode prog_11_method_6_code 142 = .ok (.iaload, 1) := by decide +kernel
theorem d_Mo_add_143 : decode prog_11_method_6_code 143 = .ok (.iconst 1, 1) := by decide +kernel
theorem d_Mo_add_144 : decode prog_11_method_6_code 144 = .ok (.iadd, 1) := by decide +kernel
theorem d_Mo_add_145 : decode prog_11_method_6_code 145 = .ok (.iastore, 1) := by decide +kernel
theorem d_Mo_add_146 : decode prog_11_method_6_code 146 = .ok (.iload 4, 2) := by decide +kernel
theorem d_Mo_add_148 : decode prog_11_method_6_code 148 = .ok (.ireturn, 1) := by decide +kernel
theorem d_Mo_spelled_0 : decode prog_11_method_13_code 0 = .ok (.iload_n 3, 1) := by decide +kernel
theorem d_Mo_spelled_1 : decode prog_11_method_13_code 1 = .ok (.ifCond .le 27, 3) := by decide +kernel
theorem d_Mo_spelled_4 : decode prog_11_method_13_code 4 = .ok (.aload_n 0, 1) := by decide +kernel
theorem d_Mo_spelled_5 : decode prog_11_method_13_code 5 = .ok (.getfield 13, 3) := by decide +kernel
theorem d_Mo_spelled_8 : decode prog_11_method_13_code 8 = .ok (.aload_n 0, 1) := by decide +kernel
theorem d_Mo_spelled_9 : decode prog_11_method_13_code 9 = .ok (.getfield 114, 3) := by decide +kernel
theorem d_Mo_spelled_12 : decode prog_11_method_13_code 12 = .ok (.iload_n 3, 1) := by decide +kernel
theorem d_Mo_spelled_13 : decode prog_11_method_13_code 13 = .ok (.iadd, 1) := by decide +kernel
theorem d_Mo_spelled_14 : decode prog_11_method_13_code 14 = .ok (.iconst 1, 1) := by decide +kernel
theorem d_Mo_spelled_15 : decode prog_11_method_13_code 15 = .ok (.isub, 1) := by decide +kernel
theorem d_Mo_spelled_16 : decode prog_11_method_13_code 16 = .ok (.iaload, 1) := by decide +kernel
theorem d_Mo_spelled_17 : decode prog_11_method_13_code 17 = .ok (.bipush 32, 2) := by decide +kernel
theorem d_Mo_spelled_19 : decode prog_11_method_13_code 19 = .ok (.if_icmp .ne 9, 3) := by decide +kernel
theorem d_Mo_spelled_22 : decode prog_11_method_13_code 22 = .ok (.iload_n 3, 1) := by decide +kernel
theorem d_Mo_spelled_23 : decode prog_11_method_13_code 23 = .ok (.iconst 1, 1) := by decide +kernel
theorem d_Mo_spelled_24 : decode prog_11_method_13_code 24 = .ok (.isub, 1) := by decide +kernel
theorem d_Mo_spelled_25 : decode prog_11_method_13_code 25 = .ok (.goto 4, 3) := by decide +kernel
theorem d_Mo_spelled_28 : decode prog_11_method_13_code 28 = .ok (.iload_n 3, 1) := by decide +kernel
theorem d_Mo_spelled_29 : decode prog_11_method_13_code 29 = .ok (.istore 4, 2) := by decide +kernel
theorem d_Mo_spelled_31 : decode prog_11_method_13_code 31 = .ok (.iload 4, 2) := by decide +kernel
theorem d_Mo_spelled_33 : decode prog_11_method_13_code 33 = .ok (.ifCond .eq 22, 3) := by decide +kernel
theorem d_Mo_spelled_36 : decode prog_11_method_13_code 36 = .ok (.aload_n 0, 1) := by decide +kernel
theorem d_Mo_spelled_37 : decode prog_11_method_13_code 37 = .ok (.getfield 13, 3) := by decide +kernel
theorem d_Mo_spelled_40 : decode prog_11_method_13_code 40 = .ok (.aload_n 0, 1) := by decide +kernel
theorem d_Mo_spelled_41 : decode prog_11_method_13_code 41 = .ok (.getfield 114, 3) := by decide +kernel
theorem d_Mo_spelled_44 : decode prog_11_method_13_code 44 = .ok (.iload 4, 2) := by decide +kernel
theorem d_Mo_spelled_46 : decode prog_11_method_13_code 46 = .ok (.iadd, 1) := by decide +kernel
theorem d_Mo_spelled_47 : decode prog_11_method_13_code 47 = .ok (.iconst 1, 1) := by decide +kernel
theorem d_Mo_spelled_48 : decode prog_11_method_13_code 48 = .ok (.isub, 1) := by decide +kernel
theorem d_Mo_spelled_49 : decode prog_11_method_13_code 49 = .ok (.iaload, 1) := by decide +kernel
theorem d_Mo_spelled_50 : decode prog_11_method_13_code 50 = .ok (.bipush 32, 2) := by decide +kernel
theorem d_Mo_spelled_52 : decode prog_11_method_13_code 52 = .ok (.if_icmp .eq 7, 3) := by decide +kernel
theorem d_Mo_spelled_55 : decode prog_11_method_13_code 55 = .ok (.iconst 1, 1) := by decide +kernel
theorem d_Mo_spelled_56 : decode prog_11_method_13_code 56 = .ok (.goto 4, 3) := by decide +kernel
theorem d_Mo_spelled_59 : decode prog_11_method_13_code 59 = .ok (.iconst 0, 1) := by decide +kernel
theorem d_Mo_spelled_60 : decode prog_11_method_13_code 60 = .ok (.istore 5, 2) := by decide +kernel
theorem d_Mo_spelled_62 : decode prog_11_method_13_code 62 = .ok (.iload 5, 2) := by decide +kernel
theorem d_Mo_spelled_64 : decode prog_11_method_13_code 64 = .ok (.ifCond .eq 16, 3) := by decide +kernel
theorem d_Mo_spelled_67 : decode prog_11_method_13_code 67 = .ok (.iload 4, 2) := by decide +kernel
theorem d_Mo_spelled_69 : decode prog_11_method_13_code 69 = .ok (.ifCond .gt 7, 3) := by decide +kernel
theorem d_Mo_spelled_72 : decode prog_11_method_13_code 72 = .ok (.iload_n 3, 1) := by decide +kernel
theorem d_Mo_spelled_73 : decode prog_11_method_13_code 73 = .ok (.ifCond .ne 7, 3) := by decide +kernel
theorem d_Mo_spelled_76 : decode prog_11_method_13_code 76 = .ok (.iconst 1, 1) := by decide +kernel
theorem d_Mo_spelled_77 : decode prog_11_method_13_code 77 = .ok (.goto 4, 3) := by decide +kernel
theorem d_Mo_spelled_80 : decode prog_11_method_13_code 80 = .ok (.iconst 0, 1) := by decide +kernel
theorem d_Mo_spelled_81 : decode prog_11_method_13_code 81 = .ok (.istore 5, 2) := by decide +kernel
theorem d_Mo_spelled_83 : decode prog_11_method_13_code 83 = .ok (.iconst 0, 1) := by decide +kernel
theorem d_Mo_spelled_84 : decode prog_11_method_13_code 84 = .ok (.istore 6, 2) := by decide +kernel
theorem d_Mo_spelled_86 : decode prog_11_method_13_code 86 = .ok (.iload 6, 2) := by decide +kernel
theorem d_Mo_spelled_88 : decode prog_11_method_13_code 88 = .ok (.iload_n 3, 1) := by decide +kernel
theorem d_Mo_spelled_89 : decode prog_11_method_13_code 89 = .ok (.if_icmp .ge 43, 3) := by decide +kernel
theorem d_Mo_spelled_92 : decode prog_11_method_13_code 92 = .ok (.iload 5, 2) := by decide +kernel
theorem d_Mo_spelled_94 : decode prog_11_method_13_code 94 = .ok (.ifCond .eq 29, 3) := by decide +kernel
theorem d_Mo_spelled_97 : decode prog_11_method_13_code 97 = .ok (.aload_n 0, 1) := by decide +kernel
theorem d_Mo_spelled_98 : decode prog_11_method_13_code 98 = .ok (.getfield 13, 3) := by decide +kernel
theorem d_Mo_spelled_101 : decode prog_11_method_13_code 101 = .ok (.aload_n 0, 1) := by decide +kernel
theorem d_Mo_spelled_102 : decode prog_11_method_13_code 102 = .ok (.getfield 114, 3) := by decide +kernel
theorem d_Mo_spelled_105 : decode prog_11_method_13_code 105 = .ok (.iload 6, 2) := by decide +kernel
theorem d_Mo_spelled_107 : decode prog_11_method_13_code 107 = .ok (.iadd, 1) := by decide +kernel
theorem d_Mo_spelled_108 : decode prog_11_method_13_code 108 = .ok (.iaload, 1) := by decide +kernel
theorem d_Mo_spelled_109 : decode prog_11_method_13_code 109 = .ok (.bipush 32, 2) := by decide +kernel
theorem d_Mo_spelled_111 : decode prog_11_method_13_code 111 = .ok (.bipush 126, 2) := by decide +kernel
theorem d_Mo_spelled_113 : decode prog_11_method_13_code 113 = .ok (.invokestatic 139, 3) := by decide +kernel
theorem d_Mo_spelled_116 : decode prog_11_method_13_code 116 = .ok (.ifCond .eq 7, 3) := by decide +kernel
theorem d_Mo_spelled_119 : decode prog_11_method_13_code 119 = .ok (.iconst 1, 1) := by decide +kernel
theorem d_Mo_spelled_120 : decode prog_11_method_13_code 120 = .ok (.goto 4, 3) := by decide +kernel
theorem d_Mo_spelled_123 : decode prog_11_method_13_code 123 = .ok (.iconst 0, 1) := by decide +kernel
theorem d_Mo_spelled_124 : decode prog_11_method_13_code 124 = .ok (.istore 5, 2) := by decide +kernel
theorem d_Mo_spelled_126 : decode prog_11_method_13_code 126 = .ok (.iinc 6 1, 3) := by decide +kernel
theorem d_Mo_spelled_129 : decode prog_11_method_13_code 129 = .ok (.goto (-43), 3) := by decide +kernel
theorem d_Mo_spelled_132 : decode prog_11_method_13_code 132 = .ok (.iload 5, 2) := by decide +kernel
theorem d_Mo_spelled_134 : decode prog_11_method_13_code 134 = .ok (.ifCond .ne 13, 3) := by decide +kernel
theorem d_Mo_spelled_137 : decode prog_11_method_13_code 137 = .ok (.aload_n 0, 1) := by decide +kernel
theorem d_Mo_spelled_138 : decode prog_11_method_13_code 138 = .ok (.iconst 5, 1) := by decide +kernel
theorem d_Mo_spelled_139 : decode prog_11_method_13_code 139 = .ok (.aload_n 0, 1) := by decide +kernel
theorem d_Mo_spelled_140 : decode prog_11_method_13_code 140 = .ok (.getfield 114, 3) := by decide +kernel
theorem d_Mo_spelled_143 : decode prog_11_method_13_code 143 = .ok (.invokevirtual 129, 3) := by decide +kernel
theorem d_Mo_spelled_146 : decode prog_11_method_13_code 146 = .ok (.ireturn, 1) := by decide +kernel
theorem d_Mo_spelled_147 : decode prog_11_method_13_code 147 = .ok (.aload_n 0, 1) := by decide +kernel
theorem d_Mo_spelled_148 : decode prog_11_method_13_code 148 = .ok (.getfield 25, 3) := by decide +kernel
theorem d_Mo_spelled_151 : decode prog_11_method_13_code 151 = .ok (.iload_n 2, 1) := by decide +kernel
theorem d_Mo_spelled_152 : decode prog_11_method_13_code 152 = .ok (.iload 4, 2) := by decide +kernel
theorem d_Mo_spelled_154 : decode prog_11_method_13_code 154 = .ok (.iastore, 1) := by decide +kernel
theorem d_Mo_spelled_155 : decode prog_11_method_13_code 155 = .ok (.aload_n 0, 1) := by decide +kernel
theorem d_Mo_spelled_156 : decode prog_11_method_13_code 156 = .ok (.getfield 28, 3) := by decide +kernel
theorem d_Mo_spelled_159 : decode prog_11_method_13_code 159 = .ok (.iload_n 2, 1) := by decide +kernel
theorem d_Mo_spelled_160 : decode prog_11_method_13_code 160 = .ok (.aload_n 0, 1) := by decide +kernel
theorem d_Mo_spelled_161 : decode prog_11_method_13_code 161 = .ok (.getfield 55, 3) := by decide +kernel
theorem d_Mo_spelled_164 : decode prog_11_method_13_code 164 = .ok (.iload_n 1, 1) := by decide +kernel
theorem d_Mo_spelled_165 : decode prog_11_method_13_code 165 = .ok (.iaload, 1) := by decide +kernel
theorem d_Mo_spelled_166 : decode prog_11_method_13_code 166 = .ok (.iastore, 1) := by decide +kernel
theorem d_Mo_spelled_167 : decode prog_11_method_13_code 167 = .ok (.iconst 0, 1) := by decide +kernel
theorem d_Mo_spelled_168 : decode prog_11_method_13_code 168 = .ok (.istore 6, 2) := by decide +kernel
theorem d_Mo_spelled_170 : decode prog_11_method_13_code 170 = .ok (.iload 6, 2) := by decide +kernel
theorem d_Mo_spelled_172 : decode prog_11_method_13_code 172 = .ok (.iload 4, 2) := by decide +kernel
theorem d_Mo_spelled_174 : decode prog_11_method_13_code 174 = .ok (.if_icmp .ge 35, 3) := by decide +kernel
theorem d_Mo_spelled_177 : decode prog_11_method_13_code 177 = .ok (.aload_n 0, 1) := by decide +kernel
theorem d_Mo_spelled_178 : decode prog_11_method_13_code 178 = .ok (.getfield 52, 3) := by decide +kernel
theorem d_Mo_spelled_181 : decode prog_11_method_13_code 181 = .ok (.aload_n 0, 1) := by decide +kernel
theorem d_Mo_spelled_182 : decode prog_11_method_13_code 182 = .ok (.getfield 55, 3) := by decide +kernel
theorem d_Mo_spelled_185 : decode prog_11_method_13_code 185 = .ok (.iload_n 1, 1) := by decide +kernel
theorem d_Mo_spelled_186 : decode prog_11_method_13_code 186 = .ok (.iaload, 1) := by decide +kernel
theorem d_Mo_spelled_187 : decode prog_11_method_13_code 187 = .ok (.iload 6, 2) := by decide +kernel
theorem d_Mo_spelled_189 : decode prog_11_method_13_code 189 = .ok (.iadd, 1) := by decide +kernel
theorem d_Mo_spelled_190 : decode prog_11_method_13_code 190 = .ok (.aload_n 0, 1) := by decide +kernel
theorem d_Mo_spelled_191 : decode prog_11_method_13_code 191 = .ok (.getfield 13, 3) := by decide +kernel
theorem d_Mo_spelled_194 : decode prog_11_method_13_code 194 = .ok (.aload_n 0, 1) := by decide +kernel
theorem d_Mo_spelled_195 : decode prog_11_method_13_code 195 = .ok (.getfield 114, 3) := by decide +kernel
theorem d_Mo_spelled_198 : decode prog_11_method_13_code 198 = .ok (.iload 6, 2) := by decide +kernel
theorem d_Mo_spelled_200 : decode prog_11_method_13_code 200 = .ok (.iadd, 1) := by decide +kernel
theorem d_Mo_spelled_201 : decode prog_11_method_13_code 201 = .ok (.iaload, 1) := by decide +kernel
theorem d_Mo_spelled_202 : decode prog_11_method_13_code 202 = .ok (.iastore, 1) := by decide +kernel
theorem d_Mo_spelled_203 : decode prog_11_method_13_code 203 = .ok (.iinc 6 1, 3) := by decide +kernel
theorem d_Mo_spelled_206 : decode prog_11_method_13_code 206 = .ok (.goto (-36), 3) := by decide +kernel
theorem d_Mo_spelled_209 : decode prog_11_method_13_code 209 = .ok (.aload_n 0, 1) := by decide +kernel
theorem d_Mo_spelled_210 : decode prog_11_method_13_code 210 = .ok (.getfield 55, 3) := by decide +kernel
theorem d_Mo_spelled_213 : decode prog_11_method_13_code 213 = .ok (.iload_n 1, 1) := by decide +kernel
theorem d_Mo_spelled_214 : decode prog_11_method_13_code 214 = .ok (.dup2, 1) := by decide +kernel
theorem d_Mo_spelled_215 : decode prog_11_method_13_code 215 = .ok (.iaload, 1) := by decide +kernel
theorem d_Mo_spelled_216 : decode prog_11_method_13_code 216 = .ok (.iload 4, 2) := by decide +kernel
theorem d_Mo_spelled_218 : decode prog_11_method_13_code 218 = .ok (.iadd, 1) := by decide +kernel
theorem d_Mo_spelled_219 : decode prog_11_method_13_code 219 = .ok (.iastore, 1) := by decide +kernel
theorem d_Mo_spelled_220 : decode prog_11_method_13_code 220 = .ok (.aload_n 0, 1) := by decide +kernel
theorem d_Mo_spelled_221 : decode prog_11_method_13_code 221 = .ok (.dup, 1) := by decide +kernel
theorem d_Mo_spelled_222 : decode prog_11_method_13_code 222 = .ok (.getfield 114, 3) := by decide +kernel
theorem d_Mo_spelled_225 : decode prog_11_method_13_code 225 = .ok (.iload_n 3, 1) := by decide +kernel
theorem d_Mo_spelled_226 : decode prog_11_method_13_code 226 = .ok (.iadd, 1) := by decide +kernel
theorem d_Mo_spelled_227 : decode prog_11_method_13_code 227 = .ok (.putfield 114, 3) := by decide +kernel
theorem d_Mo_spelled_230 : decode prog_11_method_13_code 230 = .ok (.iconst 1, 1) := by decide +kernel
theorem d_Mo_spelled_231 : decode prog_11_method_13_code 231 = .ok (.ireturn, 1) := by decide +kernel
theorem d_Mo_whole_0 : decode prog_11_method_12_code 0 = .ok (.aload_n 0, 1) := by decide +kernel
theorem d_Mo_whole_1 : decode prog_11_method_12_code 1 = .ok (.getfield 13, 3) := by decide +kernel
theorem d_Mo_whole_4 : decode prog_11_method_12_code 4 = .ok (.aload_n 0, 1) := by decide +kernel
theorem d_Mo_whole_5 : decode prog_11_method_12_code 5 = .ok (.getfield 114, 3) := by decide +kernel
theorem d_Mo_whole_8 : decode prog_11_method_12_code 8 = .ok (.iload_n 2, 1) := by decide +kernel
theorem d_Mo_whole_9 : decode prog_11_method_12_code 9 = .ok (.iadd, 1) := by decide +kernel
theorem d_Mo_whole_10 : decode prog_11_method_12_code 10 = .ok (.iconst 1, 1) := by decide +kernel
theorem d_Mo_whole_11 : decode prog_11_method_12_code 11 = .ok (.isub, 1) := by decide +kernel
theorem d_Mo_whole_12 : decode prog_11_method_12_code 12 = .ok (.iaload, 1) := by decide +kernel
theorem d_Mo_whole_13 : decode prog_11_method_12_code 13 = .ok (.bipush 127, 2) := by decide +kernel
theorem d_Mo_whole_15 : decode prog_11_method_12_code 15 = .ok (.if_icmp .le 7, 3) := by decide +kernel
theorem d_Mo_whole_18 : decode prog_11_method_12_code 18 = .ok (.iconst (-1), 1) := by decide +kernel
theorem d_Mo_whole_19 : decode prog_11_method_12_code 19 = .ok (.goto 4, 3) := by decide +kernel
theorem d_Mo_whole_22 : decode prog_11_method_12_code 22 = .ok (.iconst 0, 1) := by decide +kernel
theorem d_Mo_whole_23 : decode prog_11_method_12_code 23 = .ok (.istore_n 3, 1) := by decide +kernel
theorem d_Mo_whole_24 : decode prog_11_method_12_code 24 = .ok (.iload_n 2, 1) := by decide +kernel
theorem d_Mo_whole_25 : decode prog_11_method_12_code 25 = .ok (.iconst 1, 1) := by decide +kernel
theorem d_Mo_whole_26 : decode prog_11_method_12_code 26 = .ok (.isub, 1) := by decide +kernel
theorem d_Mo_whole_27 : decode prog_11_method_12_code 27 = .ok (.istore 4, 2) := by decide +kernel
theorem d_Mo_whole_29 : decode prog_11_method_12_code 29 = .ok (.iload 4, 2) := by decide +kernel
theorem d_Mo_whole_31 : decode prog_11_method_12_code 31 = .ok (.ifCond .lt 27, 3) := by decide +kernel
theorem d_Mo_whole_34 : decode prog_11_method_12_code 34 = .ok (.iload_n 3, 1) := by decide +kernel
theorem d_Mo_whole_35 : decode prog_11_method_12_code 35 = .ok (.bipush 8, 2) := by decide +kernel
theorem d_Mo_whole_37 : decode prog_11_method_12_code 37 = .ok (.ishl, 1) := by decide +kernel
theorem d_Mo_whole_38 : decode prog_11_method_12_code 38 = .ok (.aload_n 0, 1) := by decide +kernel
theorem d_Mo_whole_39 : decode prog_11_method_12_code 39 = .ok (.getfield 13, 3) := by decide +kernel
theorem d_Mo_whole_42 : decode prog_11_method_12_code 42 = .ok (.aload_n 0, 1) := by decide +kernel
theorem d_Mo_whole_43 : decode prog_11_method_12_code 43 = .ok (.getfield 114, 3) := by decide +kernel
theorem d_Mo_whole_46 : decode prog_11_method_12_code 46 = .ok (.iload 4, 2) := by decide +kernel
theorem d_Mo_whole_48 : decode prog_11_method_12_code 48 = .ok (.iadd, 1) := by decide +kernel
theorem d_Mo_whole_49 : decode prog_11_method_12_code 49 = .ok (.iaload, 1) := by decide +kernel
theorem d_Mo_whole_50 : decode prog_11_method_12_code 50 = .ok (.ior, 1) := by decide +kernel
theorem d_Mo_whole_51 : decode prog_11_method_12_code 51 = .ok (.istore_n 3, 1) := by decide +kernel
theorem d_Mo_whole_52 : decode prog_11_method_12_code 52 = .ok (.iinc 4 (-1), 3) := by decide +kernel
theorem d_Mo_whole_55 : decode prog_11_method_12_code 55 = .ok (.goto (-26), 3) := by decide +kernel
theorem d_Mo_whole_58 : decode prog_11_method_12_code 58 = .ok (.aload_n 0, 1) := by decide +kernel
theorem d_Mo_whole_59 : decode prog_11_method_12_code 59 = .ok (.getfield 25, 3) := by decide +kernel
theorem d_Mo_whole_62 : decode prog_11_method_12_code 62 = .ok (.iload_n 1, 1) := by decide +kernel
theorem d_Mo_whole_63 : decode prog_11_method_12_code 63 = .ok (.iload_n 3, 1) := by decide +kernel
theorem d_Mo_whole_64 : decode prog_11_method_12_code 64 = .ok (.iastore, 1) := by decide +kernel
theorem d_Mo_whole_65 : decode prog_11_method_12_code 65 = .ok (.aload_n 0, 1) := by decide +kernel
theorem d_Mo_whole_66 : decode prog_11_method_12_code 66 = .ok (.dup, 1) := by decide +kernel
theorem d_Mo_whole_67 : decode prog_11_method_12_code 67 = .ok (.getfield 114, 3) := by decide +kernel
theorem d_Mo_whole_70 : decode prog_11_method_12_code 70 = .ok (.iload_n 2, 1) := by decide +kernel
theorem d_Mo_whole_71 : decode prog_11_method_12_code 71 = .ok (.iadd, 1) := by decide +kernel
theorem d_Mo_whole_72 : decode prog_11_method_12_code 72 = .ok (.putfield 114, 3) := by decide +kernel
theorem d_Mo_whole_75 : decode prog_11_method_12_code 75 = .ok (.iconst 1, 1) := by decide +kernel
theorem d_Mo_whole_76 : decode prog_11_method_12_code 76 = .ok (.ireturn, 1) := by decide +kernel
theorem d_Mo_element_0 : decode prog_11_method_11_code 0 = .ok (.aload_n 0, 1) := by decide +kernel
theorem d_Mo_element_1 : decode prog_11_method_11_code 1 = .ok (.getfield 111, 3) := by decide +kernel
theorem d_Mo_element_4 : decode prog_11_method_11_code 4 = .ok (.iconst 1, 1) := by decide +kernel
theorem d_Mo_element_5 : decode prog_11_method_11_code 5 = .ok (.isub, 1) := by decide +kernel
theorem d_Mo_element_6 : decode prog_11_method_11_code 6 = .ok (.istore_n 3, 1) := by decide +kernel
theorem d_Mo_element_7 : decode prog_11_method_11_code 7 = .ok (.aload_n 0, 1) := by decide +kernel
theorem d_Mo_element_8 : decode prog_11_method_11_code 8 = .ok (.getfield 62, 3) := by decide +kernel
theorem d_Mo_element_11 : decode prog_11_method_11_code 11 = .ok (.iload_n 3, 1) := by decide +kernel
theorem d_Mo_element_12 : decode prog_11_method_11_code 12 = .ok (.iaload, 1) := by decide +kernel
theorem d_Mo_element_13 : decode prog_11_method_11_code 13 = .ok (.istore 4, 2) := by decide +kernel
theorem d_Mo_element_15 : decode prog_11_method_11_code 15 = .ok (.aload_n 0, 1) := by decide +kernel
theorem d_Mo_element_16 : decode prog_11_method_11_code 16 = .ok (.getfield 13, 3) := by decide +kernel
theorem d_Mo_element_19 : decode prog_11_method_11_code 19 = .ok (.aload_n 0, 1) := by decide +kernel
theorem d_Mo_element_20 : decode prog_11_method_11_code 20 = .ok (.getfield 114, 3) := by decide +kernel
theorem d_Mo_element_23 : decode prog_11_method_11_code 23 = .ok (.iaload, 1) := by decide +kernel
theorem d_Mo_element_24 : decode prog_11_method_11_code 24 = .ok (.istore 5, 2) := by decide +kernel
theorem d_Mo_element_26 : decode prog_11_method_11_code 26 = .ok (.aload_n 0, 1) := by decide +kernel
theorem d_Mo_element_27 : decode prog_11_method_11_code 27 = .ok (.getfield 43, 3) := by decide +kernel
theorem d_Mo_element_30 : decode prog_11_method_11_code 30 = .ok (.iload 4, 2) := by decide +kernel
theorem d_Mo_element_32 : decode prog_11_method_11_code 32 = .ok (.iaload, 1) := by decide +kernel
theorem d_Mo_element_33 : decode prog_11_method_11_code 33 = .ok (.ifCond .ne 7, 3) := by decide +kernel
theorem d_Mo_element_36 : decode prog_11_method_11_code 36 = .ok (.iconst 0, 1) := by decide +kernel
theorem d_Mo_element_37 : decode prog_11_method_11_code 37 = .ok (.goto 15, 3) := by decide +kernel
theorem d_Mo_element_40 : decode prog_11_method_11_code 40 = .ok (.aload_n 0, 1) := by decide +kernel
theorem d_Mo_element_41 : decode prog_11_method_11_code 41 = .ok (.getfield 22, 3) := by decide +kernel
theorem d_Mo_element_44 : decode prog_11_method_11_code 44 = .ok (.aload_n 0, 1) := by decide +kernel
theorem d_Mo_element_45 : decode prog_11_method_11_code 45 = .ok (.getfield 40, 3) := by decide +kernel
theorem d_Mo_element_48 : decode prog_11_method_11_code 48 = .ok (.iload 4, 2) := by decide +kernel
theorem d_Mo_element_50 : decode prog_11_method_11_code 50 = .ok (.iaload, 1) := by decide +kernel
theorem d_Mo_element_51 : decode prog_11_method_11_code 51 = .ok (.iaload, 1) := by decide +kernel
theorem d_Mo_element_52 : decode prog_11_method_11_code 52 = .ok (.istore 6, 2) := by decide +kernel
theorem d_Mo_element_54 : decode prog_11_method_11_code 54 = .ok (.iload 5, 2) := by decide +kernel
theorem d_Mo_element_56 : decode prog_11_method_11_code 56 = .ok (.iconst 1, 1) := by decide +kernel
theorem d_Mo_element_57 : decode prog_11_method_11_code 57 = .ok (.sipush 200, 3) := by decide +kernel
theorem d_Mo_element_60 : decode prog_11_method_11_code 60 = .ok (.invokestatic 139, 3) := by decide +kernel
theorem d_Mo_element_63 : decode prog_11_method_11_code 63 = .ok (.ifCond .eq 10, 3) := by decide +kernel
theorem d_Mo_element_66 : decode prog_11_method_11_code 66 = .ok (.iload 5, 2) := by decide +kernel
theorem d_Mo_element_68 : decode prog_11_method_11_code 68 = .ok (.iload 6, 2) := by decide +kernel
theorem d_Mo_element_70 : decode prog_11_method_11_code 70 = .ok (.if_icmp .gt 13, 3) := by decide +kernel
theorem d_Mo_element_73 : decode prog_11_method_11_code 73 = .ok (.aload_n 0, 1) := by decide +kernel
theorem d_Mo_element_74 : decode prog_11_method_11_code 74 = .ok (.iconst 2, 1) := by decide +kernel
theorem d_Mo_element_75 : decode prog_11_method_11_code 75 = .ok (.aload_n 0, 1) := by decide +kernel
theorem d_Mo_element_76 : decode prog_11_method_11_code 76 = .ok (.getfield 114, 3) := by decide +kernel
theorem d_Mo_element_79 : decode prog_11_method_11_code 79 = .ok (.invokevirtual 129, 3) := by decide +kernel
theorem d_Mo_element_82 : decode prog_11_method_11_code 82 = .ok (.ireturn, 1) := by decide +kernel
theorem d_Mo_element_83 : decode prog_11_method_11_code 83 = .ok (.aload_n 0, 1) := by decide +kernel
theorem d_Mo_element_84 : decode prog_11_method_11_code 84 = .ok (.getfield 43, 3) := by decide +kernel
theorem d_Mo_element_87 : decode prog_11_method_11_code 87 = .ok (.iload 4, 2) := by decide +kernel
theorem d_Mo_element_89 : decode prog_11_method_11_code 89 = .ok (.iaload, 1) := by decide +kernel
theorem d_Mo_element_90 : decode prog_11_method_11_code 90 = .ok (.bipush 10, 2) := by decide +kernel
theorem d_Mo_element_92 : decode prog_11_method_11_code 92 = .ok (.if_icmp .ne 14, 3) := by decide +kernel
theorem d_Mo_element_95 : decode prog_11_method_11_code 95 = .ok (.aload_n 0, 1) := by decide +kernel
theorem d_Mo_element_96 : decode prog_11_method_11_code 96 = .ok (.bipush 7, 2) := by decide +kernel
theorem d_Mo_element_98 : decode prog_11_method_11_code 98 = .ok (.aload_n 0, 1) := by decide +kernel
theorem d_Mo_element_99 : decode prog_11_method_11_code 99 = .ok (.getfield 114, 3) := by decide +kernel
theorem d_Mo_element_102 : decode prog_11_method_11_code 102 = .ok (.invokevirtual 129, 3) := by decide +kernel
theorem d_Mo_element_105 : decode prog_11_method_11_code 105 = .ok (.ireturn, 1) := by decide +kernel
theorem d_Mo_element_106 : decode prog_11_method_11_code 106 = .ok (.iload 5, 2) := by decide +kernel
theorem d_Mo_element_108 : decode prog_11_method_11_code 108 = .ok (.bipush 80, 2) := by decide +kernel
theorem d_Mo_element_110 : decode prog_11_method_11_code 110 = .ok (.if_icmp .ge 7, 3) := by decide +kernel
theorem d_Mo_element_113 : decode prog_11_method_11_code 113 = .ok (.iconst 1, 1) := by decide +kernel
theorem d_Mo_element_114 : decode prog_11_method_11_code 114 = .ok (.goto 16, 3) := by decide +kernel
theorem d_Mo_element_117 : decode prog_11_method_11_code 117 = .ok (.iload 5, 2) := by decide +kernel
theorem d_Mo_element_119 : decode prog_11_method_11_code 119 = .ok (.sipush 160, 3) := by decide +kernel
theorem d_Mo_element_122 : decode prog_11_method_11_code 122 = .ok (.if_icmp .ge 7, 3) := by decide +kernel
theorem d_Mo_element_125 : decode prog_11_method_11_code 125 = .ok (.iconst 2, 1) := by decide +kernel
theorem d_Mo_element_126 : decode prog_11_method_11_code 126 = .ok (.goto 4, 3) := by decide +kernel
theorem d_Mo_element_129 : decode prog_11_method_11_code 129 = .ok (.iconst 3, 1) := by decide +kernel
theorem d_Mo_element_130 : decode prog_11_method_11_code 130 = .ok (.istore 7, 2) := by decide +kernel
theorem d_Mo_element_132 : decode prog_11_method_11_code 132 = .ok (.iload 7, 2) := by decide +kernel
theorem d_Mo_element_134 : decode prog_11_method_11_code 134 = .ok (.iconst 3, 1) := by decide +kernel
theorem d_Mo_element_135 : decode prog_11_method_11_code 135 = .ok (.if_icmp .ne 22, 3) := by decide +kernel
theorem d_Mo_element_138 : decode prog_11_method_11_code 138 = .ok (.aload_n 0, 1) := by decide +kernel
theorem d_Mo_element_139 : decode prog_11_method_11_code 139 = .ok (.getfield 111, 3) := by decide +kernel
theorem d_Mo_element_142 : decode prog_11_method_11_code 142 = .ok (.iconst 5, 1) := by decide +kernel
theorem d_Mo_element_143 : decode prog_11_method_11_code 143 = .ok (.if_icmp .ne 14, 3) := by decide +kernel
theorem d_Mo_element_146 : decode prog_11_method_11_code 146 = .ok (.aload_n 0, 1) := by decide +kernel
theorem d_Mo_element_147 : decode prog_11_method_11_code 147 = .ok (.bipush 8, 2) := by decide +kernel
theorem d_Mo_element_149 : decode prog_11_method_11_code 149 = .ok (.aload_n 0, 1) := by decide +kernel
theorem d_Mo_element_150 : decode prog_11_method_11_code 150 = .ok (.getfield 114, 3) := by decide +kernel
theorem d_Mo_element_153 : decode prog_11_method_11_code 153 = .ok (.invokevirtual 129, 3) := by decide +kernel
theorem d_Mo_element_156 : decode prog_11_method_11_code 156 = .ok (.ireturn, 1) := by decide +kernel
theorem d_Mo_element_157 : decode prog_11_method_11_code 157 = .ok (.aload_n 0, 1) := by decide +kernel
theorem d_Mo_element_158 : decode prog_11_method_11_code 158 = .ok (.dup, 1) := by decide +kernel
theorem d_Mo_element_159 : decode prog_11_method_11_code 159 = .ok (.getfield 114, 3) := by decide +kernel
theorem d_Mo_element_162 : decode prog_11_method_11_code 162 = .ok (.iconst 1, 1) := by decide +kernel
theorem d_Mo_element_163 : decode prog_11_method_11_code 163 = .ok (.iadd, 1) := by decide +kernel
theorem d_Mo_element_164 : decode prog_11_method_11_code 164 = .ok (.putfield 114, 3) := by decide +kernel
theorem d_Mo_element_167 : decode prog_11_method_11_code 167 = .ok (.iload_n 2, 1) := by decide +kernel
theorem d_Mo_element_168 : decode prog_11_method_11_code 168 = .ok (.ifCond .ne 60, 3) := by decide +kernel
theorem d_Mo_element_171 : decode prog_11_method_11_code 171 = .ok (.aload_n 0, 1) := by decide +kernel
theorem d_Mo_element_172 : decode prog_11_method_11_code 172 = .ok (.getfield 114, 3) := by decide +kernel
theorem d_Mo_element_175 : decode prog_11_method_11_code 175 = .ok (.aload_n 0, 1) := by decide +kernel
theorem d_Mo_element_176 : decode prog_11_method_11_code 176 = .ok (.getfield 65, 3) := by decide +kernel
theorem d_Mo_element_179 : decode prog_11_method_11_code 179 = .ok (.iload_n 3, 1) := by decide +kernel
theorem d_Mo_element_180 : decode prog_11_method_11_code 180 = .ok (.iaload, 1) := by decide +kernel
theorem d_Mo_element_181 : decode prog_11_method_11_code 181 = .ok (.if_icmp .ne 13, 3) := by decide +kernel
theorem d_Mo_element_184 : decode prog_11_method_11_code 184 = .ok (.aload_n 0, 1) := by decide +kernel
theorem d_Mo_element_185 : decode prog_11_method_11_code 185 = .ok (.iconst 1, 1) := by decide +kernel
theorem d_Mo_element_186 : decode prog_11_method_11_code 186 = .ok (.aload_n 0, 1) := by decide +kernel
theorem d_Mo_element_187 : decode prog_11_method_11_code 187 = .ok (.getfield 114, 3) := by decide +kernel
theorem d_Mo_element_190 : decode prog_11_method_11_code 190 = .ok (.invokevirtual 129, 3) := by decide +kernel
theorem d_Mo_element_193 : decode prog_11_method_11_code 193 = .ok (.ireturn, 1) := by decide +kernel
theorem d_Mo_element_194 : decode prog_11_method_11_code 194 = .ok (.aload_n 0, 1) := by decide +kernel
theorem d_Mo_element_195 : decode prog_11_method_11_code 195 = .ok (.getfield 13, 3) := by decide +kernel
theorem d_Mo_element_198 : decode prog_11_method_11_code 198 = .ok (.aload_n 0, 1) := by decide +kernel
theorem d_Mo_element_199 : decode prog_11_method_11_code 199 = .ok (.getfield 114, 3) := by decide +kernel
theorem d_Mo_element_202 : decode prog_11_method_11_code 202 = .ok (.iaload, 1) := by decide +kernel
theorem d_Mo_element_203 : decode prog_11_method_11_code 203 = .ok (.iload 7, 2) := by decide +kernel
theorem d_Mo_element_205 : decode prog_11_method_11_code 205 = .ok (.if_icmp .eq 13, 3) := by decide +kernel
theorem d_Mo_element_208 : decode prog_11_method_11_code 208 = .ok (.aload_n 0, 1) := by decide +kernel
theorem d_Mo_element_209 : decode prog_11_method_11_code 209 = .ok (.iconst 3, 1) := by decide +kernel
theorem d_Mo_element_210 : decode prog_11_method_11_code 210 = .ok (.aload_n 0, 1) := by decide +kernel
theorem d_Mo_element_211 : decode prog_11_method_11_code 211 = .ok (.getfield 114, 3) := by decide +kernel
theorem d_Mo_element_214 : decode prog_11_method_11_code 214 = .ok (.invokevirtual 129, 3) := by decide +kernel
theorem d_Mo_element_217 : decode prog_11_method_11_code 217 = .ok (.ireturn, 1) := by decide +kernel
theorem d_Mo_element_218 : decode prog_11_method_11_code 218 = .ok (.aload_n 0, 1) := by decide +kernel
theorem d_Mo_element_219 : decode prog_11_method_11_code 219 = .ok (.dup, 1) := by decide +kernel
theorem d_Mo_element_220 : decode prog_11_method_11_code 220 = .ok (.getfield 114, 3) := by decide +kernel
theorem d_Mo_element_223 : decode prog_11_method_11_code 223 = .ok (.iconst 1, 1) := by decide +kernel
theorem d_Mo_element_224 : decode prog_11_method_11_code 224 = .ok (.iadd, 1) := by decide +kernel
theorem d_Mo_element_225 : decode prog_11_method_11_code 225 = .ok (.putfield 114, 3) := by decide +kernel
theorem d_Mo_element_228 : decode prog_11_method_11_code 228 = .ok (.aload_n 0, 1) := by decide +kernel
theorem d_Mo_element_229 : decode prog_11_method_11_code 229 = .ok (.getfield 114, 3) := by decide +kernel
theorem d_Mo_element_232 : decode prog_11_method_11_code 232 = .ok (.aload_n 0, 1) := by decide +kernel
theorem d_Mo_element_233 : decode prog_11_method_11_code 233 = .ok (.getfield 65, 3) := by decide +kernel
theorem d_Mo_element_236 : decode prog_11_method_11_code 236 = .ok (.iload_n 3, 1) := by decide +kernel
theorem d_Mo_element_237 : decode prog_11_method_11_code 237 = .ok (.iaload, 1) := by decide +kernel
theorem d_Mo_element_238 : decode prog_11_method_11_code 238 = .ok (.if_icmp .ne 13, 3) := by decide +kernel
theorem d_Mo_element_241 : decode prog_11_method_11_code 241 = .ok (.aload_n 0, 1) := by decide +kernel
theorem d_Mo_element_242 : decode prog_11_method_11_code 242 = .ok (.iconst 1, 1) := by decide +kernel
theorem d_Mo_element_243 : decode prog_11_method_11_code 243 = .ok (.aload_n 0, 1) := by decide +kernel
theorem d_Mo_element_244 : decode prog_11_method_11_code 244 = .ok (.getfield 114, 3) := by decide +kernel
theorem d_Mo_element_247 : decode prog_11_method_11_code 247 = .ok (.invokevirtual 129, 3) := by decide +kernel
theorem d_Mo_element_250 : decode prog_11_method_11_code 250 = .ok (.ireturn, 1) := by decide +kernel
theorem d_Mo_element_251 : decode prog_11_method_11_code 251 = .ok (.aload_n 0, 1) := by decide +kernel
theorem d_Mo_element_252 : decode prog_11_method_11_code 252 = .ok (.getfield 13, 3) := by decide +kernel
theorem d_Mo_element_255 : decode prog_11_method_11_code 255 = .ok (.aload_n 0, 1) := by decide +kernel
theorem d_Mo_element_256 : decode prog_11_method_11_code 256 = .ok (.getfield 114, 3) := by decide +kernel
theorem d_Mo_element_259 : decode prog_11_method_11_code 259 = .ok (.iaload, 1) := by decide +kernel
theorem d_Mo_element_260 : decode prog_11_method_11_code 260 = .ok (.istore 8, 2) := by decide +kernel
theorem d_Mo_element_262 : decode prog_11_method_11_code 262 = .ok (.iload 7, 2) := by decide +kernel
theorem d_Mo_element_264 : decode prog_11_method_11_code 264 = .ok (.iconst 1, 1) := by decide +kernel
theorem d_Mo_element_265 : decode prog_11_method_11_code 265 = .ok (.if_icmp .ne 13, 3) := by decide +kernel
theorem d_Mo_element_268 : decode prog_11_method_11_code 268 = .ok (.iload 8, 2) := by decide +kernel
theorem d_Mo_element_270 : decode prog_11_method_11_code 270 = .ok (.iconst 1, 1) := by decide +kernel
theorem d_Mo_element_271 : decode prog_11_method_11_code 271 = .ok (.iconst 4, 1) := by decide +kernel
theorem d_Mo_element_272 : decode prog_11_method_11_code 272 = .ok (.invokestatic 139, 3) := by decide +kernel
theorem d_Mo_element_275 : decode prog_11_method_11_code 275 = .ok (.goto 52, 3) := by decide +kernel
theorem d_Mo_element_278 : decode prog_11_method_11_code 278 = .ok (.iload 7, 2) := by decide +kernel
theorem d_Mo_element_280 : decode prog_11_method_11_code 280 = .ok (.iconst 2, 1) := by decide +kernel
theorem d_Mo_element_281 : decode prog_11_method_11_code 281 = .ok (.if_icmp .ne 25, 3) := by decide +kernel
theorem d_Mo_element_284 : decode prog_11_method_11_code 284 = .ok (.iload 8, 2) := by decide +kernel
theorem d_Mo_element_286 : decode prog_11_method_11_code 286 = .ok (.bipush 16, 2) := by decide +kernel
theorem d_Mo_element_288 : decode prog_11_method_11_code 288 = .ok (.if_icmp .gt 14, 3) := by decide +kernel
theorem d_Mo_element_291 : decode prog_11_method_11_code 291 = .ok (.iload 8, 2) := by decide +kernel
theorem d_Mo_element_293 : decode prog_11_method_11_code 293 = .ok (.iconst 2, 1) := by decide +kernel
theorem d_Mo_element_294 : decode prog_11_method_11_code 294 = .ok (.irem, 1) := by decide +kernel
theorem d_Mo_element_295 : decode prog_11_method_11_code 295 = .ok (.ifCond .ne 7, 3) := by decide +kernel
theorem d_Mo_element_298 : decode prog_11_method_11_code 298 = .ok (.iconst 1, 1) := by decide +kernel
theorem d_Mo_element_299 : decode prog_11_method_11_code 299 = .ok (.goto 28, 3) := by decide +kernel
theorem d_Mo_element_302 : decode prog_11_method_11_code 302 = .ok (.iconst 0, 1) := by decide +kernel
theorem d_Mo_element_303 : decode prog_11_method_11_code 303 = .ok (.goto 24, 3) := by decide +kernel
theorem d_Mo_element_306 : decode prog_11_method_11_code 306 = .ok (.iload 8, 2) := by decide +kernel
theorem d_Mo_element_308 : decode prog_11_method_11_code 308 = .ok (.sipush 240, 3) := by decide +kernel
theorem d_Mo_element_311 : decode prog_11_method_11_code 311 = .ok (.if_icmp .le 11, 3) := by decide +kernel
theorem d_Mo_element_314 : decode prog_11_method_11_code 314 = .ok (.iload 8, 2) := by decide +kernel
theorem d_Mo_element_316 : decode prog_11_method_11_code 316 = .ok (.sipush 255, 3) := by decide +kernel
theorem d_Mo_element_319 : decode prog_11_method_11_code 319 = .ok (.if_icmp .ne 7, 3) := by decide +kernel
theorem d_Mo_element_322 : decode prog_11_method_11_code 322 = .ok (.iconst 1, 1) := by decide +kernel
theorem d_Mo_element_323 : decode prog_11_method_11_code 323 = .ok (.goto 4, 3) := by decide +kernel
theorem d_Mo_element_326 : decode prog_11_method_11_code 326 = .ok (.iconst 0, 1) := by decide +kernel
theorem d_Mo_element_327 : decode prog_11_method_11_code 327 = .ok (.istore 9, 2) := by decide +kernel
theorem d_Mo_element_329 : decode prog_11_method_11_code 329 = .ok (.iload 7, 2) := by decide +kernel
theorem d_Mo_element_331 : decode prog_11_method_11_code 331 = .ok (.iconst 3, 1) := by decide +kernel
theorem d_Mo_element_332 : decode prog_11_method_11_code 332 = .ok (.if_icmp .ne 15, 3) := by decide +kernel
theorem d_Mo_element_335 : decode prog_11_method_11_code 335 = .ok (.iload 8, 2) := by decide +kernel
theorem d_Mo_element_337 : decode prog_11_method_11_code 337 = .ok (.sipush 255, 3) := by decide +kernel
theorem d_Mo_element_340 : decode prog_11_method_11_code 340 = .ok (.if_icmp .ne 7, 3) := by decide +kernel
theorem d_Mo_element_343 : decode prog_11_method_11_code 343 = .ok (.iconst 1, 1) := by decide +kernel
theorem d_Mo_element_344 : decode prog_11_method_11_code 344 = .ok (.goto 4, 3) := by decide +kernel
theorem d_Mo_element_347 : decode prog_11_method_11_code 347 = .ok (.iconst 0, 1) := by decide +kernel
theorem d_Mo_element_348 : decode prog_11_method_11_code 348 = .ok (.istore 10, 2) := by decide +kernel
theorem d_Mo_element_350 : decode prog_11_method_11_code 350 = .ok (.iload 9, 2) := by decide +kernel
theorem d_Mo_element_352 : decode prog_11_method_11_code 352 = .ok (.ifCond .eq 26, 3) := by decide +kernel
theorem d_Mo_element_355 : decode prog_11_method_11_code 355 = .ok (.iload 10, 2) := by decide +kernel
theorem d_Mo_element_357 : decode prog_11_method_11_code 357 = .ok (.ifCond .ne 31, 3) := by decide +kernel
theorem d_Mo_element_360 : decode prog_11_method_11_code 360 = .ok (.aload_n 0, 1) := by decide +kernel
theorem d_Mo_element_361 : decode prog_11_method_11_code 361 = .ok (.getfield 114, 3) := by decide +kernel
theorem d_Mo_element_364 : decode prog_11_method_11_code 364 = .ok (.iconst 1, 1) := by decide +kernel
theorem d_Mo_element_365 : decode prog_11_method_11_code 365 = .ok (.iadd, 1) := by decide +kernel
theorem d_Mo_element_366 : decode prog_11_method_11_code 366 = .ok (.iload 8, 2) := by decide +kernel
theorem d_Mo_element_368 : decode prog_11_method_11_code 368 = .ok (.iadd, 1) := by decide +kernel
theorem d_Mo_element_369 : decode prog_11_method_11_code 369 = .ok (.aload_n 0, 1) := by decide +kernel
theorem d_Mo_element_370 : decode prog_11_method_11_code 370 = .ok (.getfield 65, 3) := by decide +kernel
theorem d_Mo_element_373 : decode prog_11_method_11_code 373 = .ok (.iload_n 3, 1) := by decide +kernel
theorem d_Mo_element_374 : decode prog_11_method_11_code 374 = .ok (.iaload, 1) := by decide +kernel
theorem d_Mo_element_375 : decode prog_11_method_11_code 375 = .ok (.if_icmp .le 13, 3) := by decide +kernel
theorem d_Mo_element_378 : decode prog_11_method_11_code 378 = .ok (.aload_n 0, 1) := by decide +kernel
theorem d_Mo_element_379 : decode prog_11_method_11_code 379 = .ok (.iconst 4, 1) := by decide +kernel
theorem d_Mo_element_380 : decode prog_11_method_11_code 380 = .ok (.aload_n 0, 1) := by decide +kernel
theorem d_Mo_element_381 : decode prog_11_method_11_code 381 = .ok (.getfield 114, 3) := by decide +kernel
theorem d_Mo_element_384 : decode prog_11_method_11_code 384 = .ok (.invokevirtual 129, 3) := by decide +kernel
theorem d_Mo_element_387 : decode prog_11_method_11_code 387 = .ok (.ireturn, 1) := by decide +kernel
theorem d_Mo_element_388 : decode prog_11_method_11_code 388 = .ok (.aload_n 0, 1) := by decide +kernel
theorem d_Mo_element_389 : decode prog_11_method_11_code 389 = .ok (.dup, 1) := by decide +kernel
theorem d_Mo_element_390 : decode prog_11_method_11_code 390 = .ok (.getfield 114, 3) := by decide +kernel
theorem d_Mo_element_393 : decode prog_11_method_11_code 393 = .ok (.iconst 1, 1) := by decide +kernel
theorem d_Mo_element_394 : decode prog_11_method_11_code 394 = .ok (.iadd, 1) := by decide +kernel
theorem d_Mo_element_395 : decode prog_11_method_11_code 395 = .ok (.putfield 114, 3) := by decide +kernel
theorem d_Mo_element_398 : decode prog_11_method_11_code 398 = .ok (.aload_n 0, 1) := by decide +kernel
theorem d_Mo_element_399 : decode prog_11_method_11_code 399 = .ok (.iload_n 1, 1) := by decide +kernel
theorem d_Mo_element_400 : decode prog_11_method_11_code 400 = .ok (.iload 7, 2) := by decide +kernel
theorem d_Mo_element_402 : decode prog_11_method_11_code 402 = .ok (.iload 4, 2) := by decide +kernel
theorem d_Mo_element_404 : decode prog_11_method_11_code 404 = .ok (.invokevirtual 117, 3) := by decide +kernel
theorem d_Mo_element_407 : decode prog_11_method_11_code 407 = .ok (.istore 11, 2) := by decide +kernel
theorem d_Mo_element_409 : decode prog_11_method_11_code 409 = .ok (.aload_n 0, 1) := by decide +kernel
theorem d_Mo_element_410 : decode prog_11_method_11_code 410 = .ok (.getfield 22, 3) := by decide +kernel
theorem d_Mo_element_413 : decode prog_11_method_11_code 413 = .ok (.iload 11, 2) := by decide +kernel
theorem d_Mo_element_415 : decode prog_11_method_11_code 415 = .ok (.iload 5, 2) := by decide +kernel
theorem d_Mo_element_417 : decode prog_11_method_11_code 417 = .ok (.iastore, 1) := by decide +kernel
theorem d_Mo_element_418 : decode prog_11_method_11_code 418 = .ok (.iload 7, 2) := by decide +kernel
theorem d_Mo_element_420 : decode prog_11_method_11_code 420 = .ok (.iconst 3, 1) := by decide +kernel
theorem d_Mo_element_421 : decode prog_11_method_11_code 421 = .ok (.if_icmp .ne 34, 3) := by decide +kernel
theorem d_Mo_element_424 : decode prog_11_method_11_code 424 = .ok (.aload_n 0, 1) := by decide +kernel
theorem d_Mo_element_425 : decode prog_11_method_11_code 425 = .ok (.iload 11, 2) := by decide +kernel
theorem d_Mo_element_427 : decode prog_11_method_11_code 427 = .ok (.iload 10, 2) := by decide +kernel
theorem d_Mo_element_429 : decode prog_11_method_11_code 429 = .ok (.ifCond .eq 12, 3) := by decide +kernel
theorem d_Mo_element_432 : decode prog_11_method_11_code 432 = .ok (.aload_n 0, 1) := by decide +kernel
theorem d_Mo_element_433 : decode prog_11_method_11_code 433 = .ok (.getfield 65, 3) := by decide +kernel
theorem d_Mo_element_436 : decode prog_11_method_11_code 436 = .ok (.iload_n 3, 1) := by decide +kernel
theorem d_Mo_element_437 : decode prog_11_method_11_code 437 = .ok (.iaload, 1) := by decide +kernel
theorem d_Mo_element_438 : decode prog_11_method_11_code 438 = .ok (.goto 10, 3) := by decide +kernel
theorem d_Mo_element_441 : decode prog_11_method_11_code 441 = .ok (.aload_n 0, 1) := by decide +kernel
theorem d_Mo_element_442 : decode prog_11_method_11_code 442 = .ok (.getfield 114, 3) := by decide +kernel
theorem d_Mo_element_445 : decode prog_11_method_11_code 445 = .ok (.iload 8, 2) := by decide +kernel
theorem d_Mo_element_447 : decode prog_11_method_11_code 447 = .ok (.iadd, 1) := by decide +kernel
theorem d_Mo_element_448 : decode prog_11_method_11_code 448 = .ok (.iload 10, 2) := by decide +kernel
theorem d_Mo_element_450 : decode prog_11_method_11_code 450 = .ok (.invokevirtual 121, 3) := by decide +kernel
theorem d_Mo_element_453 : decode prog_11_method_11_code 453 = .ok (.iconst 1, 1) := by decide +kernel
theorem d_Mo_element_454 : decode prog_11_method_11_code 454 = .ok (.ireturn, 1) := by decide +kernel
theorem d_Mo_element_455 : decode prog_11_method_11_code 455 = .ok (.iload 7, 2) := by decide +kernel
theorem d_Mo_element_457 : decode prog_11_method_11_code 457 = .ok (.iconst 1, 1) := by decide +kernel
theorem d_Mo_element_458 : decode prog_11_method_11_code 458 = .ok (.if_icmp .ne 14, 3) := by decide +kernel
theorem d_Mo_element_461 : decode prog_11_method_11_code 461 = .ok (.aload_n 0, 1) := by decide +kernel
theorem d_Mo_element_462 : decode prog_11_method_11_code 462 = .ok (.iload 11, 2) := by decide +kernel
theorem d_Mo_element_464 : decode prog_11_method_11_code 464 = .ok (.iload 8, 2) := by decide +kernel
theorem d_Mo_element_466 : decode prog_11_method_11_code 466 = .ok (.invokevirtual 143, 3) := by decide +kernel
theorem d_Mo_element_469 : decode prog_11_method_11_code 469 = .ok (.goto 12, 3) := by decide +kernel
theorem d_Mo_element_472 : decode prog_11_method_11_code 472 = .ok (.aload_n 0, 1) := by decide +kernel
theorem d_Mo_element_473 : decode prog_11_method_11_code 473 = .ok (.iload_n 1, 1) := by decide +kernel
theorem d_Mo_element_474 : decode prog_11_method_11_code 474 = .ok (.iload 11, 2) := by decide +kernel
theorem d_Mo_element_476 : decode prog_11_method_11_code 476 = .ok (.iload 8, 2) := by decide +kernel
theorem d_Mo_element_478 : decode prog_11_method_11_code 478 = .ok (.invokevirtual 146, 3) := by decide +kernel
theorem d_Mo_element_481 : decode prog_11_method_11_code 481 = .ok (.ireturn, 1) := by decide +kernel
def ws_Mo_add : List Cond := .code y_Mo_add prog_11_method_6_code 5 (some .int) :: TB
def B_Mo_add_128 (s0 : S_Mo) (x3 : Int32) (x4 : Int32) : Option (Int32 × S_Mo) :=
  (if (x3 < 0 ∨ 260 ≤ x3.toNatClampNeg) then none else (if (x3 < 0 ∨ 260 ≤ x3.toNatClampNeg) then none else (if (x3 < 0 ∨ 260 ≤ x3.toNatClampNeg) then none else some (x4, (Mo_set_many (Mo_set_last s0 (upd (Mo_last s0) x3.toNatClampNeg x4)) (upd (Mo_many (Mo_set_last s0 (upd (Mo_last s0) x3.toNatClampNeg x4))) x3.toNatClampNeg (((Mo_many (Mo_set_last s0 (upd (Mo_last s0) x3.toNatClampNeg x4))) x3.toNatClampNeg) + (1 : Int32))))))))
def B_Mo_add_115 (s0 : S_Mo) (x3 : Int32) (x4 : Int32) : Option (Int32 × S_Mo) :=
  (if (x3 < 0 ∨ 260 ≤ x3.toNatClampNeg) then none else (if (((Mo_last s0) x3.toNatClampNeg) < 0 ∨ 260 ≤ ((Mo_last s0) x3.toNatClampNeg).toNatClampNeg) then none else (B_Mo_add_128 (Mo_set_next s0 (upd (Mo_next s0) ((Mo_last s0) x3.toNatClampNeg).toNatClampNeg x4)) x3 x4)))
def B_Mo_add_104 (s0 : S_Mo) (x3 : Int32) (x4 : Int32) : Option (Int32 × S_Mo) :=
  (if (x3 < 0 ∨ 260 ≤ x3.toNatClampNeg) then none else (B_Mo_add_128 (Mo_set_first s0 (upd (Mo_first s0) x3.toNatClampNeg x4)) x3 x4))
def B_Mo_add_95 (s0 : S_Mo) (x3 : Int32) (x4 : Int32) : Option (Int32 × S_Mo) :=
  (if (x3 < 0 ∨ 260 ≤ x3.toNatClampNeg) then none else (if ((Mo_many s0) x3.toNatClampNeg) = 0 then (B_Mo_add_104 s0 x3 x4) else (B_Mo_add_115 s0 x3 x4)))
def B_Mo_add_92 (s0 : S_Mo) (x4 : Int32) : Option (Int32 × S_Mo) :=
  some (x4, s0)
def B_Mo_add_0 (s0 : S_Mo) (x1 : Int32) (x2 : Int32) (x3 : Int32) : Option (Int32 × S_Mo) :=
  (if (x1 < 0 ∨ 2 ≤ x1.toNatClampNeg) then none else (if (x1 < 0 ∨ 2 ≤ x1.toNatClampNeg) then none else (if (x1 < 0 ∨ 2 ≤ x1.toNatClampNeg) then none else (if ((((130 : Int32) * x1) + ((Mo_count s0) x1.toNatClampNeg)) < 0 ∨ 260 ≤ (((130 : Int32) * x1) + ((Mo_count s0) x1.toNatClampNeg)).toNatClampNeg) then none else (if ((((130 : Int32) * x1) + ((Mo_count s0) x1.toNatClampNeg)) < 0 ∨ 260 ≤ (((130 : Int32) * x1) + ((Mo_count s0) x1.toNatClampNeg)).toNatClampNeg) then none else (if ((((130 : Int32) * x1) + ((Mo_count s0) x1.toNatClampNeg)) < 0 ∨ 260 ≤ (((130 : Int32) * x1) + ((Mo_count s0) x1.toNatClampNeg)).toNatClampNeg) then none else (if ((((130 : Int32) * x1) + ((Mo_count s0) x1.toNatClampNeg)) < 0 ∨ 260 ≤ (((130 : Int32) * x1) + ((Mo_count s0) x1.toNatClampNeg)).toNatClampNeg) then none else (if ((((130 : Int32) * x1) + ((Mo_count s0) x1.toNatClampNeg)) < 0 ∨ 260 ≤ (((130 : Int32) * x1) + ((Mo_count s0) x1.toNatClampNeg)).toNatClampNeg) then none else (if ((((130 : Int32) * x1) + ((Mo_count s0) x1.toNatClampNeg)) < 0 ∨ 260 ≤ (((130 : Int32) * x1) + ((Mo_count s0) x1.toNatClampNeg)).toNatClampNeg) then none else (if ((((130 : Int32) * x1) + ((Mo_count s0) x1.toNatClampNeg)) < 0 ∨ 260 ≤ (((130 : Int32) * x1) + ((Mo_count s0) x1.toNatClampNeg)).toNatClampNeg) then none else (if ((((130 : Int32) * x1) + ((Mo_count s0) x1.toNatClampNeg)) < 0 ∨ 260 ≤ (((130 : Int32) * x1) + ((Mo_count s0) x1.toNatClampNeg)).toNatClampNeg) then none else (if 0 ≤ x3 then (B_Mo_add_95 (Mo_set_many (Mo_set_last (Mo_set_next (Mo_set_first (Mo_set_parent (Mo_set_value (Mo_set_tag (Mo_set_kind (Mo_set_count s0 (upd (Mo_count s0) x1.toNatClampNeg (((Mo_count s0) x1.toNatClampNeg) + (1 : Int32)))) (upd (Mo_kind (Mo_set_count s0 (upd (Mo_count s0) x1.toNatClampNeg (((Mo_count s0) x1.toNatClampNeg) + (1 : Int32))))) (((130 : Int32) * x1) + ((Mo_count s0) x1.toNatClampNeg)).toNatClampNeg x2)) (upd (Mo_tag (Mo_set_kind (Mo_set_count s0 (upd (Mo_count s0) x1.toNatClampNeg (((Mo_count s0) x1.toNatClampNeg) + (1 : Int32)))) (upd (Mo_kind (Mo_set_count s0 (upd (Mo_count s0) x1.toNatClampNeg (((Mo_count s0) x1.toNatClampNeg) + (1 : Int32))))) (((130 : Int32) * x1) + ((Mo_count s0) x1.toNatClampNeg)).toNatClampNeg x2))) (((130 : Int32) * x1) + ((Mo_count s0) x1.toNatClampNeg)).toNatClampNeg (0 : Int32))) (upd (Mo_value (Mo_set_tag (Mo_set_kind (Mo_set_count s0 (upd (Mo_count s0) x1.toNatClampNeg (((Mo_count s0) x1.toNatClampNeg) + (1 : Int32)))) (upd (Mo_kind (Mo_set_count s0 (upd (Mo_count s0) x1.toNatClampNeg (((Mo_count s0) x1.toNatClampNeg) + (1 : Int32))))) (((130 : Int32) * x1) + ((Mo_count s0) x1.toNatClampNeg)).toNatClampNeg x2)) (upd (Mo_tag (Mo_set_kind (Mo_set_count s0 (upd (Mo_count s0) x1.toNatClampNeg (((Mo_count s0) x1.toNatClampNeg) + (1 : Int32)))) (upd (Mo_kind (Mo_set_count s0 (upd (Mo_count s0) x1.toNatClampNeg (((Mo_count s0) x1.toNatClampNeg) + (1 : Int32))))) (((130 : Int32) * x1) + ((Mo_count s0) x1.toNatClampNeg)).toNatClampNeg x2))) (((130 : Int32) * x1) + ((Mo_count s0) x1.toNatClampNeg)).toNatClampNeg (0 : Int32)))) (((130 : Int32) * x1) + ((Mo_count s0) x1.toNatClampNeg)).toNatClampNeg (0 : Int32))) (upd (Mo_parent (Mo_set_value (Mo_set_tag (Mo_set_kind (Mo_set_count s0 (upd (Mo_count s0) x1.toNatClampNeg (((Mo_count s0) x1.toNatClampNeg) + (1 : Int32)))) (upd (Mo_kind (Mo_set_count s0 (upd (Mo_count s0) x1.toNatClampNeg (((Mo_count s0) x1.toNatClampNeg) + (1 : Int32))))) (((130 : Int32) * x1) + ((Mo_count s0) x1.toNatClampNeg)).toNatClampNeg x2)) (upd (Mo_tag (Mo_set_kind (Mo_set_count s0 (upd (Mo_count s0) x1.toNatClampNeg (((Mo_count s0) x1.toNatClampNeg) + (1 : Int32)))) (upd (Mo_kind (Mo_set_count s0 (upd (Mo_count s0) x1.toNatClampNeg (((Mo_count s0) x1.toNatClampNeg) + (1 : Int32))))) (((130 : Int32) * x1) + ((Mo_count s0) x1.toNatClampNeg)).toNatClampNeg x2))) (((130 : Int32) * x1) + ((Mo_count s0) x1.toNatClampNeg)).toNatClampNeg (0 : Int32))) (upd (Mo_value (Mo_set_tag (Mo_set_kind (Mo_set_count s0 (upd (Mo_count s0) x1.toNatClampNeg (((Mo_count s0) x1.toNatClampNeg) + (1 : Int32)))) (upd (Mo_kind (Mo_set_count s0 (upd (Mo_count s0) x1.toNatClampNeg (((Mo_count s0) x1.toNatClampNeg) + (1 : Int32))))) (((130 : Int32) * x1) + ((Mo_count s0) x1.toNatClampNeg)).toNatClampNeg x2)) (upd (Mo_tag (Mo_set_kind (Mo_set_count s0 (upd (Mo_count s0) x1.toNatClampNeg (((Mo_count s0) x1.toNatClampNeg) + (1 : Int32)))) (upd (Mo_kind (Mo_set_count s0 (upd (Mo_count s0) x1.toNatClampNeg (((Mo_count s0) x1.toNatClampNeg) + (1 : Int32))))) (((130 : Int32) * x1) + ((Mo_count s0) x1.toNatClampNeg)).toNatClampNeg x2))) (((130 : Int32) * x1) + ((Mo_count s0) x1.toNatClampNeg)).toNatClampNeg (0 : Int32)))) (((130 : Int32) * x1) + ((Mo_count s0) x1.toNatClampNeg)).toNatClampNeg (0 : Int32)))) (((130 : Int32) * x1) + ((Mo_count s0) x1.toNatClampNeg)).toNatClampNeg x3)) (upd (Mo_first (Mo_set_parent (Mo_set_value (Mo_set_tag (Mo_set_kind (Mo_set_count s0 (upd (Mo_count s0) x1.toNatClampNeg (((Mo_count s0) x1.toNatClampNeg) + (1 : Int32)))) (upd (Mo_kind (Mo_set_count s0 (upd (Mo_count s0) x1.toNatClampNeg (((Mo_count s0) x1.toNatClampNeg) + (1 : Int32))))) (((130 : Int32) * x1) + ((Mo_count s0) x1.toNatClampNeg)).toNatClampNeg x2)) (upd (Mo_tag (Mo_set_kind (Mo_set_count s0 (upd (Mo_count s0) x1.toNatClampNeg (((Mo_count s0) x1.toNatClampNeg) + (1 : Int32)))) (upd (Mo_kind (Mo_set_count s0 (upd (Mo_count s0) x1.toNatClampNeg (((Mo_count s0) x1.toNatClampNeg) + (1 : Int32))))) (((130 : Int32) * x1) + ((Mo_count s0) x1.toNatClampNeg)).toNatClampNeg x2))) (((130 : Int32) * x1) + ((Mo_count s0) x1.toNatClampNeg)).toNatClampNeg (0 : Int32))) (upd (Mo_value (Mo_set_tag (Mo_set_kind (Mo_set_count s0 (upd (Mo_count s0) x1.toNatClampNeg (((Mo_count s0) x1.toNatClampNeg) + (1 : Int32)))) (upd (Mo_kind (Mo_set_count s0 (upd (Mo_count s0) x1.toNatClampNeg (((Mo_count s0) x1.toNatClampNeg) + (1 : Int32))))) (((130 : Int32) * x1) + ((Mo_count s0) x1.toNatClampNeg)).toNatClampNeg x2)) (upd (Mo_tag (Mo_set_kind (Mo_set_count s0 (upd (Mo_count s0) x1.toNatClampNeg (((Mo_count s0) x1.toNatClampNeg) + (1 : Int32)))) (upd (Mo_kind (Mo_set_count s0 (upd (Mo_count s0) x1.toNatClampNeg (((Mo_count s0) x1.toNatClampNeg) + (1 : Int32))))) (((130 : Int32) * x1) + ((Mo_count s0) x1.toNatClampNeg)).toNatClampNeg x2))) (((130 : Int32) * x1) + ((Mo_count s0) x1.toNatClampNeg)).toNatClampNeg (0 : Int32)))) (((130 : Int32) * x1) + ((Mo_count s0) x1.toNatClampNeg)).toNatClampNeg (0 : Int32))) (upd (Mo_parent (Mo_set_value (Mo_set_tag (Mo_set_kind (Mo_set_count s0 (upd (Mo_count s0) x1.toNatClampNeg (((Mo_count s0) x1.toNatClampNeg) + (1 : Int32)))) (upd (Mo_kind (Mo_set_count s0 (upd (Mo_count s0) x1.toNatClampNeg (((Mo_count s0) x1.toNatClampNeg) + (1 : Int32))))) (((130 : Int32) * x1) + ((Mo_count s0) x1.toNatClampNeg)).toNatClampNeg x2)) (upd (Mo_tag (Mo_set_kind (Mo_set_count s0 (upd (Mo_count s0) x1.toNatClampNeg (((Mo_count s0) x1.toNatClampNeg) + (1 : Int32)))) (upd (Mo_kind (Mo_set_count s0 (upd (Mo_count s0) x1.toNatClampNeg (((Mo_count s0) x1.toNatClampNeg) + (1 : Int32))))) (((130 : Int32) * x1) + ((Mo_count s0) x1.toNatClampNeg)).toNatClampNeg x2))) (((130 : Int32) * x1) + ((Mo_count s0) x1.toNatClampNeg)).toNatClampNeg (0 : Int32))) (upd (Mo_value (Mo_set_tag (Mo_set_kind (Mo_set_count s0 (upd (Mo_count s0) x1.toNatClampNeg (((Mo_count s0) x1.toNatClampNeg) + (1 : Int32)))) (upd (Mo_kind (Mo_set_count s0 (upd (Mo_count s0) x1.toNatClampNeg (((Mo_count s0) x1.toNatClampNeg) + (1 : Int32))))) (((130 : Int32) * x1) + ((Mo_count s0) x1.toNatClampNeg)).toNatClampNeg x2)) (upd (Mo_tag (Mo_set_kind (Mo_set_count s0 (upd (Mo_count s0) x1.toNatClampNeg (((Mo_count s0) x1.toNatClampNeg) + (1 : Int32)))) (upd (Mo_kind (Mo_set_count s0 (upd (Mo_count s0) x1.toNatClampNeg (((Mo_count s0) x1.toNatClampNeg) + (1 : Int32))))) (((130 : Int32) * x1) + ((Mo_count s0) x1.toNatClampNeg)).toNatClampNeg x2))) (((130 : Int32) * x1) + ((Mo_count s0) x1.toNatClampNeg)).toNatClampNeg (0 : Int32)))) (((130 : Int32) * x1) + ((Mo_count s0) x1.toNatClampNeg)).toNatClampNeg (0 : Int32)))) (((130 : Int32) * x1) + ((Mo_count s0) x1.toNatClampNeg)).toNatClampNeg x3))) (((130 : Int32) * x1) + ((Mo_count s0) x1.toNatClampNeg)).toNatClampNeg ((-1) : Int32))) (upd (Mo_next (Mo_set_first (Mo_set_parent (Mo_set_value (Mo_set_tag (Mo_set_kind (Mo_set_count s0 (upd (Mo_count s0) x1.toNatClampNeg (((Mo_count s0) x1.toNatClampNeg) + (1 : Int32)))) (upd (Mo_kind (Mo_set_count s0 (upd (Mo_count s0) x1.toNatClampNeg (((Mo_count s0) x1.toNatClampNeg) + (1 : Int32))))) (((130 : Int32) * x1) + ((Mo_count s0) x1.toNatClampNeg)).toNatClampNeg x2)) (upd (Mo_tag (Mo_set_kind (Mo_set_count s0 (upd (Mo_count s0) x1.toNatClampNeg (((Mo_count s0) x1.toNatClampNeg) + (1 : Int32)))) (upd (Mo_kind (Mo_set_count s0 (upd (Mo_count s0) x1.toNatClampNeg (((Mo_count s0) x1.toNatClampNeg) + (1 : Int32))))) (((130 : Int32) * x1) + ((Mo_count s0) x1.toNatClampNeg)).toNatClampNeg x2))) (((130 : Int32) * x1) + ((Mo_count s0) x1.toNatClampNeg)).toNatClampNeg (0 : Int32))) (upd (Mo_value (Mo_set_tag (Mo_set_kind (Mo_set_count s0 (upd (Mo_count s0) x1.toNatClampNeg (((Mo_count s0) x1.toNatClampNeg) + (1 : Int32)))) (upd (Mo_kind (Mo_set_count s0 (upd (Mo_count s0) x1.toNatClampNeg (((Mo_count s0) x1.toNatClampNeg) + (1 : Int32))))) (((130 : Int32) * x1) + ((Mo_count s0) x1.toNatClampNeg)).toNatClampNeg x2)) (upd (Mo_tag (Mo_set_kind (Mo_set_count s0 (upd (Mo_count s0) x1.toNatClampNeg (((Mo_count s0) x1.toNatClampNeg) + (1 : Int32)))) (upd (Mo_kind (Mo_set_count s0 (upd (Mo_count s0) x1.toNatClampNeg (((Mo_count s0) x1.toNatClampNeg) + (1 : Int32))))) (((130 : Int32) * x1) + ((Mo_count s0) x1.toNatClampNeg)).toNatClampNeg x2))) (((130 : Int32) * x1) + ((Mo_count s0) x1.toNatClampNeg)).toNatClampNeg (0 : Int32)))) (((130 : Int32) * x1) + ((Mo_count s0) x1.toNatClampNeg)).toNatClampNeg (0 : Int32))) (upd (Mo_parent (Mo_set_value (Mo_set_tag (Mo_set_kind (Mo_set_count s0 (upd (Mo_count s0) x1.toNatClampNeg (((Mo_count s0) x1.toNatClampNeg) + (1 : Int32)))) (upd (Mo_kind (Mo_set_count s0 (upd (Mo_count s0) x1.toNatClampNeg (((Mo_count s0) x1.toNatClampNeg) + (1 : Int32))))) (((130 : Int32) * x1) + ((Mo_count s0) x1.toNatClampNeg)).toNatClampNeg x2)) (upd (Mo_tag (Mo_set_kind (Mo_set_count s0 (upd (Mo_count s0) x1.toNatClampNeg (((Mo_count s0) x1.toNatClampNeg) + (1 : Int32)))) (upd (Mo_kind (Mo_set_count s0 (upd (Mo_count s0) x1.toNatClampNeg (((Mo_count s0) x1.toNatClampNeg) + (1 : Int32))))) (((130 : Int32) * x1) + ((Mo_count s0) x1.toNatClampNeg)).toNatClampNeg x2))) (((130 : Int32) * x1) + ((Mo_count s0) x1.toNatClampNeg)).toNatClampNeg (0 : Int32))) (upd (Mo_value (Mo_set_tag (Mo_set_kind (Mo_set_count s0 (upd (Mo_count s0) x1.toNatClampNeg (((Mo_count s0) x1.toNatClampNeg) + (1 : Int32)))) (upd (Mo_kind (Mo_set_count s0 (upd (Mo_count s0) x1.toNatClampNeg (((Mo_count s0) x1.toNatClampNeg) + (1 : Int32))))) (((130 : Int32) * x1) + ((Mo_count s0) x1.toNatClampNeg)).toNatClampNeg x2)) (upd (Mo_tag (Mo_set_kind (Mo_set_count s0 (upd (Mo_count s0) x1.toNatClampNeg (((Mo_count s0) x1.toNatClampNeg) + (1 : Int32)))) (upd (Mo_kind (Mo_set_count s0 (upd (Mo_count s0) x1.toNatClampNeg (((Mo_count s0) x1.toNatClampNeg) + (1 : Int32))))) (((130 : Int32) * x1) + ((Mo_count s0) x1.toNatClampNeg)).toNatClampNeg x2))) (((130 : Int32) * x1) + ((Mo_count s0) x1.toNatClampNeg)).toNatClampNeg (0 : Int32)))) (((130 : Int32) * x1) + ((Mo_count s0) x1.toNatClampNeg)).toNatClampNeg (0 : Int32)))) (((130 : Int32) * x1) + ((Mo_count s0) x1.toNatClampNeg)).toNatClampNeg x3)) (upd (Mo_first (Mo_set_parent (Mo_set_value (Mo_set_tag (Mo_set_kind (Mo_set_count s0 (upd (Mo_count s0) x1.toNatClampNeg (((Mo_count s0) x1.toNatClampNeg) + (1 : Int32)))) (upd (Mo_kind (Mo_set_count s0 (upd (Mo_count s0) x1.toNatClampNeg (((Mo_count s0) x1.toNatClampNeg) + (1 : Int32))))) (((130 : Int32) * x1) + ((Mo_count s0) x1.toNatClampNeg)).toNatClampNeg x2)) (upd (Mo_tag (Mo_set_kind (Mo_set_count s0 (upd (Mo_count s0) x1.toNatClampNeg (((Mo_count s0) x1.toNatClampNeg) + (1 : Int32)))) (upd (Mo_kind (Mo_set_count s0 (upd (Mo_count s0) x1.toNatClampNeg (((Mo_count s0) x1.toNatClampNeg) + (1 : Int32))))) (((130 : Int32) * x1) + ((Mo_count s0) x1.toNatClampNeg)).toNatClampNeg x2))) (((130 : Int32) * x1) + ((Mo_count s0) x1.toNatClampNeg)).toNatClampNeg (0 : Int32))) (upd (Mo_value (Mo_set_tag (Mo_set_kind (Mo_set_count s0 (upd (Mo_count s0) x1.toNatClampNeg (((Mo_count s0) x1.toNatClampNeg) + (1 : Int32)))) (upd (Mo_kind (Mo_set_count s0 (upd (Mo_count s0) x1.toNatClampNeg (((Mo_count s0) x1.toNatClampNeg) + (1 : Int32))))) (((130 : Int32) * x1) + ((Mo_count s0) x1.toNatClampNeg)).toNatClampNeg x2)) (upd (Mo_tag (Mo_set_kind (Mo_set_count s0 (upd (Mo_count s0) x1.toNatClampNeg (((Mo_count s0) x1.toNatClampNeg) + (1 : Int32)))) (upd (Mo_kind (Mo_set_count s0 (upd (Mo_count s0) x1.toNatClampNeg (((Mo_count s0) x1.toNatClampNeg) + (1 : Int32))))) (((130 : Int32) * x1) + ((Mo_count s0) x1.toNatClampNeg)).toNatClampNeg x2))) (((130 : Int32) * x1) + ((Mo_count s0) x1.toNatClampNeg)).toNatClampNeg (0 : Int32)))) (((130 : Int32) * x1) + ((Mo_count s0) x1.toNatClampNeg)).toNatClampNeg (0 : Int32))) (upd (Mo_parent (Mo_set_value (Mo_set_tag (Mo_set_kind (Mo_set_count s0 (upd (Mo_count s0) x1.toNatClampNeg (((Mo_count s0) x1.toNatClampNeg) + (1 : Int32)))) (upd (Mo_kind (Mo_set_count s0 (upd (Mo_count s0) x1.toNatClampNeg (((Mo_count s0) x1.toNatClampNeg) + (1 : Int32))))) (((130 : Int32) * x1) + ((Mo_count s0) x1.toNatClampNeg)).toNatClampNeg x2)) (upd (Mo_tag (Mo_set_kind (Mo_set_count s0 (upd (Mo_count s0) x1.toNatClampNeg (((Mo_count s0) x1.toNatClampNeg) + (1 : Int32)))) (upd (Mo_kind (Mo_set_count s0 (upd (Mo_count s0) x1.toNatClampNeg (((Mo_count s0) x1.toNatClampNeg) + (1 : Int32))))) (((130 : Int32) * x1) + ((Mo_count s0) x1.toNatClampNeg)).toNatClampNeg x2))) (((130 : Int32) * x1) + ((Mo_count s0) x1.toNatClampNeg)).toNatClampNeg (0 : Int32))) (upd (Mo_value (Mo_set_tag (Mo_set_kind (Mo_set_count s0 (upd (Mo_count s0) x1.toNatClampNeg (((Mo_count s0) x1.toNatClampNeg) + (1 : Int32)))) (upd (Mo_kind (Mo_set_count s0 (upd (Mo_count s0) x1.toNatClampNeg (((Mo_count s0) x1.toNatClampNeg) + (1 : Int32))))) (((130 : Int32) * x1) + ((Mo_count s0) x1.toNatClampNeg)).toNatClampNeg x2)) (upd (Mo_tag (Mo_set_kind (Mo_set_count s0 (upd (Mo_count s0) x1.toNatClampNeg (((Mo_count s0) x1.toNatClampNeg) + (1 : Int32)))) (upd (Mo_kind (Mo_set_count s0 (upd (Mo_count s0) x1.toNatClampNeg (((Mo_count s0) x1.toNatClampNeg) + (1 : Int32))))) (((130 : Int32) * x1) + ((Mo_count s0) x1.toNatClampNeg)).toNatClampNeg x2))) (((130 : Int32) * x1) + ((Mo_count s0) x1.toNatClampNeg)).toNatClampNeg (0 : Int32)))) (((130 : Int32) * x1) + ((Mo_count s0) x1.toNatClampNeg)).toNatClampNeg (0 : Int32)))) (((130 : Int32) * x1) + ((Mo_count s0) x1.toNatClampNeg)).toNatClampNeg x3))) (((130 : Int32) * x1) + ((Mo_count s0) x1.toNatClampNeg)).toNatClampNeg ((-1) : Int32)))) (((130 : Int32) * x1) + ((Mo_count s0) x1.toNatClampNeg)).toNatClampNeg ((-1) : Int32))) (upd (Mo_last (Mo_set_next (Mo_set_first (Mo_set_parent (Mo_set_value (Mo_set_tag (Mo_set_kind (Mo_set_count s0 (upd (Mo_count s0) x1.toNatClampNeg (((Mo_count s0) x1.toNatClampNeg) + (1 : Int32)))) (upd (Mo_kind (Mo_set_count s0 (upd (Mo_count s0) x1.toNatClampNeg (((Mo_count s0) x1.toNatClampNeg) + (1 : Int32))))) (((130 : Int32) * x1) + ((Mo_count s0) x1.toNatClampNeg)).toNatClampNeg x2)) (upd (Mo_tag (Mo_set_kind (Mo_set_count s0 (upd (Mo_count s0) x1.toNatClampNeg (((Mo_count s0) x1.toNatClampNeg) + (1 : Int32)))) (upd (Mo_kind (Mo_set_count s0 (upd (Mo_count s0) x1.toNatClampNeg (((Mo_count s0) x1.toNatClampNeg) + (1 : Int32))))) (((130 : Int32) * x1) + ((Mo_count s0) x1.toNatClampNeg)).toNatClampNeg x2))) (((130 : Int32) * x1) + ((Mo_count s0) x1.toNatClampNeg)).toNatClampNeg (0 : Int32))) (upd (Mo_value (Mo_set_tag (Mo_set_kind (Mo_set_count s0 (upd (Mo_count s0) x1.toNatClampNeg (((Mo_count s0) x1.toNatClampNeg) + (1 : Int32)))) (upd (Mo_kind (Mo_set_count s0 (upd (Mo_count s0) x1.toNatClampNeg (((Mo_count s0) x1.toNatClampNeg) + (1 : Int32))))) (((130 : Int32) * x1) + ((Mo_count s0) x1.toNatClampNeg)).toNatClampNeg x2)) (upd (Mo_tag (Mo_set_kind (Mo_set_count s0 (upd (Mo_count s0) x1.toNatClampNeg (((Mo_count s0) x1.toNatClampNeg) + (1 : Int32)))) (upd (Mo_kind (Mo_set_count s0 (upd (Mo_count s0) x1.toNatClampNeg (((Mo_count s0) x1.toNatClampNeg) + (1 : Int32))))) (((130 : Int32) * x1) + ((Mo_count s0) x1.toNatClampNeg)).toNatClampNeg x2))) (((130 : Int32) * x1) + ((Mo_count s0) x1.toNatClampNeg)).toNatClampNeg (0 : Int32)))) (((130 : Int32) * x1) + ((Mo_count s0) x1.toNatClampNeg)).toNatClampNeg (0 : Int32))) (upd (Mo_parent (Mo_set_value (Mo_set_tag (Mo_set_kind (Mo_set_count s0 (upd (Mo_count s0) x1.toNatClampNeg (((Mo_count s0) x1.toNatClampNeg) + (1 : Int32)))) (upd (Mo_kind (Mo_set_count s0 (upd (Mo_count s0) x1.toNatClampNeg (((Mo_count s0) x1.toNatClampNeg) + (1 : Int32))))) (((130 : Int32) * x1) + ((Mo_count s0) x1.toNatClampNeg)).toNatClampNeg x2)) (upd (Mo_tag (Mo_set_kind (Mo_set_count s0 (upd (Mo_count s0) x1.toNatClampNeg (((Mo_count s0) x1.toNatClampNeg) + (1 : Int32)))) (upd (Mo_kind (Mo_set_count s0 (upd (Mo_count s0) x1.toNatClampNeg (((Mo_count s0) x1.toNatClampNeg) + (1 : Int32))))) (((130 : Int32) * x1) + ((Mo_count s0) x1.toNatClampNeg)).toNatClampNeg x2))) (((130 : Int32) * x1) + ((Mo_count s0) x1.toNatClampNeg)).toNatClampNeg (0 : Int32))) (upd (Mo_value (Mo_set_tag (Mo_set_kind (Mo_set_count s0 (upd (Mo_count s0) x1.toNatClampNeg (((Mo_count s0) x1.toNatClampNeg) + (1 : Int32)))) (upd (Mo_kind (Mo_set_count s0 (upd (Mo_count s0) x1.toNatClampNeg (((Mo_count s0) x1.toNatClampNeg) + (1 : Int32))))) (((130 : Int32) * x1) + ((Mo_count s0) x1.toNatClampNeg)).toNatClampNeg x2)) (upd (Mo_tag (Mo_set_kind (Mo_set_count s0 (upd (Mo_count s0) x1.toNatClampNeg (((Mo_count s0) x1.toNatClampNeg) + (1 : Int32)))) (upd (Mo_kind (Mo_set_count s0 (upd (Mo_count s0) x1.toNatClampNeg (((Mo_count s0) x1.toNatClampNeg) + (1 : Int32))))) (((130 : Int32) * x1) + ((Mo_count s0) x1.toNatClampNeg)).toNatClampNeg x2))) (((130 : Int32) * x1) + ((Mo_count s0) x1.toNatClampNeg)).toNatClampNeg (0 : Int32)))) (((130 : Int32) * x1) + ((Mo_count s0) x1.toNatClampNeg)).toNatClampNeg (0 : Int32)))) (((130 : Int32) * x1) + ((Mo_count s0) x1.toNatClampNeg)).toNatClampNeg x3)) (upd (Mo_first (Mo_set_parent (Mo_set_value (Mo_set_tag (Mo_set_kind (Mo_set_count s0 (upd (Mo_count s0) x1.toNatClampNeg (((Mo_count s0) x1.toNatClampNeg) + (1 : Int32)))) (upd (Mo_kind (Mo_set_count s0 (upd (Mo_count s0) x1.toNatClampNeg (((Mo_count s0) x1.toNatClampNeg) + (1 : Int32))))) (((130 : Int32) * x1) + ((Mo_count s0) x1.toNatClampNeg)).toNatClampNeg x2)) (upd (Mo_tag (Mo_set_kind (Mo_set_count s0 (upd (Mo_count s0) x1.toNatClampNeg (((Mo_count s0) x1.toNatClampNeg) + (1 : Int32)))) (upd (Mo_kind (Mo_set_count s0 (upd (Mo_count s0) x1.toNatClampNeg (((Mo_count s0) x1.toNatClampNeg) + (1 : Int32))))) (((130 : Int32) * x1) + ((Mo_count s0) x1.toNatClampNeg)).toNatClampNeg x2))) (((130 : Int32) * x1) + ((Mo_count s0) x1.toNatClampNeg)).toNatClampNeg (0 : Int32))) (upd (Mo_value (Mo_set_tag (Mo_set_kind (Mo_set_count s0 (upd (Mo_count s0) x1.toNatClampNeg (((Mo_count s0) x1.toNatClampNeg) + (1 : Int32)))) (upd (Mo_kind (Mo_set_count s0 (upd (Mo_count s0) x1.toNatClampNeg (((Mo_count s0) x1.toNatClampNeg) + (1 : Int32))))) (((130 : Int32) * x1) + ((Mo_count s0) x1.toNatClampNeg)).toNatClampNeg x2)) (upd (Mo_tag (Mo_set_kind (Mo_set_count s0 (upd (Mo_count s0) x1.toNatClampNeg (((Mo_count s0) x1.toNatClampNeg) + (1 : Int32)))) (upd (Mo_kind (Mo_set_count s0 (upd (Mo_count s0) x1.toNatClampNeg (((Mo_count s0) x1.toNatClampNeg) + (1 : Int32))))) (((130 : Int32) * x1) + ((Mo_count s0) x1.toNatClampNeg)).toNatClampNeg x2))) (((130 : Int32) * x1) + ((Mo_count s0) x1.toNatClampNeg)).toNatClampNeg (0 : Int32)))) (((130 : Int32) * x1) + ((Mo_count s0) x1.toNatClampNeg)).toNatClampNeg (0 : Int32))) (upd (Mo_parent (Mo_set_value (Mo_set_tag (Mo_set_kind (Mo_set_count s0 (upd (Mo_count s0) x1.toNatClampNeg (((Mo_count s0) x1.toNatClampNeg) + (1 : Int32)))) (upd (Mo_kind (Mo_set_count s0 (upd (Mo_count s0) x1.toNatClampNeg (((Mo_count s0) x1.toNatClampNeg) + (1 : Int32))))) (((130 : Int32) * x1) + ((Mo_count s0) x1.toNatClampNeg)).toNatClampNeg x2)) (upd (Mo_tag (Mo_set_kind (Mo_set_count s0 (upd (Mo_count s0) x1.toNatClampNeg (((Mo_count s0) x1.toNatClampNeg) + (1 : Int32)))) (upd (Mo_kind (Mo_set_count s0 (upd (Mo_count s0) x1.toNatClampNeg (((Mo_count s0) x1.toNatClampNeg) + (1 : Int32))))) (((130 : Int32) * x1) + ((Mo_count s0) x1.toNatClampNeg)).toNatClampNeg x2))) (((130 : Int32) * x1) + ((Mo_count s0) x1.toNatClampNeg)).toNatClampNeg (0 : Int32))) (upd (Mo_value (Mo_set_tag (Mo_set_kind (Mo_set_count s0 (upd (Mo_count s0) x1.toNatClampNeg (((Mo_count s0) x1.toNatClampNeg) + (1 : Int32)))) (upd (Mo_kind (Mo_set_count s0 (upd (Mo_count s0) x1.toNatClampNeg (((Mo_count s0) x1.toNatClampNeg) + (1 : Int32))))) (((130 : Int32) * x1) + ((Mo_count s0) x1.toNatClampNeg)).toNatClampNeg x2)) (upd (Mo_tag (Mo_set_kind (Mo_set_count s0 (upd (Mo_count s0) x1.toNatClampNeg (((Mo_count s0) x1.toNatClampNeg) + (1 : Int32)))) (upd (Mo_kind (Mo_set_count s0 (upd (Mo_count s0) x1.toNatClampNeg (((Mo_count s0) x1.toNatClampNeg) + (1 : Int32))))) (((130 : Int32) * x1) + ((Mo_count s0) x1.toNatClampNeg)).toNatClampNeg x2))) (((130 : Int32) * x1) + ((Mo_count s0) x1.toNatClampNeg)).toNatClampNeg (0 : Int32)))) (((130 : Int32) * x1) + ((Mo_count s0) x1.toNatClampNeg)).toNatClampNeg (0 : Int32)))) (((130 : Int32) * x1) + ((Mo_count s0) x1.toNatClampNeg)).toNatClampNeg x3))) (((130 : Int32) * x1) + ((Mo_count s0) x1.toNatClampNeg)).toNatClampNeg ((-1) : Int32))) (upd (Mo_next (Mo_set_first (Mo_set_parent (Mo_set_value (Mo_set_tag (Mo_set_kind (Mo_set_count s0 (upd (Mo_count s0) x1.toNatClampNeg (((Mo_count s0) x1.toNatClampNeg) + (1 : Int32)))) (upd (Mo_kind (Mo_set_count s0 (upd (Mo_count s0) x1.toNatClampNeg (((Mo_count s0) x1.toNatClampNeg) + (1 : Int32))))) (((130 : Int32) * x1) + ((Mo_count s0) x1.toNatClampNeg)).toNatClampNeg x2)) (upd (Mo_tag (Mo_set_kind (Mo_set_count s0 (upd (Mo_count s0) x1.toNatClampNeg (((Mo_count s0) x1.toNatClampNeg) + (1 : Int32)))) (upd (Mo_kind (Mo_set_count s0 (upd (Mo_count s0) x1.toNatClampNeg (((Mo_count s0) x1.toNatClampNeg) + (1 : Int32))))) (((130 : Int32) * x1) + ((Mo_count s0) x1.toNatClampNeg)).toNatClampNeg x2))) (((130 : Int32) * x1) + ((Mo_count s0) x1.toNatClampNeg)).toNatClampNeg (0 : Int32))) (upd (Mo_value (Mo_set_tag (Mo_set_kind (Mo_set_count s0 (upd (Mo_count s0) x1.toNatClampNeg (((Mo_count s0) x1.toNatClampNeg) + (1 : Int32)))) (upd (Mo_kind (Mo_set_count s0 (upd (Mo_count s0) x1.toNatClampNeg (((Mo_count s0) x1.toNatClampNeg) + (1 : Int32))))) (((130 : Int32) * x1) + ((Mo_count s0) x1.toNatClampNeg)).toNatClampNeg x2)) (upd (Mo_tag (Mo_set_kind (Mo_set_count s0 (upd (Mo_count s0) x1.toNatClampNeg (((Mo_count s0) x1.toNatClampNeg) + (1 : Int32)))) (upd (Mo_kind (Mo_set_count s0 (upd (Mo_count s0) x1.toNatClampNeg (((Mo_count s0) x1.toNatClampNeg) + (1 : Int32))))) (((130 : Int32) * x1) + ((Mo_count s0) x1.toNatClampNeg)).toNatClampNeg x2))) (((130 : Int32) * x1) + ((Mo_count s0) x1.toNatClampNeg)).toNatClampNeg (0 : Int32)))) (((130 : Int32) * x1) + ((Mo_count s0) x1.toNatClampNeg)).toNatClampNeg (0 : Int32))) (upd (Mo_parent (Mo_set_value (Mo_set_tag (Mo_set_kind (Mo_set_count s0 (upd (Mo_count s0) x1.toNatClampNeg (((Mo_count s0) x1.toNatClampNeg) + (1 : Int32)))) (upd (Mo_kind (Mo_set_count s0 (upd (Mo_count s0) x1.toNatClampNeg (((Mo_count s0) x1.toNatClampNeg) + (1 : Int32))))) (((130 : Int32) * x1) + ((Mo_count s0) x1.toNatClampNeg)).toNatClampNeg x2)) (upd (Mo_tag (Mo_set_kind (Mo_set_count s0 (upd (Mo_count s0) x1.toNatClampNeg (((Mo_count s0) x1.toNatClampNeg) + (1 : Int32)))) (upd (Mo_kind (Mo_set_count s0 (upd (Mo_count s0) x1.toNatClampNeg (((Mo_count s0) x1.toNatClampNeg) + (1 : Int32))))) (((130 : Int32) * x1) + ((Mo_count s0) x1.toNatClampNeg)).toNatClampNeg x2))) (((130 : Int32) * x1) + ((Mo_count s0) x1.toNatClampNeg)).toNatClampNeg (0 : Int32))) (upd (Mo_value (Mo_set_tag (Mo_set_kind (Mo_set_count s0 (upd (Mo_count s0) x1.toNatClampNeg (((Mo_count s0) x1.toNatClampNeg) + (1 : Int32)))) (upd (Mo_kind (Mo_set_count s0 (upd (Mo_count s0) x1.toNatClampNeg (((Mo_count s0) x1.toNatClampNeg) + (1 : Int32))))) (((130 : Int32) * x1) + ((Mo_count s0) x1.toNatClampNeg)).toNatClampNeg x2)) (upd (Mo_tag (Mo_set_kind (Mo_set_count s0 (upd (Mo_count s0) x1.toNatClampNeg (((Mo_count s0) x1.toNatClampNeg) + (1 : Int32)))) (upd (Mo_kind (Mo_set_count s0 (upd (Mo_count s0) x1.toNatClampNeg (((Mo_count s0) x1.toNatClampNeg) + (1 : Int32))))) (((130 : Int32) * x1) + ((Mo_count s0) x1.toNatClampNeg)).toNatClampNeg x2))) (((130 : Int32) * x1) + ((Mo_count s0) x1.toNatClampNeg)).toNatClampNeg (0 : Int32)))) (((130 : Int32) * x1) + ((Mo_count s0) x1.toNatClampNeg)).toNatClampNeg (0 : Int32)))) (((130 : Int32) * x1) + ((Mo_count s0) x1.toNatClampNeg)).toNatClampNeg x3)) (upd (Mo_first (Mo_set_parent (Mo_set_value (Mo_set_tag (Mo_set_kind (Mo_set_count s0 (upd (Mo_count s0) x1.toNatClampNeg (((Mo_count s0) x1.toNatClampNeg) + (1 : Int32)))) (upd (Mo_kind (Mo_set_count s0 (upd (Mo_count s0) x1.toNatClampNeg (((Mo_count s0) x1.toNatClampNeg) + (1 : Int32))))) (((130 : Int32) * x1) + ((Mo_count s0) x1.toNatClampNeg)).toNatClampNeg x2)) (upd (Mo_tag (Mo_set_kind (Mo_set_count s0 (upd (Mo_count s0) x1.toNatClampNeg (((Mo_count s0) x1.toNatClampNeg) + (1 : Int32)))) (upd (Mo_kind (Mo_set_count s0 (upd (Mo_count s0) x1.toNatClampNeg (((Mo_count s0) x1.toNatClampNeg) + (1 : Int32))))) (((130 : Int32) * x1) + ((Mo_count s0) x1.toNatClampNeg)).toNatClampNeg x2))) (((130 : Int32) * x1) + ((Mo_count s0) x1.toNatClampNeg)).toNatClampNeg (0 : Int32))) (upd (Mo_value (Mo_set_tag (Mo_set_kind (Mo_set_count s0 (upd (Mo_count s0) x1.toNatClampNeg (((Mo_count s0) x1.toNatClampNeg) + (1 : Int32)))) (upd (Mo_kind (Mo_set_count s0 (upd (Mo_count s0) x1.toNatClampNeg (((Mo_count s0) x1.toNatClampNeg) + (1 : Int32))))) (((130 : Int32) * x1) + ((Mo_count s0) x1.toNatClampNeg)).toNatClampNeg x2)) (upd (Mo_tag (Mo_set_kind (Mo_set_count s0 (upd (Mo_count s0) x1.toNatClampNeg (((Mo_count s0) x1.toNatClampNeg) + (1 : Int32)))) (upd (Mo_kind (Mo_set_count s0 (upd (Mo_count s0) x1.toNatClampNeg (((Mo_count s0) x1.toNatClampNeg) + (1 : Int32))))) (((130 : Int32) * x1) + ((Mo_count s0) x1.toNatClampNeg)).toNatClampNeg x2))) (((130 : Int32) * x1) + ((Mo_count s0) x1.toNatClampNeg)).toNatClampNeg (0 : Int32)))) (((130 : Int32) * x1) + ((Mo_count s0) x1.toNatClampNeg)).toNatClampNeg (0 : Int32))) (upd (Mo_parent (Mo_set_value (Mo_set_tag (Mo_set_kind (Mo_set_count s0 (upd (Mo_count s0) x1.toNatClampNeg (((Mo_count s0) x1.toNatClampNeg) + (1 : Int32)))) (upd (Mo_kind (Mo_set_count s0 (upd (Mo_count s0) x1.toNatClampNeg (((Mo_count s0) x1.toNatClampNeg) + (1 : Int32))))) (((130 : Int32) * x1) + ((Mo_count s0) x1.toNatClampNeg)).toNatClampNeg x2)) (upd (Mo_tag (Mo_set_kind (Mo_set_count s0 (upd (Mo_count s0) x1.toNatClampNeg (((Mo_count s0) x1.toNatClampNeg) + (1 : Int32)))) (upd (Mo_kind (Mo_set_count s0 (upd (Mo_count s0) x1.toNatClampNeg (((Mo_count s0) x1.toNatClampNeg) + (1 : Int32))))) (((130 : Int32) * x1) + ((Mo_count s0) x1.toNatClampNeg)).toNatClampNeg x2))) (((130 : Int32) * x1) + ((Mo_count s0) x1.toNatClampNeg)).toNatClampNeg (0 : Int32))) (upd (Mo_value (Mo_set_tag (Mo_set_kind (Mo_set_count s0 (upd (Mo_count s0) x1.toNatClampNeg (((Mo_count s0) x1.toNatClampNeg) + (1 : Int32)))) (upd (Mo_kind (Mo_set_count s0 (upd (Mo_count s0) x1.toNatClampNeg (((Mo_count s0) x1.toNatClampNeg) + (1 : Int32))))) (((130 : Int32) * x1) + ((Mo_count s0) x1.toNatClampNeg)).toNatClampNeg x2)) (upd (Mo_tag (Mo_set_kind (Mo_set_count s0 (upd (Mo_count s0) x1.toNatClampNeg (((Mo_count s0) x1.toNatClampNeg) + (1 : Int32)))) (upd (Mo_kind (Mo_set_count s0 (upd (Mo_count s0) x1.toNatClampNeg (((Mo_count s0) x1.toNatClampNeg) + (1 : Int32))))) (((130 : Int32) * x1) + ((Mo_count s0) x1.toNatClampNeg)).toNatClampNeg x2))) (((130 : Int32) * x1) + ((Mo_count s0) x1.toNatClampNeg)).toNatClampNeg (0 : Int32)))) (((130 : Int32) * x1) + ((Mo_count s0) x1.toNatClampNeg)).toNatClampNeg (0 : Int32)))) (((130 : Int32) * x1) + ((Mo_count s0) x1.toNatClampNeg)).toNatClampNeg x3))) (((130 : Int32) * x1) + ((Mo_count s0) x1.toNatClampNeg)).toNatClampNeg ((-1) : Int32)))) (((130 : Int32) * x1) + ((Mo_count s0) x1.toNatClampNeg)).toNatClampNeg ((-1) : Int32)))) (((130 : Int32) * x1) + ((Mo_count s0) x1.toNatClampNeg)).toNatClampNeg ((-1) : Int32))) (upd (Mo_many (Mo_set_last (Mo_set_next (Mo_set_first (Mo_set_parent (Mo_set_value (Mo_set_tag (Mo_set_kind (Mo_set_count s0 (upd (Mo_count s0) x1.toNatClampNeg (((Mo_count s0) x1.toNatClampNeg) + (1 : Int32)))) (upd (Mo_kind (Mo_set_count s0 (upd (Mo_count s0) x1.toNatClampNeg (((Mo_count s0) x1.toNatClampNeg) + (1 : Int32))))) (((130 : Int32) * x1) + ((Mo_count s0) x1.toNatClampNeg)).toNatClampNeg x2)) (upd (Mo_tag (Mo_set_kind (Mo_set_count s0 (upd (Mo_count s0) x1.toNatClampNeg (((Mo_count s0) x1.toNatClampNeg) + (1 : Int32)))) (upd (Mo_kind (Mo_set_count s0 (upd (Mo_count s0) x1.toNatClampNeg (((Mo_count s0) x1.toNatClampNeg) + (1 : Int32))))) (((130 : Int32) * x1) + ((Mo_count s0) x1.toNatClampNeg)).toNatClampNeg x2))) (((130 : Int32) * x1) + ((Mo_count s0) x1.toNatClampNeg)).toNatClampNeg (0 : Int32))) (upd (Mo_value (Mo_set_tag (Mo_set_kind (Mo_set_count s0 (upd (Mo_count s0) x1.toNatClampNeg (((Mo_count s0) x1.toNatClampNeg) + (1 : Int32)))) (upd (Mo_kind (Mo_set_count s0 (upd (Mo_count s0) x1.toNatClampNeg (((Mo_count s0) x1.toNatClampNeg) + (1 : Int32))))) (((130 : Int32) * x1) + ((Mo_count s0) x1.toNatClampNeg)).toNatClampNeg x2)) (upd (Mo_tag (Mo_set_kind (Mo_set_count s0 (upd (Mo_count s0) x1.toNatClampNeg (((Mo_count s0) x1.toNatClampNeg) + (1 : Int32)))) (upd (Mo_kind (Mo_set_count s0 (upd (Mo_count s0) x1.toNatClampNeg (((Mo_count s0) x1.toNatClampNeg) + (1 : Int32))))) (((130 : Int32) * x1) + ((Mo_count s0) x1.toNatClampNeg)).toNatClampNeg x2))) (((130 : Int32) * x1) + ((Mo_count s0) x1.toNatClampNeg)).toNatClampNeg (0 : Int32)))) (((130 : Int32) * x1) + ((Mo_count s0) x1.toNatClampNeg)).toNatClampNeg (0 : Int32))) (upd (Mo_parent (Mo_set_value (Mo_set_tag (Mo_set_kind (Mo_set_count s0 (upd (Mo_count s0) x1.toNatClampNeg (((Mo_count s0) x1.toNatClampNeg) + (1 : Int32)))) (upd (Mo_kind (Mo_set_count s0 (upd (Mo_count s0) x1.toNatClampNeg (((Mo_count s0) x1.toNatClampNeg) + (1 : Int32))))) (((130 : Int32) * x1) + ((Mo_count s0) x1.toNatClampNeg)).toNatClampNeg x2)) (upd (Mo_tag (Mo_set_kind (Mo_set_count s0 (upd (Mo_count s0) x1.toNatClampNeg (((Mo_count s0) x1.toNatClampNeg) + (1 : Int32)))) (upd (Mo_kind (Mo_set_count s0 (upd (Mo_count s0) x1.toNatClampNeg (((Mo_count s0) x1.toNatClampNeg) + (1 : Int32))))) (((130 : Int32) * x1) + ((Mo_count s0) x1.toNatClampNeg)).toNatClampNeg x2))) (((130 : Int32) * x1) + ((Mo_count s0) x1.toNatClampNeg)).toNatClampNeg (0 : Int32))) (upd (Mo_value (Mo_set_tag (Mo_set_kind (Mo_set_count s0 (upd (Mo_count s0) x1.toNatClampNeg (((Mo_count s0) x1.toNatClampNeg) + (1 : Int32)))) (upd (Mo_kind (Mo_set_count s0 (upd (Mo_count s0) x1.toNatClampNeg (((Mo_count s0) x1.toNatClampNeg) + (1 : Int32))))) (((130 : Int32) * x1) + ((Mo_count s0) x1.toNatClampNeg)).toNatClampNeg x2)) (upd (Mo_tag (Mo_set_kind (Mo_set_count s0 (upd (Mo_count s0) x1.toNatClampNeg (((Mo_count s0) x1.toNatClampNeg) + (1 : Int32)))) (upd (Mo_kind (Mo_set_count s0 (upd (Mo_count s0) x1.toNatClampNeg (((Mo_count s0) x1.toNatClampNeg) + (1 : Int32))))) (((130 : Int32) * x1) + ((Mo_count s0) x1.toNatClampNeg)).toNatClampNeg x2))) (((130 : Int32) * x1) + ((Mo_count s0) x1.toNatClampNeg)).toNatClampNeg (0 : Int32)))) (((130 : Int32) * x1) + ((Mo_count s0) x1.toNatClampNeg)).toNatClampNeg (0 : Int32)))) (((130 : Int32) * x1) + ((Mo_count s0) x1.toNatClampNeg)).toNatClampNeg x3)) (upd (Mo_first (Mo_set_parent (Mo_set_value (Mo_set_tag (Mo_set_kind (Mo_set_count s0 (upd (Mo_count s0) x1.toNatClampNeg (((Mo_count s0) x1.toNatClampNeg) + (1 : Int32)))) (upd (Mo_kind (Mo_set_count s0 (upd (Mo_count s0) x1.toNatClampNeg (((Mo_count s0) x1.toNatClampNeg) + (1 : Int32))))) (((130 : Int32) * x1) + ((Mo_count s0) x1.toNatClampNeg)).toNatClampNeg x2)) (upd (Mo_tag (Mo_set_kind (Mo_set_count s0 (upd (Mo_count s0) x1.toNatClampNeg (((Mo_count s0) x1.toNatClampNeg) + (1 : Int32)))) (upd (Mo_kind (Mo_set_count s0 (upd (Mo_count s0) x1.toNatClampNeg (((Mo_count s0) x1.toNatClampNeg) + (1 : Int32))))) (((130 : Int32) * x1) + ((Mo_count s0) x1.toNatClampNeg)).toNatClampNeg x2))) (((130 : Int32) * x1) + ((Mo_count s0) x1.toNatClampNeg)).toNatClampNeg (0 : Int32))) (upd (Mo_value (Mo_set_tag (Mo_set_kind (Mo_set_count s0 (upd (Mo_count s0) x1.toNatClampNeg (((Mo_count s0) x1.toNatClampNeg) + (1 : Int32)))) (upd (Mo_kind (Mo_set_count s0 (upd (Mo_count s0) x1.toNatClampNeg (((Mo_count s0) x1.toNatClampNeg) + (1 : Int32))))) (((130 : Int32) * x1) + ((Mo_count s0) x1.toNatClampNeg)).toNatClampNeg x2)) (upd (Mo_tag (Mo_set_kind (Mo_set_count s0 (upd (Mo_count s0) x1.toNatClampNeg (((Mo_count s0) x1.toNatClampNeg) + (1 : Int32)))) (upd (Mo_kind (Mo_set_count s0 (upd (Mo_count s0) x1.toNatClampNeg (((Mo_count s0) x1.toNatClampNeg) + (1 : Int32))))) (((130 : Int32) * x1) + ((Mo_count s0) x1.toNatClampNeg)).toNatClampNeg x2))) (((130 : Int32) * x1) + ((Mo_count s0) x1.toNatClampNeg)).toNatClampNeg (0 : Int32)))) (((130 : Int32) * x1) + ((Mo_count s0) x1.toNatClampNeg)).toNatClampNeg (0 : Int32))) (upd (Mo_parent (Mo_set_value (Mo_set_tag (Mo_set_kind (Mo_set_count s0 (upd (Mo_count s0) x1.toNatClampNeg (((Mo_count s0) x1.toNatClampNeg) + (1 : Int32)))) (upd (Mo_kind (Mo_set_count s0 (upd (Mo_count s0) x1.toNatClampNeg (((Mo_count s0) x1.toNatClampNeg) + (1 : Int32))))) (((130 : Int32) * x1) + ((Mo_count s0) x1.toNatClampNeg)).toNatClampNeg x2)) (upd (Mo_tag (Mo_set_kind (Mo_set_count s0 (upd (Mo_count s0) x1.toNatClampNeg (((Mo_count s0) x1.toNatClampNeg) + (1 : Int32)))) (upd (Mo_kind (Mo_set_count s0 (upd (Mo_count s0) x1.toNatClampNeg (((Mo_count s0) x1.toNatClampNeg) + (1 : Int32))))) (((130 : Int32) * x1) + ((Mo_count s0) x1.toNatClampNeg)).toNatClampNeg x2))) (((130 : Int32) * x1) + ((Mo_count s0) x1.toNatClampNeg)).toNatClampNeg (0 : Int32))) (upd (Mo_value (Mo_set_tag (Mo_set_kind (Mo_set_count s0 (upd (Mo_count s0) x1.toNatClampNeg (((Mo_count s0) x1.toNatClampNeg) + (1 : Int32)))) (upd (Mo_kind (Mo_set_count s0 (upd (Mo_count s0) x1.toNatClampNeg (((Mo_count s0) x1.toNatClampNeg) + (1 : Int32))))) (((130 : Int32) * x1) + ((Mo_count s0) x1.toNatClampNeg)).toNatClampNeg x2)) (upd (Mo_tag (Mo_set_kind (Mo_set_count s0 (upd (Mo_count s0) x1.toNatClampNeg (((Mo_count s0) x1.toNatClampNeg) + (1 : Int32)))) (upd (Mo_kind (Mo_set_count s0 (upd (Mo_count s0) x1.toNatClampNeg (((Mo_count s0) x1.toNatClampNeg) + (1 : Int32))))) (((130 : Int32) * x1) + ((Mo_count s0) x1.toNatClampNeg)).toNatClampNeg x2))) (((130 : Int32) * x1) + ((Mo_count s0) x1.toNatClampNeg)).toNatClampNeg (0 : Int32)))) (((130 : Int32) * x1) + ((Mo_count s0) x1.toNatClampNeg)).toNatClampNeg (0 : Int32)))) (((130 : Int32) * x1) + ((Mo_count s0) x1.toNatClampNeg)).toNatClampNeg x3))) (((130 : Int32) * x1) + ((Mo_count s0) x1.toNatClampNeg)).toNatClampNeg ((-1) : Int32))) (upd (Mo_next (Mo_set_first (Mo_set_parent (Mo_set_value (Mo_set_tag (Mo_set_kind (Mo_set_count s0 (upd (Mo_count s0) x1.toNatClampNeg (((Mo_count s0) x1.toNatClampNeg) + (1 : Int32)))) (upd (Mo_kind (Mo_set_count s0 (upd (Mo_count s0) x1.toNatClampNeg (((Mo_count s0) x1.toNatClampNeg) + (1 : Int32))))) (((130 : Int32) * x1) + ((Mo_count s0) x1.toNatClampNeg)).toNatClampNeg x2)) (upd (Mo_tag (Mo_set_kind (Mo_set_count s0 (upd (Mo_count s0) x1.toNatClampNeg (((Mo_count s0) x1.toNatClampNeg) + (1 : Int32)))) (upd (Mo_kind (Mo_set_count s0 (upd (Mo_count s0) x1.toNatClampNeg (((Mo_count s0) x1.toNatClampNeg) + (1 : Int32))))) (((130 : Int32) * x1) + ((Mo_count s0) x1.toNatClampNeg)).toNatClampNeg x2))) (((130 : Int32) * x1) + ((Mo_count s0) x1.toNatClampNeg)).toNatClampNeg (0 : Int32))) (upd (Mo_value (Mo_set_tag (Mo_set_kind (Mo_set_count s0 (upd (Mo_count s0) x1.toNatClampNeg (((Mo_count s0) x1.toNatClampNeg) + (1 : Int32)))) (upd (Mo_kind (Mo_set_count s0 (upd (Mo_count s0) x1.toNatClampNeg (((Mo_count s0) x1.toNatClampNeg) + (1 : Int32))))) (((130 : Int32) * x1) + ((Mo_count s0) x1.toNatClampNeg)).toNatClampNeg x2)) (upd (Mo_tag (Mo_set_kind (Mo_set_count s0 (upd (Mo_count s0) x1.toNatClampNeg (((Mo_count s0) x1.toNatClampNeg) + (1 : Int32)))) (upd (Mo_kind (Mo_set_count s0 (upd (Mo_count s0) x1.toNatClampNeg (((Mo_count s0) x1.toNatClampNeg) + (1 : Int32))))) (((130 : Int32) * x1) + ((Mo_count s0) x1.toNatClampNeg)).toNatClampNeg x2))) (((130 : Int32) * x1) + ((Mo_count s0) x1.toNatClampNeg)).toNatClampNeg (0 : Int32)))) (((130 : Int32) * x1) + ((Mo_count s0) x1.toNatClampNeg)).toNatClampNeg (0 : Int32))) (upd (Mo_parent (Mo_set_value (Mo_set_tag (Mo_set_kind (Mo_set_count s0 (upd (Mo_count s0) x1.toNatClampNeg (((Mo_count s0) x1.toNatClampNeg) + (1 : Int32)))) (upd (Mo_kind (Mo_set_count s0 (upd (Mo_count s0) x1.toNatClampNeg (((Mo_count s0) x1.toNatClampNeg) + (1 : Int32))))) (((130 : Int32) * x1) + ((Mo_count s0) x1.toNatClampNeg)).toNatClampNeg x2)) (upd (Mo_tag (Mo_set_kind (Mo_set_count s0 (upd (Mo_count s0) x1.toNatClampNeg (((Mo_count s0) x1.toNatClampNeg) + (1 : Int32)))) (upd (Mo_kind (Mo_set_count s0 (upd (Mo_count s0) x1.toNatClampNeg (((Mo_count s0) x1.toNatClampNeg) + (1 : Int32))))) (((130 : Int32) * x1) + ((Mo_count s0) x1.toNatClampNeg)).toNatClampNeg x2))) (((130 : Int32) * x1) + ((Mo_count s0) x1.toNatClampNeg)).toNatClampNeg (0 : Int32))) (upd (Mo_value (Mo_set_tag (Mo_set_kind (Mo_set_count s0 (upd (Mo_count s0) x1.toNatClampNeg (((Mo_count s0) x1.toNatClampNeg) + (1 : Int32)))) (upd (Mo_kind (Mo_set_count s0 (upd (Mo_count s0) x1.toNatClampNeg (((Mo_count s0) x1.toNatClampNeg) + (1 : Int32))))) (((130 : Int32) * x1) + ((Mo_count s0) x1.toNatClampNeg)).toNatClampNeg x2)) (upd (Mo_tag (Mo_set_kind (Mo_set_count s0 (upd (Mo_count s0) x1.toNatClampNeg (((Mo_count s0) x1.toNatClampNeg) + (1 : Int32)))) (upd (Mo_kind (Mo_set_count s0 (upd (Mo_count s0) x1.toNatClampNeg (((Mo_count s0) x1.toNatClampNeg) + (1 : Int32))))) (((130 : Int32) * x1) + ((Mo_count s0) x1.toNatClampNeg)).toNatClampNeg x2))) (((130 : Int32) * x1) + ((Mo_count s0) x1.toNatClampNeg)).toNatClampNeg (0 : Int32)))) (((130 : Int32) * x1) + ((Mo_count s0) x1.toNatClampNeg)).toNatClampNeg (0 : Int32)))) (((130 : Int32) * x1) + ((Mo_count s0) x1.toNatClampNeg)).toNatClampNeg x3)) (upd (Mo_first (Mo_set_parent (Mo_set_value (Mo_set_tag (Mo_set_kind (Mo_set_count s0 (upd (Mo_count s0) x1.toNatClampNeg (((Mo_count s0) x1.toNatClampNeg) + (1 : Int32)))) (upd (Mo_kind (Mo_set_count s0 (upd (Mo_count s0) x1.toNatClampNeg (((Mo_count s0) x1.toNatClampNeg) + (1 : Int32))))) (((130 : Int32) * x1) + ((Mo_count s0) x1.toNatClampNeg)).toNatClampNeg x2)) (upd (Mo_tag (Mo_set_kind (Mo_set_count s0 (upd (Mo_count s0) x1.toNatClampNeg (((Mo_count s0) x1.toNatClampNeg) + (1 : Int32)))) (upd (Mo_kind (Mo_set_count s0 (upd (Mo_count s0) x1.toNatClampNeg (((Mo_count s0) x1.toNatClampNeg) + (1 : Int32))))) (((130 : Int32) * x1) + ((Mo_count s0) x1.toNatClampNeg)).toNatClampNeg x2))) (((130 : Int32) * x1) + ((Mo_count s0) x1.toNatClampNeg)).toNatClampNeg (0 : Int32))) (upd (Mo_value (Mo_set_tag (Mo_set_kind (Mo_set_count s0 (upd (Mo_count s0) x1.toNatClampNeg (((Mo_count s0) x1.toNatClampNeg) + (1 : Int32)))) (upd (Mo_kind (Mo_set_count s0 (upd (Mo_count s0) x1.toNatClampNeg (((Mo_count s0) x1.toNatClampNeg) + (1 : Int32))))) (((130 : Int32) * x1) + ((Mo_count s0) x1.toNatClampNeg)).toNatClampNeg x2)) (upd (Mo_tag (Mo_set_kind (Mo_set_count s0 (upd (Mo_count s0) x1.toNatClampNeg (((Mo_count s0) x1.toNatClampNeg) + (1 : Int32)))) (upd (Mo_kind (Mo_set_count s0 (upd (Mo_count s0) x1.toNatClampNeg (((Mo_count s0) x1.toNatClampNeg) + (1 : Int32))))) (((130 : Int32) * x1) + ((Mo_count s0) x1.toNatClampNeg)).toNatClampNeg x2))) (((130 : Int32) * x1) + ((Mo_count s0) x1.toNatClampNeg)).toNatClampNeg (0 : Int32)))) (((130 : Int32) * x1) + ((Mo_count s0) x1.toNatClampNeg)).toNatClampNeg (0 : Int32))) (upd (Mo_parent (Mo_set_value (Mo_set_tag (Mo_set_kind (Mo_set_count s0 (upd (Mo_count s0) x1.toNatClampNeg (((Mo_count s0) x1.toNatClampNeg) + (1 : Int32)))) (upd (Mo_kind (Mo_set_count s0 (upd (Mo_count s0) x1.toNatClampNeg (((Mo_count s0) x1.toNatClampNeg) + (1 : Int32))))) (((130 : Int32) * x1) + ((Mo_count s0) x1.toNatClampNeg)).toNatClampNeg x2)) (upd (Mo_tag (Mo_set_kind (Mo_set_count s0 (upd (Mo_count s0) x1.toNatClampNeg (((Mo_count s0) x1.toNatClampNeg) + (1 : Int32)))) (upd (Mo_kind (Mo_set_count s0 (upd (Mo_count s0) x1.toNatClampNeg (((Mo_count s0) x1.toNatClampNeg) + (1 : Int32))))) (((130 : Int32) * x1) + ((Mo_count s0) x1.toNatClampNeg)).toNatClampNeg x2))) (((130 : Int32) * x1) + ((Mo_count s0) x1.toNatClampNeg)).toNatClampNeg (0 : Int32))) (upd (Mo_value (Mo_set_tag (Mo_set_kind (Mo_set_count s0 (upd (Mo_count s0) x1.toNatClampNeg (((Mo_count s0) x1.toNatClampNeg) + (1 : Int32)))) (upd (Mo_kind (Mo_set_count s0 (upd (Mo_count s0) x1.toNatClampNeg (((Mo_count s0) x1.toNatClampNeg) + (1 : Int32))))) (((130 : Int32) * x1) + ((Mo_count s0) x1.toNatClampNeg)).toNatClampNeg x2)) (upd (Mo_tag (Mo_set_kind (Mo_set_count s0 (upd (Mo_count s0) x1.toNatClampNeg (((Mo_count s0) x1.toNatClampNeg) + (1 : Int32)))) (upd (Mo_kind (Mo_set_count s0 (upd (Mo_count s0) x1.toNatClampNeg (((Mo_count s0) x1.toNatClampNeg) + (1 : Int32))))) (((130 : Int32) * x1) + ((Mo_count s0) x1.toNatClampNeg)).toNatClampNeg x2))) (((130 : Int32) * x1) + ((Mo_count s0) x1.toNatClampNeg)).toNatClampNeg (0 : Int32)))) (((130 : Int32) * x1) + ((Mo_count s0) x1.toNatClampNeg)).toNatClampNeg (0 : Int32)))) (((130 : Int32) * x1) + ((Mo_count s0) x1.toNatClampNeg)).toNatClampNeg x3))) (((130 : Int32) * x1) + ((Mo_count s0) x1.toNatClampNeg)).toNatClampNeg ((-1) : Int32)))) (((130 : Int32) * x1) + ((Mo_count s0) x1.toNatClampNeg)).toNatClampNeg ((-1) : Int32))) (upd (Mo_last (Mo_set_next (Mo_set_first (Mo_set_parent (Mo_set_value (Mo_set_tag (Mo_set_kind (Mo_set_count s0 (upd (Mo_count s0) x1.toNatClampNeg (((Mo_count s0) x1.toNatClampNeg) + (1 : Int32)))) (upd (Mo_kind (Mo_set_count s0 (upd (Mo_count s0) x1.toNatClampNeg (((Mo_count s0) x1.toNatClampNeg) + (1 : Int32))))) (((130 : Int32) * x1) + ((Mo_count s0) x1.toNatClampNeg)).toNatClampNeg x2)) (upd (Mo_tag (Mo_set_kind (Mo_set_count s0 (upd (Mo_count s0) x1.toNatClampNeg (((Mo_count s0) x1.toNatClampNeg) + (1 : Int32)))) (upd (Mo_kind (Mo_set_count s0 (upd (Mo_count s0) x1.toNatClampNeg (((Mo_count s0) x1.toNatClampNeg) + (1 : Int32))))) (((130 : Int32) * x1) + ((Mo_count s0) x1.toNatClampNeg)).toNatClampNeg x2))) (((130 : Int32) * x1) + ((Mo_count s0) x1.toNatClampNeg)).toNatClampNeg (0 : Int32))) (upd (Mo_value (Mo_set_tag (Mo_set_kind (Mo_set_count s0 (upd (Mo_count s0) x1.toNatClampNeg (((Mo_count s0) x1.toNatClampNeg) + (1 : Int32)))) (upd (Mo_kind (Mo_set_count s0 (upd (Mo_count s0) x1.toNatClampNeg (((Mo_count s0) x1.toNatClampNeg) + (1 : Int32))))) (((130 : Int32) * x1) + ((Mo_count s0) x1.toNatClampNeg)).toNatClampNeg x2)) (upd (Mo_tag (Mo_set_kind (Mo_set_count s0 (upd (Mo_count s0) x1.toNatClampNeg (((Mo_count s0) x1.toNatClampNeg) + (1 : Int32)))) (upd (Mo_kind (Mo_set_count s0 (upd (Mo_count s0) x1.toNatClampNeg (((Mo_count s0) x1.toNatClampNeg) + (1 : Int32))))) (((130 : Int32) * x1) + ((Mo_count s0) x1.toNatClampNeg)).toNatClampNeg x2))) (((130 : Int32) * x1) + ((Mo_count s0) x1.toNatClampNeg)).toNatClampNeg (0 : Int32)))) (((130 : Int32) * x1) + ((Mo_count s0) x1.toNatClampNeg)).toNatClampNeg (0 : Int32))) (upd (Mo_parent (Mo_set_value (Mo_set_tag (Mo_set_kind (Mo_set_count s0 (upd (Mo_count s0) x1.toNatClampNeg (((Mo_count s0) x1.toNatClampNeg) + (1 : Int32)))) (upd (Mo_kind (Mo_set_count s0 (upd (Mo_count s0) x1.toNatClampNeg (((Mo_count s0) x1.toNatClampNeg) + (1 : Int32))))) (((130 : Int32) * x1) + ((Mo_count s0) x1.toNatClampNeg)).toNatClampNeg x2)) (upd (Mo_tag (Mo_set_kind (Mo_set_count s0 (upd (Mo_count s0) x1.toNatClampNeg (((Mo_count s0) x1.toNatClampNeg) + (1 : Int32)))) (upd (Mo_kind (Mo_set_count s0 (upd (Mo_count s0) x1.toNatClampNeg (((Mo_count s0) x1.toNatClampNeg) + (1 : Int32))))) (((130 : Int32) * x1) + ((Mo_count s0) x1.toNatClampNeg)).toNatClampNeg x2))) (((130 : Int32) * x1) + ((Mo_count s0) x1.toNatClampNeg)).toNatClampNeg (0 : Int32))) (upd (Mo_value (Mo_set_tag (Mo_set_kind (Mo_set_count s0 (upd (Mo_count s0) x1.toNatClampNeg (((Mo_count s0) x1.toNatClampNeg) + (1 : Int32)))) (upd (Mo_kind (Mo_set_count s0 (upd (Mo_count s0) x1.toNatClampNeg (((Mo_count s0) x1.toNatClampNeg) + (1 : Int32))))) (((130 : Int32) * x1) + ((Mo_count s0) x1.toNatClampNeg)).toNatClampNeg x2)) (upd (Mo_tag (Mo_set_kind (Mo_set_count s0 (upd (Mo_count s0) x1.toNatClampNeg (((Mo_count s0) x1.toNatClampNeg) + (1 : Int32)))) (upd (Mo_kind (Mo_set_count s0 (upd (Mo_count s0) x1.toNatClampNeg (((Mo_count s0) x1.toNatClampNeg) + (1 : Int32))))) (((130 : Int32) * x1) + ((Mo_count s0) x1.toNatClampNeg)).toNatClampNeg x2))) (((130 : Int32) * x1) + ((Mo_count s0) x1.toNatClampNeg)).toNatClampNeg (0 : Int32)))) (((130 : Int32) * x1) + ((Mo_count s0) x1.toNatClampNeg)).toNatClampNeg (0 : Int32)))) (((130 : Int32) * x1) + ((Mo_count s0) x1.toNatClampNeg)).toNatClampNeg x3)) (upd (Mo_first (Mo_set_parent (Mo_set_value (Mo_set_tag (Mo_set_kind (Mo_set_count s0 (upd (Mo_count s0) x1.toNatClampNeg (((Mo_count s0) x1.toNatClampNeg) + (1 : Int32)))) (upd (Mo_kind (Mo_set_count s0 (upd (Mo_count s0) x1.toNatClampNeg (((Mo_count s0) x1.toNatClampNeg) + (1 : Int32))))) (((130 : Int32) * x1) + ((Mo_count s0) x1.toNatClampNeg)).toNatClampNeg x2)) (upd (Mo_tag (Mo_set_kind (Mo_set_count s0 (upd (Mo_count s0) x1.toNatClampNeg (((Mo_count s0) x1.toNatClampNeg) + (1 : Int32)))) (upd (Mo_kind (Mo_set_count s0 (upd (Mo_count s0) x1.toNatClampNeg (((Mo_count s0) x1.toNatClampNeg) + (1 : Int32))))) (((130 : Int32) * x1) + ((Mo_count s0) x1.toNatClampNeg)).toNatClampNeg x2))) (((130 : Int32) * x1) + ((Mo_count s0) x1.toNatClampNeg)).toNatClampNeg (0 : Int32))) (upd (Mo_value (Mo_set_tag (Mo_set_kind (Mo_set_count s0 (upd (Mo_count s0) x1.toNatClampNeg (((Mo_count s0) x1.toNatClampNeg) + (1 : Int32)))) (upd (Mo_kind (Mo_set_count s0 (upd (Mo_count s0) x1.toNatClampNeg (((Mo_count s0) x1.toNatClampNeg) + (1 : Int32))))) (((130 : Int32) * x1) + ((Mo_count s0) x1.toNatClampNeg)).toNatClampNeg x2)) (upd (Mo_tag (Mo_set_kind (Mo_set_count s0 (upd (Mo_count s0) x1.toNatClampNeg (((Mo_count s0) x1.toNatClampNeg) + (1 : Int32)))) (upd (Mo_kind (Mo_set_count s0 (upd (Mo_count s0) x1.toNatClampNeg (((Mo_count s0) x1.toNatClampNeg) + (1 : Int32))))) (((130 : Int32) * x1) + ((Mo_count s0) x1.toNatClampNeg)).toNatClampNeg x2))) (((130 : Int32) * x1) + ((Mo_count s0) x1.toNatClampNeg)).toNatClampNeg (0 : Int32)))) (((130 : Int32) * x1) + ((Mo_count s0) x1.toNatClampNeg)).toNatClampNeg (0 : Int32))) (upd (Mo_parent (Mo_set_value (Mo_set_tag (Mo_set_kind (Mo_set_count s0 (upd (Mo_count s0) x1.toNatClampNeg (((Mo_count s0) x1.toNatClampNeg) + (1 : Int32)))) (upd (Mo_kind (Mo_set_count s0 (upd (Mo_count s0) x1.toNatClampNeg (((Mo_count s0) x1.toNatClampNeg) + (1 : Int32))))) (((130 : Int32) * x1) + ((Mo_count s0) x1.toNatClampNeg)).toNatClampNeg x2)) (upd (Mo_tag (Mo_set_kind (Mo_set_count s0 (upd (Mo_count s0) x1.toNatClampNeg (((Mo_count s0) x1.toNatClampNeg) + (1 : Int32)))) (upd (Mo_kind (Mo_set_count s0 (upd (Mo_count s0) x1.toNatClampNeg (((Mo_count s0) x1.toNatClampNeg) + (1 : Int32))))) (((130 : Int32) * x1) + ((Mo_count s0) x1.toNatClampNeg)).toNatClampNeg x2))) (((130 : Int32) * x1) + ((Mo_count s0) x1.toNatClampNeg)).toNatClampNeg (0 : Int32))) (upd (Mo_value (Mo_set_tag (Mo_set_kind (Mo_set_count s0 (upd (Mo_count s0) x1.toNatClampNeg (((Mo_count s0) x1.toNatClampNeg) + (1 : Int32)))) (upd (Mo_kind (Mo_set_count s0 (upd (Mo_count s0) x1.toNatClampNeg (((Mo_count s0) x1.toNatClampNeg) + (1 : Int32))))) (((130 : Int32) * x1) + ((Mo_count s0) x1.toNatClampNeg)).toNatClampNeg x2)) (upd (Mo_tag (Mo_set_kind (Mo_set_count s0 (upd (Mo_count s0) x1.toNatClampNeg (((Mo_count s0) x1.toNatClampNeg) + (1 : Int32)))) (upd (Mo_kind (Mo_set_count s0 (upd (Mo_count s0) x1.toNatClampNeg (((Mo_count s0) x1.toNatClampNeg) + (1 : Int32))))) (((130 : Int32) * x1) + ((Mo_count s0) x1.toNatClampNeg)).toNatClampNeg x2))) (((130 : Int32) * x1) + ((Mo_count s0) x1.toNatClampNeg)).toNatClampNeg (0 : Int32)))) (((130 : Int32) * x1) + ((Mo_count s0) x1.toNatClampNeg)).toNatClampNeg (0 : Int32)))) (((130 : Int32) * x1) + ((Mo_count s0) x1.toNatClampNeg)).toNatClampNeg x3))) (((130 : Int32) * x1) + ((Mo_count s0) x1.toNatClampNeg)).toNatClampNeg ((-1) : Int32))) (upd (Mo_next (Mo_set_first (Mo_set_parent (Mo_set_value (Mo_set_tag (Mo_set_kind (Mo_set_count s0 (upd (Mo_count s0) x1.toNatClampNeg (((Mo_count s0) x1.toNatClampNeg) + (1 : Int32)))) (upd (Mo_kind (Mo_set_count s0 (upd (Mo_count s0) x1.toNatClampNeg (((Mo_count s0) x1.toNatClampNeg) + (1 : Int32))))) (((130 : Int32) * x1) + ((Mo_count s0) x1.toNatClampNeg)).toNatClampNeg x2)) (upd (Mo_tag (Mo_set_kind (Mo_set_count s0 (upd (Mo_count s0) x1.toNatClampNeg (((Mo_count s0) x1.toNatClampNeg) + (1 : Int32)))) (upd (Mo_kind (Mo_set_count s0 (upd (Mo_count s0) x1.toNatClampNeg (((Mo_count s0) x1.toNatClampNeg) + (1 : Int32))))) (((130 : Int32) * x1) + ((Mo_count s0) x1.toNatClampNeg)).toNatClampNeg x2))) (((130 : Int32) * x1) + ((Mo_count s0) x1.toNatClampNeg)).toNatClampNeg (0 : Int32))) (upd (Mo_value (Mo_set_tag (Mo_set_kind (Mo_set_count s0 (upd (Mo_count s0) x1.toNatClampNeg (((Mo_count s0) x1.toNatClampNeg) + (1 : Int32)))) (upd (Mo_kind (Mo_set_count s0 (upd (Mo_count s0) x1.toNatClampNeg (((Mo_count s0) x1.toNatClampNeg) + (1 : Int32))))) (((130 : Int32) * x1) + ((Mo_count s0) x1.toNatClampNeg)).toNatClampNeg x2)) (upd (Mo_tag (Mo_set_kind (Mo_set_count s0 (upd (Mo_count s0) x1.toNatClampNeg (((Mo_count s0) x1.toNatClampNeg) + (1 : Int32)))) (upd (Mo_kind (Mo_set_count s0 (upd (Mo_count s0) x1.toNatClampNeg (((Mo_count s0) x1.toNatClampNeg) + (1 : Int32))))) (((130 : Int32) * x1) + ((Mo_count s0) x1.toNatClampNeg)).toNatClampNeg x2))) (((130 : Int32) * x1) + ((Mo_count s0) x1.toNatClampNeg)).toNatClampNeg (0 : Int32)))) (((130 : Int32) * x1) + ((Mo_count s0) x1.toNatClampNeg)).toNatClampNeg (0 : Int32))) (upd (Mo_parent (Mo_set_value (Mo_set_tag (Mo_set_kind (Mo_set_count s0 (upd (Mo_count s0) x1.toNatClampNeg (((Mo_count s0) x1.toNatClampNeg) + (1 : Int32)))) (upd (Mo_kind (Mo_set_count s0 (upd (Mo_count s0) x1.toNatClampNeg (((Mo_count s0) x1.toNatClampNeg) + (1 : Int32))))) (((130 : Int32) * x1) + ((Mo_count s0) x1.toNatClampNeg)).toNatClampNeg x2)) (upd (Mo_tag (Mo_set_kind (Mo_set_count s0 (upd (Mo_count s0) x1.toNatClampNeg (((Mo_count s0) x1.toNatClampNeg) + (1 : Int32)))) (upd (Mo_kind (Mo_set_count s0 (upd (Mo_count s0) x1.toNatClampNeg (((Mo_count s0) x1.toNatClampNeg) + (1 : Int32))))) (((130 : Int32) * x1) + ((Mo_count s0) x1.toNatClampNeg)).toNatClampNeg x2))) (((130 : Int32) * x1) + ((Mo_count s0) x1.toNatClampNeg)).toNatClampNeg (0 : Int32))) (upd (Mo_value (Mo_set_tag (Mo_set_kind (Mo_set_count s0 (upd (Mo_count s0) x1.toNatClampNeg (((Mo_count s0) x1.toNatClampNeg) + (1 : Int32)))) (upd (Mo_kind (Mo_set_count s0 (upd (Mo_count s0) x1.toNatClampNeg (((Mo_count s0) x1.toNatClampNeg) + (1 : Int32))))) (((130 : Int32) * x1) + ((Mo_count s0) x1.toNatClampNeg)).toNatClampNeg x2)) (upd (Mo_tag (Mo_set_kind (Mo_set_count s0 (upd (Mo_count s0) x1.toNatClampNeg (((Mo_count s0) x1.toNatClampNeg) + (1 : Int32)))) (upd (Mo_kind (Mo_set_count s0 (upd (Mo_count s0) x1.toNatClampNeg (((Mo_count s0) x1.toNatClampNeg) + (1 : Int32))))) (((130 : Int32) * x1) + ((Mo_count s0) x1.toNatClampNeg)).toNatClampNeg x2))) (((130 : Int32) * x1) + ((Mo_count s0) x1.toNatClampNeg)).toNatClampNeg (0 : Int32)))) (((130 : Int32) * x1) + ((Mo_count s0) x1.toNatClampNeg)).toNatClampNeg (0 : Int32)))) (((130 : Int32) * x1) + ((Mo_count s0) x1.toNatClampNeg)).toNatClampNeg x3)) (upd (Mo_first (Mo_set_parent (Mo_set_value (Mo_set_tag (Mo_set_kind (Mo_set_count s0 (upd (Mo_count s0) x1.toNatClampNeg (((Mo_count s0) x1.toNatClampNeg) + (1 : Int32)))) (upd (Mo_kind (Mo_set_count s0 (upd (Mo_count s0) x1.toNatClampNeg (((Mo_count s0) x1.toNatClampNeg) + (1 : Int32))))) (((130 : Int32) * x1) + ((Mo_count s0) x1.toNatClampNeg)).toNatClampNeg x2)) (upd (Mo_tag (Mo_set_kind (Mo_set_count s0 (upd (Mo_count s0) x1.toNatClampNeg (((Mo_count s0) x1.toNatClampNeg) + (1 : Int32)))) (upd (Mo_kind (Mo_set_count s0 (upd (Mo_count s0) x1.toNatClampNeg (((Mo_count s0) x1.toNatClampNeg) + (1 : Int32))))) (((130 : Int32) * x1) + ((Mo_count s0) x1.toNatClampNeg)).toNatClampNeg x2))) (((130 : Int32) * x1) + ((Mo_count s0) x1.toNatClampNeg)).toNatClampNeg (0 : Int32))) (upd (Mo_value (Mo_set_tag (Mo_set_kind (Mo_set_count s0 (upd (Mo_count s0) x1.toNatClampNeg (((Mo_count s0) x1.toNatClampNeg) + (1 : Int32)))) (upd (Mo_kind (Mo_set_count s0 (upd (Mo_count s0) x1.toNatClampNeg (((Mo_count s0) x1.toNatClampNeg) + (1 : Int32))))) (((130 : Int32) * x1) + ((Mo_count s0) x1.toNatClampNeg)).toNatClampNeg x2)) (upd (Mo_tag (Mo_set_kind (Mo_set_count s0 (upd (Mo_count s0) x1.toNatClampNeg (((Mo_count s0) x1.toNatClampNeg) + (1 : Int32)))) (upd (Mo_kind (Mo_set_count s0 (upd (Mo_count s0) x1.toNatClampNeg (((Mo_count s0) x1.toNatClampNeg) + (1 : Int32))))) (((130 : Int32) * x1) + ((Mo_count s0) x1.toNatClampNeg)).toNatClampNeg x2))) (((130 : Int32) * x1) + ((Mo_count s0) x1.toNatClampNeg)).toNatClampNeg (0 : Int32)))) (((130 : Int32) * x1) + ((Mo_count s0) x1.toNatClampNeg)).toNatClampNeg (0 : Int32))) (upd (Mo_parent (Mo_set_value (Mo_set_tag (Mo_set_kind (Mo_set_count s0 (upd (Mo_count s0) x1.toNatClampNeg (((Mo_count s0) x1.toNatClampNeg) + (1 : Int32)))) (upd (Mo_kind (Mo_set_count s0 (upd (Mo_count s0) x1.toNatClampNeg (((Mo_count s0) x1.toNatClampNeg) + (1 : Int32))))) (((130 : Int32) * x1) + ((Mo_count s0) x1.toNatClampNeg)).toNatClampNeg x2)) (upd (Mo_tag (Mo_set_kind (Mo_set_count s0 (upd (Mo_count s0) x1.toNatClampNeg (((Mo_count s0) x1.toNatClampNeg) + (1 : Int32)))) (upd (Mo_kind (Mo_set_count s0 (upd (Mo_count s0) x1.toNatClampNeg (((Mo_count s0) x1.toNatClampNeg) + (1 : Int32))))) (((130 : Int32) * x1) + ((Mo_count s0) x1.toNatClampNeg)).toNatClampNeg x2))) (((130 : Int32) * x1) + ((Mo_count s0) x1.toNatClampNeg)).toNatClampNeg (0 : Int32))) (upd (Mo_value (Mo_set_tag (Mo_set_kind (Mo_set_count s0 (upd (Mo_count s0) x1.toNatClampNeg (((Mo_count s0) x1.toNatClampNeg) + (1 : Int32)))) (upd (Mo_kind (Mo_set_count s0 (upd (Mo_count s0) x1.toNatClampNeg (((Mo_count s0) x1.toNatClampNeg) + (1 : Int32))))) (((130 : Int32) * x1) + ((Mo_count s0) x1.toNatClampNeg)).toNatClampNeg x2)) (upd (Mo_tag (Mo_set_kind (Mo_set_count s0 (upd (Mo_count s0) x1.toNatClampNeg (((Mo_count s0) x1.toNatClampNeg) + (1 : Int32)))) (upd (Mo_kind (Mo_set_count s0 (upd (Mo_count s0) x1.toNatClampNeg (((Mo_count s0) x1.toNatClampNeg) + (1 : Int32))))) (((130 : Int32) * x1) + ((Mo_count s0) x1.toNatClampNeg)).toNatClampNeg x2))) (((130 : Int32) * x1) + ((Mo_count s0) x1.toNatClampNeg)).toNatClampNeg (0 : Int32)))) (((130 : Int32) * x1) + ((Mo_count s0) x1.toNatClampNeg)).toNatClampNeg (0 : Int32)))) (((130 : Int32) * x1) + ((Mo_count s0) x1.toNatClampNeg)).toNatClampNeg x3))) (((130 : Int32) * x1) + ((Mo_count s0) x1.toNatClampNeg)).toNatClampNeg ((-1) : Int32)))) (((130 : Int32) * x1) + ((Mo_count s0) x1.toNatClampNeg)).toNatClampNeg ((-1) : Int32)))) (((130 : Int32) * x1) + ((Mo_count s0) x1.toNatClampNeg)).toNatClampNeg ((-1) : Int32)))) (((130 : Int32) * x1) + ((Mo_count s0) x1.toNatClampNeg)).toNatClampNeg (0 : Int32))) x3 (((130 : Int32) * x1) + ((Mo_count s0) x1.toNatClampNeg))) else (B_Mo_add_92 (Mo_set_many (Mo_set_last (Mo_set_next (Mo_set_first (Mo_set_parent (Mo_set_value (Mo_set_tag (Mo_set_kind (Mo_set_count s0 (upd (Mo_count s0) x1.toNatClampNeg (((Mo_count s0) x1.toNatClampNeg) + (1 : Int32)))) (upd (Mo_kind (Mo_set_count s0 (upd (Mo_count s0) x1.toNatClampNeg (((Mo_count s0) x1.toNatClampNeg) + (1 : Int32))))) (((130 : Int32) * x1) + ((Mo_count s0) x1.toNatClampNeg)).toNatClampNeg x2)) (upd (Mo_tag (Mo_set_kind (Mo_set_count s0 (upd (Mo_count s0) x1.toNatClampNeg (((Mo_count s0) x1.toNatClampNeg) + (1 : Int32)))) (upd (Mo_kind (Mo_set_count s0 (upd (Mo_count s0) x1.toNatClampNeg (((Mo_count s0) x1.toNatClampNeg) + (1 : Int32))))) (((130 : Int32) * x1) + ((Mo_count s0) x1.toNatClampNeg)).toNatClampNeg x2))) (((130 : Int32) * x1) + ((Mo_count s0) x1.toNatClampNeg)).toNatClampNeg (0 : Int32))) (upd (Mo_value (Mo_set_tag (Mo_set_kind (Mo_set_count s0 (upd (Mo_count s0) x1.toNatClampNeg (((Mo_count s0) x1.toNatClampNeg) + (1 : Int32)))) (upd (Mo_kind (Mo_set_count s0 (upd (Mo_count s0) x1.toNatClampNeg (((Mo_count s0) x1.toNatClampNeg) + (1 : Int32))))) (((130 : Int32) * x1) + ((Mo_count s0) x1.toNatClampNeg)).toNatClampNeg x2)) (upd (Mo_tag (Mo_set_kind (Mo_set_count s0 (upd (Mo_count s0) x1.toNatClampNeg (((Mo_count s0) x1.toNatClampNeg) + (1 : Int32)))) (upd (Mo_kind (Mo_set_count s0 (upd (Mo_count s0) x1.toNatClampNeg (((Mo_count s0) x1.toNatClampNeg) + (1 : Int32))))) (((130 : Int32) * x1) + ((Mo_count s0) x1.toNatClampNeg)).toNatClampNeg x2))) (((130 : Int32) * x1) + ((Mo_count s0) x1.toNatClampNeg)).toNatClampNeg (0 : Int32)))) (((130 : Int32) * x1) + ((Mo_count s0) x1.toNatClampNeg)).toNatClampNeg (0 : Int32))) (upd (Mo_parent (Mo_set_value (Mo_set_tag (Mo_set_kind (Mo_set_count s0 (upd (Mo_count s0) x1.toNatClampNeg (((Mo_count s0) x1.toNatClampNeg) + (1 : Int32)))) (upd (Mo_kind (Mo_set_count s0 (upd (Mo_count s0) x1.toNatClampNeg (((Mo_count s0) x1.toNatClampNeg) + (1 : Int32))))) (((130 : Int32) * x1) + ((Mo_count s0) x1.toNatClampNeg)).toNatClampNeg x2)) (upd (Mo_tag (Mo_set_kind (Mo_set_count s0 (upd (Mo_count s0) x1.toNatClampNeg (((Mo_count s0) x1.toNatClampNeg) + (1 : Int32)))) (upd (Mo_kind (Mo_set_count s0 (upd (Mo_count s0) x1.toNatClampNeg (((Mo_count s0) x1.toNatClampNeg) + (1 : Int32))))) (((130 : Int32) * x1) + ((Mo_count s0) x1.toNatClampNeg)).toNatClampNeg x2))) (((130 : Int32) * x1) + ((Mo_count s0) x1.toNatClampNeg)).toNatClampNeg (0 : Int32))) (upd (Mo_value (Mo_set_tag (Mo_set_kind (Mo_set_count s0 (upd (Mo_count s0) x1.toNatClampNeg (((Mo_count s0) x1.toNatClampNeg) + (1 : Int32)))) (upd (Mo_kind (Mo_set_count s0 (upd (Mo_count s0) x1.toNatClampNeg (((Mo_count s0) x1.toNatClampNeg) + (1 : Int32))))) (((130 : Int32) * x1) + ((Mo_count s0) x1.toNatClampNeg)).toNatClampNeg x2)) (upd (Mo_tag (Mo_set_kind (Mo_set_count s0 (upd (Mo_count s0) x1.toNatClampNeg (((Mo_count s0) x1.toNatClampNeg) + (1 : Int32)))) (upd (Mo_kind (Mo_set_count s0 (upd (Mo_count s0) x1.toNatClampNeg (((Mo_count s0) x1.toNatClampNeg) + (1 : Int32))))) (((130 : Int32) * x1) + ((Mo_count s0) x1.toNatClampNeg)).toNatClampNeg x2))) (((130 : Int32) * x1) + ((Mo_count s0) x1.toNatClampNeg)).toNatClampNeg (0 : Int32)))) (((130 : Int32) * x1) + ((Mo_count s0) x1.toNatClampNeg)).toNatClampNeg (0 : Int32)))) (((130 : Int32) * x1) + ((Mo_count s0) x1.toNatClampNeg)).toNatClampNeg x3)) (upd (Mo_first (Mo_set_parent (Mo_set_value (Mo_set_tag (Mo_set_kind (Mo_set_count s0 (upd (Mo_count s0) x1.toNatClampNeg (((Mo_count s0) x1.toNatClampNeg) + (1 : Int32)))) (upd (Mo_kind (Mo_set_count s0 (upd (Mo_count s0) x1.toNatClampNeg (((Mo_count s0) x1.toNatClampNeg) + (1 : Int32))))) (((130 : Int32) * x1) + ((Mo_count s0) x1.toNatClampNeg)).toNatClampNeg x2)) (upd (Mo_tag (Mo_set_kind (Mo_set_count s0 (upd (Mo_count s0) x1.toNatClampNeg (((Mo_count s0) x1.toNatClampNeg) + (1 : Int32)))) (upd (Mo_kind (Mo_set_count s0 (upd (Mo_count s0) x1.toNatClampNeg (((Mo_count s0) x1.toNatClampNeg) + (1 : Int32))))) (((130 : Int32) * x1) + ((Mo_count s0) x1.toNatClampNeg)).toNatClampNeg x2))) (((130 : Int32) * x1) + ((Mo_count s0) x1.toNatClampNeg)).toNatClampNeg (0 : Int32))) (upd (Mo_value (Mo_set_tag (Mo_set_kind (Mo_set_count s0 (upd (Mo_count s0) x1.toNatClampNeg (((Mo_count s0) x1.toNatClampNeg) + (1 : Int32)))) (upd (Mo_kind (Mo_set_count s0 (upd (Mo_count s0) x1.toNatClampNeg (((Mo_count s0) x1.toNatClampNeg) + (1 : Int32))))) (((130 : Int32) * x1) + ((Mo_count s0) x1.toNatClampNeg)).toNatClampNeg x2)) (upd (Mo_tag (Mo_set_kind (Mo_set_count s0 (upd (Mo_count s0) x1.toNatClampNeg (((Mo_count s0) x1.toNatClampNeg) + (1 : Int32)))) (upd (Mo_kind (Mo_set_count s0 (upd (Mo_count s0) x1.toNatClampNeg (((Mo_count s0) x1.toNatClampNeg) + (1 : Int32))))) (((130 : Int32) * x1) + ((Mo_count s0) x1.toNatClampNeg)).toNatClampNeg x2))) (((130 : Int32) * x1) + ((Mo_count s0) x1.toNatClampNeg)).toNatClampNeg (0 : Int32)))) (((130 : Int32) * x1) + ((Mo_count s0) x1.toNatClampNeg)).toNatClampNeg (0 : Int32))) (upd (Mo_parent (Mo_set_value (Mo_set_tag (Mo_set_kind (Mo_set_count s0 (upd (Mo_count s0) x1.toNatClampNeg (((Mo_count s0) x1.toNatClampNeg) + (1 : Int32)))) (upd (Mo_kind (Mo_set_count s0 (upd (Mo_count s0) x1.toNatClampNeg (((Mo_count s0) x1.toNatClampNeg) + (1 : Int32))))) (((130 : Int32) * x1) + ((Mo_count s0) x1.toNatClampNeg)).toNatClampNeg x2)) (upd (Mo_tag (Mo_set_kind (Mo_set_count s0 (upd (Mo_count s0) x1.toNatClampNeg (((Mo_count s0) x1.toNatClampNeg) + (1 : Int32)))) (upd (Mo_kind (Mo_set_count s0 (upd (Mo_count s0) x1.toNatClampNeg (((Mo_count s0) x1.toNatClampNeg) + (1 : Int32))))) (((130 : Int32) * x1) + ((Mo_count s0) x1.toNatClampNeg)).toNatClampNeg x2))) (((130 : Int32) * x1) + ((Mo_count s0) x1.toNatClampNeg)).toNatClampNeg (0 : Int32))) (upd (Mo_value (Mo_set_tag (Mo_set_kind (Mo_set_count s0 (upd (Mo_count s0) x1.toNatClampNeg (((Mo_count s0) x1.toNatClampNeg) + (1 : Int32)))) (upd (Mo_kind (Mo_set_count s0 (upd (Mo_count s0) x1.toNatClampNeg (((Mo_count s0) x1.toNatClampNeg) + (1 : Int32))))) (((130 : Int32) * x1) + ((Mo_count s0) x1.toNatClampNeg)).toNatClampNeg x2)) (upd (Mo_tag (Mo_set_kind (Mo_set_count s0 (upd (Mo_count s0) x1.toNatClampNeg (((Mo_count s0) x1.toNatClampNeg) + (1 : Int32)))) (upd (Mo_kind (Mo_set_count s0 (upd (Mo_count s0) x1.toNatClampNeg (((Mo_count s0) x1.toNatClampNeg) + (1 : Int32))))) (((130 : Int32) * x1) + ((Mo_count s0) x1.toNatClampNeg)).toNatClampNeg x2))) (((130 : Int32) * x1) + ((Mo_count s0) x1.toNatClampNeg)).toNatClampNeg (0 : Int32)))) (((130 : Int32) * x1) + ((Mo_count s0) x1.toNatClampNeg)).toNatClampNeg (0 : Int32)))) (((130 : Int32) * x1) + ((Mo_count s0) x1.toNatClampNeg)).toNatClampNeg x3))) (((130 : Int32) * x1) + ((Mo_count s0) x1.toNatClampNeg)).toNatClampNeg ((-1) : Int32))) (upd (Mo_next (Mo_set_first (Mo_set_parent (Mo_set_value (Mo_set_tag (Mo_set_kind (Mo_set_count s0 (upd (Mo_count s0) x1.toNatClampNeg (((Mo_count s0) x1.toNatClampNeg) + (1 : Int32)))) (upd (Mo_kind (Mo_set_count s0 (upd (Mo_count s0) x1.toNatClampNeg (((Mo_count s0) x1.toNatClampNeg) + (1 : Int32))))) (((130 : Int32) * x1) + ((Mo_count s0) x1.toNatClampNeg)).toNatClampNeg x2)) (upd (Mo_tag (Mo_set_kind (Mo_set_count s0 (upd (Mo_count s0) x1.toNatClampNeg (((Mo_count s0) x1.toNatClampNeg) + (1 : Int32)))) (upd (Mo_kind (Mo_set_count s0 (upd (Mo_count s0) x1.toNatClampNeg (((Mo_count s0) x1.toNatClampNeg) + (1 : Int32))))) (((130 : Int32) * x1) + ((Mo_count s0) x1.toNatClampNeg)).toNatClampNeg x2))) (((130 : Int32) * x1) + ((Mo_count s0) x1.toNatClampNeg)).toNatClampNeg (0 : Int32))) (upd (Mo_value (Mo_set_tag (Mo_set_kind (Mo_set_count s0 (upd (Mo_count s0) x1.toNatClampNeg (((Mo_count s0) x1.toNatClampNeg) + (1 : Int32)))) (upd (Mo_kind (Mo_set_count s0 (upd (Mo_count s0) x1.toNatClampNeg (((Mo_count s0) x1.toNatClampNeg) + (1 : Int32))))) (((130 : Int32) * x1) + ((Mo_count s0) x1.toNatClampNeg)).toNatClampNeg x2)) (upd (Mo_tag (Mo_set_kind (Mo_set_count s0 (upd (Mo_count s0) x1.toNatClampNeg (((Mo_count s0) x1.toNatClampNeg) + (1 : Int32)))) (upd (Mo_kind (Mo_set_count s0 (upd (Mo_count s0) x1.toNatClampNeg (((Mo_count s0) x1.toNatClampNeg) + (1 : Int32))))) (((130 : Int32) * x1) + ((Mo_count s0) x1.toNatClampNeg)).toNatClampNeg x2))) (((130 : Int32) * x1) + ((Mo_count s0) x1.toNatClampNeg)).toNatClampNeg (0 : Int32)))) (((130 : Int32) * x1) + ((Mo_count s0) x1.toNatClampNeg)).toNatClampNeg (0 : Int32))) (upd (Mo_parent (Mo_set_value (Mo_set_tag (Mo_set_kind (Mo_set_count s0 (upd (Mo_count s0) x1.toNatClampNeg (((Mo_count s0) x1.toNatClampNeg) + (1 : Int32)))) (upd (Mo_kind (Mo_set_count s0 (upd (Mo_count s0) x1.toNatClampNeg (((Mo_count s0) x1.toNatClampNeg) + (1 : Int32))))) (((130 : Int32) * x1) + ((Mo_count s0) x1.toNatClampNeg)).toNatClampNeg x2)) (upd (Mo_tag (Mo_set_kind (Mo_set_count s0 (upd (Mo_count s0) x1.toNatClampNeg (((Mo_count s0) x1.toNatClampNeg) + (1 : Int32)))) (upd (Mo_kind (Mo_set_count s0 (upd (Mo_count s0) x1.toNatClampNeg (((Mo_count s0) x1.toNatClampNeg) + (1 : Int32))))) (((130 : Int32) * x1) + ((Mo_count s0) x1.toNatClampNeg)).toNatClampNeg x2))) (((130 : Int32) * x1) + ((Mo_count s0) x1.toNatClampNeg)).toNatClampNeg (0 : Int32))) (upd (Mo_value (Mo_set_tag (Mo_set_kind (Mo_set_count s0 (upd (Mo_count s0) x1.toNatClampNeg (((Mo_count s0) x1.toNatClampNeg) + (1 : Int32)))) (upd (Mo_kind (Mo_set_count s0 (upd (Mo_count s0) x1.toNatClampNeg (((Mo_count s0) x1.toNatClampNeg) + (1 : Int32))))) (((130 : Int32) * x1) + ((Mo_count s0) x1.toNatClampNeg)).toNatClampNeg x2)) (upd (Mo_tag (Mo_set_kind (Mo_set_count s0 (upd (Mo_count s0) x1.toNatClampNeg (((Mo_count s0) x1.toNatClampNeg) + (1 : Int32)))) (upd (Mo_kind (Mo_set_count s0 (upd (Mo_count s0) x1.toNatClampNeg (((Mo_count s0) x1.toNatClampNeg) + (1 : Int32))))) (((130 : Int32) * x1) + ((Mo_count s0) x1.toNatClampNeg)).toNatClampNeg x2))) (((130 : Int32) * x1) + ((Mo_count s0) x1.toNatClampNeg)).toNatClampNeg (0 : Int32)))) (((130 : Int32) * x1) + ((Mo_count s0) x1.toNatClampNeg)).toNatClampNeg (0 : Int32)))) (((130 : Int32) * x1) + ((Mo_count s0) x1.toNatClampNeg)).toNatClampNeg x3)) (upd (Mo_first (Mo_set_parent (Mo_set_value (Mo_set_tag (Mo_set_kind (Mo_set_count s0 (upd (Mo_count s0) x1.toNatClampNeg (((Mo_count s0) x1.toNatClampNeg) + (1 : Int32)))) (upd (Mo_kind (Mo_set_count s0 (upd (Mo_count s0) x1.toNatClampNeg (((Mo_count s0) x1.toNatClampNeg) + (1 : Int32))))) (((130 : Int32) * x1) + ((Mo_count s0) x1.toNatClampNeg)).toNatClampNeg x2)) (upd (Mo_tag (Mo_set_kind (Mo_set_count s0 (upd (Mo_count s0) x1.toNatClampNeg (((Mo_count s0) x1.toNatClampNeg) + (1 : Int32)))) (upd (Mo_kind (Mo_set_count s0 (upd (Mo_count s0) x1.toNatClampNeg (((Mo_count s0) x1.toNatClampNeg) + (1 : Int32))))) (((130 : Int32) * x1) + ((Mo_count s0) x1.toNatClampNeg)).toNatClampNeg x2))) (((130 : Int32) * x1) + ((Mo_count s0) x1.toNatClampNeg)).toNatClampNeg (0 : Int32))) (upd (Mo_value (Mo_set_tag (Mo_set_kind (Mo_set_count s0 (upd (Mo_count s0) x1.toNatClampNeg (((Mo_count s0) x1.toNatClampNeg) + (1 : Int32)))) (upd (Mo_kind (Mo_set_count s0 (upd (Mo_count s0) x1.toNatClampNeg (((Mo_count s0) x1.toNatClampNeg) + (1 : Int32))))) (((130 : Int32) * x1) + ((Mo_count s0) x1.toNatClampNeg)).toNatClampNeg x2)) (upd (Mo_tag (Mo_set_kind (Mo_set_count s0 (upd (Mo_count s0) x1.toNatClampNeg (((Mo_count s0) x1.toNatClampNeg) + (1 : Int32)))) (upd (Mo_kind (Mo_set_count s0 (upd (Mo_count s0) x1.toNatClampNeg (((Mo_count s0) x1.toNatClampNeg) + (1 : Int32))))) (((130 : Int32) * x1) + ((Mo_count s0) x1.toNatClampNeg)).toNatClampNeg x2))) (((130 : Int32) * x1) + ((Mo_count s0) x1.toNatClampNeg)).toNatClampNeg (0 : Int32)))) (((130 : Int32) * x1) + ((Mo_count s0) x1.toNatClampNeg)).toNatClampNeg (0 : Int32))) (upd (Mo_parent (Mo_set_value (Mo_set_tag (Mo_set_kind (Mo_set_count s0 (upd (Mo_count s0) x1.toNatClampNeg (((Mo_count s0) x1.toNatClampNeg) + (1 : Int32)))) (upd (Mo_kind (Mo_set_count s0 (upd (Mo_count s0) x1.toNatClampNeg (((Mo_count s0) x1.toNatClampNeg) + (1 : Int32))))) (((130 : Int32) * x1) + ((Mo_count s0) x1.toNatClampNeg)).toNatClampNeg x2)) (upd (Mo_tag (Mo_set_kind (Mo_set_count s0 (upd (Mo_count s0) x1.toNatClampNeg (((Mo_count s0) x1.toNatClampNeg) + (1 : Int32)))) (upd (Mo_kind (Mo_set_count s0 (upd (Mo_count s0) x1.toNatClampNeg (((Mo_count s0) x1.toNatClampNeg) + (1 : Int32))))) (((130 : Int32) * x1) + ((Mo_count s0) x1.toNatClampNeg)).toNatClampNeg x2))) (((130 : Int32) * x1) + ((Mo_count s0) x1.toNatClampNeg)).toNatClampNeg (0 : Int32))) (upd (Mo_value (Mo_set_tag (Mo_set_kind (Mo_set_count s0 (upd (Mo_count s0) x1.toNatClampNeg (((Mo_count s0) x1.toNatClampNeg) + (1 : Int32)))) (upd (Mo_kind (Mo_set_count s0 (upd (Mo_count s0) x1.toNatClampNeg (((Mo_count s0) x1.toNatClampNeg) + (1 : Int32))))) (((130 : Int32) * x1) + ((Mo_count s0) x1.toNatClampNeg)).toNatClampNeg x2)) (upd (Mo_tag (Mo_set_kind (Mo_set_count s0 (upd (Mo_count s0) x1.toNatClampNeg (((Mo_count s0) x1.toNatClampNeg) + (1 : Int32)))) (upd (Mo_kind (Mo_set_count s0 (upd (Mo_count s0) x1.toNatClampNeg (((Mo_count s0) x1.toNatClampNeg) + (1 : Int32))))) (((130 : Int32) * x1) + ((Mo_count s0) x1.toNatClampNeg)).toNatClampNeg x2))) (((130 : Int32) * x1) + ((Mo_count s0) x1.toNatClampNeg)).toNatClampNeg (0 : Int32)))) (((130 : Int32) * x1) + ((Mo_count s0) x1.toNatClampNeg)).toNatClampNeg (0 : Int32)))) (((130 : Int32) * x1) + ((Mo_count s0) x1.toNatClampNeg)).toNatClampNeg x3))) (((130 : Int32) * x1) + ((Mo_count s0) x1.toNatClampNeg)).toNatClampNeg ((-1) : Int32)))) (((130 : Int32) * x1) + ((Mo_count s0) x1.toNatClampNeg)).toNatClampNeg ((-1) : Int32))) (upd (Mo_last (Mo_set_next (Mo_set_first (Mo_set_parent (Mo_set_value (Mo_set_tag (Mo_set_kind (Mo_set_count s0 (upd (Mo_count s0) x1.toNatClampNeg (((Mo_count s0) x1.toNatClampNeg) + (1 : Int32)))) (upd (Mo_kind (Mo_set_count s0 (upd (Mo_count s0) x1.toNatClampNeg (((Mo_count s0) x1.toNatClampNeg) + (1 : Int32))))) (((130 : Int32) * x1) + ((Mo_count s0) x1.toNatClampNeg)).toNatClampNeg x2)) (upd (Mo_tag (Mo_set_kind (Mo_set_count s0 (upd (Mo_count s0) x1.toNatClampNeg (((Mo_count s0) x1.toNatClampNeg) + (1 : Int32)))) (upd (Mo_kind (Mo_set_count s0 (upd (Mo_count s0) x1.toNatClampNeg (((Mo_count s0) x1.toNatClampNeg) + (1 : Int32))))) (((130 : Int32) * x1) + ((Mo_count s0) x1.toNatClampNeg)).toNatClampNeg x2))) (((130 : Int32) * x1) + ((Mo_count s0) x1.toNatClampNeg)).toNatClampNeg (0 : Int32))) (upd (Mo_value (Mo_set_tag (Mo_set_kind (Mo_set_count s0 (upd (Mo_count s0) x1.toNatClampNeg (((Mo_count s0) x1.toNatClampNeg) + (1 : Int32)))) (upd (Mo_kind (Mo_set_count s0 (upd (Mo_count s0) x1.toNatClampNeg (((Mo_count s0) x1.toNatClampNeg) + (1 : Int32))))) (((130 : Int32) * x1) + ((Mo_count s0) x1.toNatClampNeg)).toNatClampNeg x2)) (upd (Mo_tag (Mo_set_kind (Mo_set_count s0 (upd (Mo_count s0) x1.toNatClampNeg (((Mo_count s0) x1.toNatClampNeg) + (1 : Int32)))) (upd (Mo_kind (Mo_set_count s0 (upd (Mo_count s0) x1.toNatClampNeg (((Mo_count s0) x1.toNatClampNeg) + (1 : Int32))))) (((130 : Int32) * x1) + ((Mo_count s0) x1.toNatClampNeg)).toNatClampNeg x2))) (((130 : Int32) * x1) + ((Mo_count s0) x1.toNatClampNeg)).toNatClampNeg (0 : Int32)))) (((130 : Int32) * x1) + ((Mo_count s0) x1.toNatClampNeg)).toNatClampNeg (0 : Int32))) (upd (Mo_parent (Mo_set_value (Mo_set_tag (Mo_set_kind (Mo_set_count s0 (upd (Mo_count s0) x1.toNatClampNeg (((Mo_count s0) x1.toNatClampNeg) + (1 : Int32)))) (upd (Mo_kind (Mo_set_count s0 (upd (Mo_count s0) x1.toNatClampNeg (((Mo_count s0) x1.toNatClampNeg) + (1 : Int32))))) (((130 : Int32) * x1) + ((Mo_count s0) x1.toNatClampNeg)).toNatClampNeg x2)) (upd (Mo_tag (Mo_set_kind (Mo_set_count s0 (upd (Mo_count s0) x1.toNatClampNeg (((Mo_count s0) x1.toNatClampNeg) + (1 : Int32)))) (upd (Mo_kind (Mo_set_count s0 (upd (Mo_count s0) x1.toNatClampNeg (((Mo_count s0) x1.toNatClampNeg) + (1 : Int32))))) (((130 : Int32) * x1) + ((Mo_count s0) x1.toNatClampNeg)).toNatClampNeg x2))) (((130 : Int32) * x1) + ((Mo_count s0) x1.toNatClampNeg)).toNatClampNeg (0 : Int32))) (upd (Mo_value (Mo_set_tag (Mo_set_kind (Mo_set_count s0 (upd (Mo_count s0) x1.toNatClampNeg (((Mo_count s0) x1.toNatClampNeg) + (1 : Int32)))) (upd (Mo_kind (Mo_set_count s0 (upd (Mo_count s0) x1.toNatClampNeg (((Mo_count s0) x1.toNatClampNeg) + (1 : Int32))))) (((130 : Int32) * x1) + ((Mo_count s0) x1.toNatClampNeg)).toNatClampNeg x2)) (upd (Mo_tag (Mo_set_kind (Mo_set_count s0 (upd (Mo_count s0) x1.toNatClampNeg (((Mo_count s0) x1.toNatClampNeg) + (1 : Int32)))) (upd (Mo_kind (Mo_set_count s0 (upd (Mo_count s0) x1.toNatClampNeg (((Mo_count s0) x1.toNatClampNeg) + (1 : Int32))))) (((130 : Int32) * x1) + ((Mo_count s0) x1.toNatClampNeg)).toNatClampNeg x2))) (((130 : Int32) * x1) + ((Mo_count s0) x1.toNatClampNeg)).toNatClampNeg (0 : Int32)))) (((130 : Int32) * x1) + ((Mo_count s0) x1.toNatClampNeg)).toNatClampNeg (0 : Int32)))) (((130 : Int32) * x1) + ((Mo_count s0) x1.toNatClampNeg)).toNatClampNeg x3)) (upd (Mo_first (Mo_set_parent (Mo_set_value (Mo_set_tag (Mo_set_kind (Mo_set_count s0 (upd (Mo_count s0) x1.toNatClampNeg (((Mo_count s0) x1.toNatClampNeg) + (1 : Int32)))) (upd (Mo_kind (Mo_set_count s0 (upd (Mo_count s0) x1.toNatClampNeg (((Mo_count s0) x1.toNatClampNeg) + (1 : Int32))))) (((130 : Int32) * x1) + ((Mo_count s0) x1.toNatClampNeg)).toNatClampNeg x2)) (upd (Mo_tag (Mo_set_kind (Mo_set_count s0 (upd (Mo_count s0) x1.toNatClampNeg (((Mo_count s0) x1.toNatClampNeg) + (1 : Int32)))) (upd (Mo_kind (Mo_set_count s0 (upd (Mo_count s0) x1.toNatClampNeg (((Mo_count s0) x1.toNatClampNeg) + (1 : Int32))))) (((130 : Int32) * x1) + ((Mo_count s0) x1.toNatClampNeg)).toNatClampNeg x2))) (((130 : Int32) * x1) + ((Mo_count s0) x1.toNatClampNeg)).toNatClampNeg (0 : Int32))) (upd (Mo_value (Mo_set_tag (Mo_set_kind (Mo_set_count s0 (upd (Mo_count s0) x1.toNatClampNeg (((Mo_count s0) x1.toNatClampNeg) + (1 : Int32)))) (upd (Mo_kind (Mo_set_count s0 (upd (Mo_count s0) x1.toNatClampNeg (((Mo_count s0) x1.toNatClampNeg) + (1 : Int32))))) (((130 : Int32) * x1) + ((Mo_count s0) x1.toNatClampNeg)).toNatClampNeg x2)) (upd (Mo_tag (Mo_set_kind (Mo_set_count s0 (upd (Mo_count s0) x1.toNatClampNeg (((Mo_count s0) x1.toNatClampNeg) + (1 : Int32)))) (upd (Mo_kind (Mo_set_count s0 (upd (Mo_count s0) x1.toNatClampNeg (((Mo_count s0) x1.toNatClampNeg) + (1 : Int32))))) (((130 : Int32) * x1) + ((Mo_count s0) x1.toNatClampNeg)).toNatClampNeg x2))) (((130 : Int32) * x1) + ((Mo_count s0) x1.toNatClampNeg)).toNatClampNeg (0 : Int32)))) (((130 : Int32) * x1) + ((Mo_count s0) x1.toNatClampNeg)).toNatClampNeg (0 : Int32))) (upd (Mo_parent (Mo_set_value (Mo_set_tag (Mo_set_kind (Mo_set_count s0 (upd (Mo_count s0) x1.toNatClampNeg (((Mo_count s0) x1.toNatClampNeg) + (1 : Int32)))) (upd (Mo_kind (Mo_set_count s0 (upd (Mo_count s0) x1.toNatClampNeg (((Mo_count s0) x1.toNatClampNeg) + (1 : Int32))))) (((130 : Int32) * x1) + ((Mo_count s0) x1.toNatClampNeg)).toNatClampNeg x2)) (upd (Mo_tag (Mo_set_kind (Mo_set_count s0 (upd (Mo_count s0) x1.toNatClampNeg (((Mo_count s0) x1.toNatClampNeg) + (1 : Int32)))) (upd (Mo_kind (Mo_set_count s0 (upd (Mo_count s0) x1.toNatClampNeg (((Mo_count s0) x1.toNatClampNeg) + (1 : Int32))))) (((130 : Int32) * x1) + ((Mo_count s0) x1.toNatClampNeg)).toNatClampNeg x2))) (((130 : Int32) * x1) + ((Mo_count s0) x1.toNatClampNeg)).toNatClampNeg (0 : Int32))) (upd (Mo_value (Mo_set_tag (Mo_set_kind (Mo_set_count s0 (upd (Mo_count s0) x1.toNatClampNeg (((Mo_count s0) x1.toNatClampNeg) + (1 : Int32)))) (upd (Mo_kind (Mo_set_count s0 (upd (Mo_count s0) x1.toNatClampNeg (((Mo_count s0) x1.toNatClampNeg) + (1 : Int32))))) (((130 : Int32) * x1) + ((Mo_count s0) x1.toNatClampNeg)).toNatClampNeg x2)) (upd (Mo_tag (Mo_set_kind (Mo_set_count s0 (upd (Mo_count s0) x1.toNatClampNeg (((Mo_count s0) x1.toNatClampNeg) + (1 : Int32)))) (upd (Mo_kind (Mo_set_count s0 (upd (Mo_count s0) x1.toNatClampNeg (((Mo_count s0) x1.toNatClampNeg) + (1 : Int32))))) (((130 : Int32) * x1) + ((Mo_count s0) x1.toNatClampNeg)).toNatClampNeg x2))) (((130 : Int32) * x1) + ((Mo_count s0) x1.toNatClampNeg)).toNatClampNeg (0 : Int32)))) (((130 : Int32) * x1) + ((Mo_count s0) x1.toNatClampNeg)).toNatClampNeg (0 : Int32)))) (((130 : Int32) * x1) + ((Mo_count s0) x1.toNatClampNeg)).toNatClampNeg x3))) (((130 : Int32) * x1) + ((Mo_count s0) x1.toNatClampNeg)).toNatClampNeg ((-1) : Int32))) (upd (Mo_next (Mo_set_first (Mo_set_parent (Mo_set_value (Mo_set_tag (Mo_set_kind (Mo_set_count s0 (upd (Mo_count s0) x1.toNatClampNeg (((Mo_count s0) x1.toNatClampNeg) + (1 : Int32)))) (upd (Mo_kind (Mo_set_count s0 (upd (Mo_count s0) x1.toNatClampNeg (((Mo_count s0) x1.toNatClampNeg) + (1 : Int32))))) (((130 : Int32) * x1) + ((Mo_count s0) x1.toNatClampNeg)).toNatClampNeg x2)) (upd (Mo_tag (Mo_set_kind (Mo_set_count s0 (upd (Mo_count s0) x1.toNatClampNeg (((Mo_count s0) x1.toNatClampNeg) + (1 : Int32)))) (upd (Mo_kind (Mo_set_count s0 (upd (Mo_count s0) x1.toNatClampNeg (((Mo_count s0) x1.toNatClampNeg) + (1 : Int32))))) (((130 : Int32) * x1) + ((Mo_count s0) x1.toNatClampNeg)).toNatClampNeg x2))) (((130 : Int32) * x1) + ((Mo_count s0) x1.toNatClampNeg)).toNatClampNeg (0 : Int32))) (upd (Mo_value (Mo_set_tag (Mo_set_kind (Mo_set_count s0 (upd (Mo_count s0) x1.toNatClampNeg (((Mo_count s0) x1.toNatClampNeg) + (1 : Int32)))) (upd (Mo_kind (Mo_set_count s0 (upd (Mo_count s0) x1.toNatClampNeg (((Mo_count s0) x1.toNatClampNeg) + (1 : Int32))))) (((130 : Int32) * x1) + ((Mo_count s0) x1.toNatClampNeg)).toNatClampNeg x2)) (upd (Mo_tag (Mo_set_kind (Mo_set_count s0 (upd (Mo_count s0) x1.toNatClampNeg (((Mo_count s0) x1.toNatClampNeg) + (1 : Int32)))) (upd (Mo_kind (Mo_set_count s0 (upd (Mo_count s0) x1.toNatClampNeg (((Mo_count s0) x1.toNatClampNeg) + (1 : Int32))))) (((130 : Int32) * x1) + ((Mo_count s0) x1.toNatClampNeg)).toNatClampNeg x2))) (((130 : Int32) * x1) + ((Mo_count s0) x1.toNatClampNeg)).toNatClampNeg (0 : Int32)))) (((130 : Int32) * x1) + ((Mo_count s0) x1.toNatClampNeg)).toNatClampNeg (0 : Int32))) (upd (Mo_parent (Mo_set_value (Mo_set_tag (Mo_set_kind (Mo_set_count s0 (upd (Mo_count s0) x1.toNatClampNeg (((Mo_count s0) x1.toNatClampNeg) + (1 : Int32)))) (upd (Mo_kind (Mo_set_count s0 (upd (Mo_count s0) x1.toNatClampNeg (((Mo_count s0) x1.toNatClampNeg) + (1 : Int32))))) (((130 : Int32) * x1) + ((Mo_count s0) x1.toNatClampNeg)).toNatClampNeg x2)) (upd (Mo_tag (Mo_set_kind (Mo_set_count s0 (upd (Mo_count s0) x1.toNatClampNeg (((Mo_count s0) x1.toNatClampNeg) + (1 : Int32)))) (upd (Mo_kind (Mo_set_count s0 (upd (Mo_count s0) x1.toNatClampNeg (((Mo_count s0) x1.toNatClampNeg) + (1 : Int32))))) (((130 : Int32) * x1) + ((Mo_count s0) x1.toNatClampNeg)).toNatClampNeg x2))) (((130 : Int32) * x1) + ((Mo_count s0) x1.toNatClampNeg)).toNatClampNeg (0 : Int32))) (upd (Mo_value (Mo_set_tag (Mo_set_kind (Mo_set_count s0 (upd (Mo_count s0) x1.toNatClampNeg (((Mo_count s0) x1.toNatClampNeg) + (1 : Int32)))) (upd (Mo_kind (Mo_set_count s0 (upd (Mo_count s0) x1.toNatClampNeg (((Mo_count s0) x1.toNatClampNeg) + (1 : Int32))))) (((130 : Int32) * x1) + ((Mo_count s0) x1.toNatClampNeg)).toNatClampNeg x2)) (upd (Mo_tag (Mo_set_kind (Mo_set_count s0 (upd (Mo_count s0) x1.toNatClampNeg (((Mo_count s0) x1.toNatClampNeg) + (1 : Int32)))) (upd (Mo_kind (Mo_set_count s0 (upd (Mo_count s0) x1.toNatClampNeg (((Mo_count s0) x1.toNatClampNeg) + (1 : Int32))))) (((130 : Int32) * x1) + ((Mo_count s0) x1.toNatClampNeg)).toNatClampNeg x2))) (((130 : Int32) * x1) + ((Mo_count s0) x1.toNatClampNeg)).toNatClampNeg (0 : Int32)))) (((130 : Int32) * x1) + ((Mo_count s0) x1.toNatClampNeg)).toNatClampNeg (0 : Int32)))) (((130 : Int32) * x1) + ((Mo_count s0) x1.toNatClampNeg)).toNatClampNeg x3)) (upd (Mo_first (Mo_set_parent (Mo_set_value (Mo_set_tag (Mo_set_kind (Mo_set_count s0 (upd (Mo_count s0) x1.toNatClampNeg (((Mo_count s0) x1.toNatClampNeg) + (1 : Int32)))) (upd (Mo_kind (Mo_set_count s0 (upd (Mo_count s0) x1.toNatClampNeg (((Mo_count s0) x1.toNatClampNeg) + (1 : Int32))))) (((130 : Int32) * x1) + ((Mo_count s0) x1.toNatClampNeg)).toNatClampNeg x2)) (upd (Mo_tag (Mo_set_kind (Mo_set_count s0 (upd (Mo_count s0) x1.toNatClampNeg (((Mo_count s0) x1.toNatClampNeg) + (1 : Int32)))) (upd (Mo_kind (Mo_set_count s0 (upd (Mo_count s0) x1.toNatClampNeg (((Mo_count s0) x1.toNatClampNeg) + (1 : Int32))))) (((130 : Int32) * x1) + ((Mo_count s0) x1.toNatClampNeg)).toNatClampNeg x2))) (((130 : Int32) * x1) + ((Mo_count s0) x1.toNatClampNeg)).toNatClampNeg (0 : Int32))) (upd (Mo_value (Mo_set_tag (Mo_set_kind (Mo_set_count s0 (upd (Mo_count s0) x1.toNatClampNeg (((Mo_count s0) x1.toNatClampNeg) + (1 : Int32)))) (upd (Mo_kind (Mo_set_count s0 (upd (Mo_count s0) x1.toNatClampNeg (((Mo_count s0) x1.toNatClampNeg) + (1 : Int32))))) (((130 : Int32) * x1) + ((Mo_count s0) x1.toNatClampNeg)).toNatClampNeg x2)) (upd (Mo_tag (Mo_set_kind (Mo_set_count s0 (upd (Mo_count s0) x1.toNatClampNeg (((Mo_count s0) x1.toNatClampNeg) + (1 : Int32)))) (upd (Mo_kind (Mo_set_count s0 (upd (Mo_count s0) x1.toNatClampNeg (((Mo_count s0) x1.toNatClampNeg) + (1 : Int32))))) (((130 : Int32) * x1) + ((Mo_count s0) x1.toNatClampNeg)).toNatClampNeg x2))) (((130 : Int32) * x1) + ((Mo_count s0) x1.toNatClampNeg)).toNatClampNeg (0 : Int32)))) (((130 : Int32) * x1) + ((Mo_count s0) x1.toNatClampNeg)).toNatClampNeg (0 : Int32))) (upd (Mo_parent (Mo_set_value (Mo_set_tag (Mo_set_kind (Mo_set_count s0 (upd (Mo_count s0) x1.toNatClampNeg (((Mo_count s0) x1.toNatClampNeg) + (1 : Int32)))) (upd (Mo_kind (Mo_set_count s0 (upd (Mo_count s0) x1.toNatClampNeg (((Mo_count s0) x1.toNatClampNeg) + (1 : Int32))))) (((130 : Int32) * x1) + ((Mo_count s0) x1.toNatClampNeg)).toNatClampNeg x2)) (upd (Mo_tag (Mo_set_kind (Mo_set_count s0 (upd (Mo_count s0) x1.toNatClampNeg (((Mo_count s0) x1.toNatClampNeg) + (1 : Int32)))) (upd (Mo_kind (Mo_set_count s0 (upd (Mo_count s0) x1.toNatClampNeg (((Mo_count s0) x1.toNatClampNeg) + (1 : Int32))))) (((130 : Int32) * x1) + ((Mo_count s0) x1.toNatClampNeg)).toNatClampNeg x2))) (((130 : Int32) * x1) + ((Mo_count s0) x1.toNatClampNeg)).toNatClampNeg (0 : Int32))) (upd (Mo_value (Mo_set_tag (Mo_set_kind (Mo_set_count s0 (upd (Mo_count s0) x1.toNatClampNeg (((Mo_count s0) x1.toNatClampNeg) + (1 : Int32)))) (upd (Mo_kind (Mo_set_count s0 (upd (Mo_count s0) x1.toNatClampNeg (((Mo_count s0) x1.toNatClampNeg) + (1 : Int32))))) (((130 : Int32) * x1) + ((Mo_count s0) x1.toNatClampNeg)).toNatClampNeg x2)) (upd (Mo_tag (Mo_set_kind (Mo_set_count s0 (upd (Mo_count s0) x1.toNatClampNeg (((Mo_count s0) x1.toNatClampNeg) + (1 : Int32)))) (upd (Mo_kind (Mo_set_count s0 (upd (Mo_count s0) x1.toNatClampNeg (((Mo_count s0) x1.toNatClampNeg) + (1 : Int32))))) (((130 : Int32) * x1) + ((Mo_count s0) x1.toNatClampNeg)).toNatClampNeg x2))) (((130 : Int32) * x1) + ((Mo_count s0) x1.toNatClampNeg)).toNatClampNeg (0 : Int32)))) (((130 : Int32) * x1) + ((Mo_count s0) x1.toNatClampNeg)).toNatClampNeg (0 : Int32)))) (((130 : Int32) * x1) + ((Mo_count s0) x1.toNatClampNeg)).toNatClampNeg x3))) (((130 : Int32) * x1) + ((Mo_count s0) x1.toNatClampNeg)).toNatClampNeg ((-1) : Int32)))) (((130 : Int32) * x1) + ((Mo_count s0) x1.toNatClampNeg)).toNatClampNeg ((-1) : Int32)))) (((130 : Int32) * x1) + ((Mo_count s0) x1.toNatClampNeg)).toNatClampNeg ((-1) : Int32))) (upd (Mo_many (Mo_set_last (Mo_set_next (Mo_set_first (Mo_set_parent (Mo_set_value (Mo_set_tag (Mo_set_kind (Mo_set_count s0 (upd (Mo_count s0) x1.toNatClampNeg (((Mo_count s0) x1.toNatClampNeg) + (1 : Int32)))) (upd (Mo_kind (Mo_set_count s0 (upd (Mo_count s0) x1.toNatClampNeg (((Mo_count s0) x1.toNatClampNeg) + (1 : Int32))))) (((130 : Int32) * x1) + ((Mo_count s0) x1.toNatClampNeg)).toNatClampNeg x2)) (upd (Mo_tag (Mo_set_kind (Mo_set_count s0 (upd (Mo_count s0) x1.toNatClampNeg (((Mo_count s0) x1.toNatClampNeg) + (1 : Int32)))) (upd (Mo_kind (Mo_set_count s0 (upd (Mo_count s0) x1.toNatClampNeg (((Mo_count s0) x1.toNatClampNeg) + (1 : Int32))))) (((130 : Int32) * x1) + ((Mo_count s0) x1.toNatClampNeg)).toNatClampNeg x2))) (((130 : Int32) * x1) + ((Mo_count s0) x1.toNatClampNeg)).toNatClampNeg (0 : Int32))) (upd (Mo_value (Mo_set_tag (Mo_set_kind (Mo_set_count s0 (upd (Mo_count s0) x1.toNatClampNeg (((Mo_count s0) x1.toNatClampNeg) + (1 : Int32)))) (upd (Mo_kind (Mo_set_count s0 (upd (Mo_count s0) x1.toNatClampNeg (((Mo_count s0) x1.toNatClampNeg) + (1 : Int32))))) (((130 : Int32) * x1) + ((Mo_count s0) x1.toNatClampNeg)).toNatClampNeg x2)) (upd (Mo_tag (Mo_set_kind (Mo_set_count s0 (upd (Mo_count s0) x1.toNatClampNeg (((Mo_count s0) x1.toNatClampNeg) + (1 : Int32)))) (upd (Mo_kind (Mo_set_count s0 (upd (Mo_count s0) x1.toNatClampNeg (((Mo_count s0) x1.toNatClampNeg) + (1 : Int32))))) (((130 : Int32) * x1) + ((Mo_count s0) x1.toNatClampNeg)).toNatClampNeg x2))) (((130 : Int32) * x1) + ((Mo_count s0) x1.toNatClampNeg)).toNatClampNeg (0 : Int32)))) (((130 : Int32) * x1) + ((Mo_count s0) x1.toNatClampNeg)).toNatClampNeg (0 : Int32))) (upd (Mo_parent (Mo_set_value (Mo_set_tag (Mo_set_kind (Mo_set_count s0 (upd (Mo_count s0) x1.toNatClampNeg (((Mo_count s0) x1.toNatClampNeg) + (1 : Int32)))) (upd (Mo_kind (Mo_set_count s0 (upd (Mo_count s0) x1.toNatClampNeg (((Mo_count s0) x1.toNatClampNeg) + (1 : Int32))))) (((130 : Int32) * x1) + ((Mo_count s0) x1.toNatClampNeg)).toNatClampNeg x2)) (upd (Mo_tag (Mo_set_kind (Mo_set_count s0 (upd (Mo_count s0) x1.toNatClampNeg (((Mo_count s0) x1.toNatClampNeg) + (1 : Int32)))) (upd (Mo_kind (Mo_set_count s0 (upd (Mo_count s0) x1.toNatClampNeg (((Mo_count s0) x1.toNatClampNeg) + (1 : Int32))))) (((130 : Int32) * x1) + ((Mo_count s0) x1.toNatClampNeg)).toNatClampNeg x2))) (((130 : Int32) * x1) + ((Mo_count s0) x1.toNatClampNeg)).toNatClampNeg (0 : Int32))) (upd (Mo_value (Mo_set_tag (Mo_set_kind (Mo_set_count s0 (upd (Mo_count s0) x1.toNatClampNeg (((Mo_count s0) x1.toNatClampNeg) + (1 : Int32)))) (upd (Mo_kind (Mo_set_count s0 (upd (Mo_count s0) x1.toNatClampNeg (((Mo_count s0) x1.toNatClampNeg) + (1 : Int32))))) (((130 : Int32) * x1) + ((Mo_count s0) x1.toNatClampNeg)).toNatClampNeg x2)) (upd (Mo_tag (Mo_set_kind (Mo_set_count s0 (upd (Mo_count s0) x1.toNatClampNeg (((Mo_count s0) x1.toNatClampNeg) + (1 : Int32)))) (upd (Mo_kind (Mo_set_count s0 (upd (Mo_count s0) x1.toNatClampNeg (((Mo_count s0) x1.toNatClampNeg) + (1 : Int32))))) (((130 : Int32) * x1) + ((Mo_count s0) x1.toNatClampNeg)).toNatClampNeg x2))) (((130 : Int32) * x1) + ((Mo_count s0) x1.toNatClampNeg)).toNatClampNeg (0 : Int32)))) (((130 : Int32) * x1) + ((Mo_count s0) x1.toNatClampNeg)).toNatClampNeg (0 : Int32)))) (((130 : Int32) * x1) + ((Mo_count s0) x1.toNatClampNeg)).toNatClampNeg x3)) (upd (Mo_first (Mo_set_parent (Mo_set_value (Mo_set_tag (Mo_set_kind (Mo_set_count s0 (upd (Mo_count s0) x1.toNatClampNeg (((Mo_count s0) x1.toNatClampNeg) + (1 : Int32)))) (upd (Mo_kind (Mo_set_count s0 (upd (Mo_count s0) x1.toNatClampNeg (((Mo_count s0) x1.toNatClampNeg) + (1 : Int32))))) (((130 : Int32) * x1) + ((Mo_count s0) x1.toNatClampNeg)).toNatClampNeg x2)) (upd (Mo_tag (Mo_set_kind (Mo_set_count s0 (upd (Mo_count s0) x1.toNatClampNeg (((Mo_count s0) x1.toNatClampNeg) + (1 : Int32)))) (upd (Mo_kind (Mo_set_count s0 (upd (Mo_count s0) x1.toNatClampNeg (((Mo_count s0) x1.toNatClampNeg) + (1 : Int32))))) (((130 : Int32) * x1) + ((Mo_count s0) x1.toNatClampNeg)).toNatClampNeg x2))) (((130 : Int32) * x1) + ((Mo_count s0) x1.toNatClampNeg)).toNatClampNeg (0 : Int32))) (upd (Mo_value (Mo_set_tag (Mo_set_kind (Mo_set_count s0 (upd (Mo_count s0) x1.toNatClampNeg (((Mo_count s0) x1.toNatClampNeg) + (1 : Int32)))) (upd (Mo_kind (Mo_set_count s0 (upd (Mo_count s0) x1.toNatClampNeg (((Mo_count s0) x1.toNatClampNeg) + (1 : Int32))))) (((130 : Int32) * x1) + ((Mo_count s0) x1.toNatClampNeg)).toNatClampNeg x2)) (upd (Mo_tag (Mo_set_kind (Mo_set_count s0 (upd (Mo_count s0) x1.toNatClampNeg (((Mo_count s0) x1.toNatClampNeg) + (1 : Int32)))) (upd (Mo_kind (Mo_set_count s0 (upd (Mo_count s0) x1.toNatClampNeg (((Mo_count s0) x1.toNatClampNeg) + (1 : Int32))))) (((130 : Int32) * x1) + ((Mo_count s0) x1.toNatClampNeg)).toNatClampNeg x2))) (((130 : Int32) * x1) + ((Mo_count s0) x1.toNatClampNeg)).toNatClampNeg (0 : Int32)))) (((130 : Int32) * x1) + ((Mo_count s0) x1.toNatClampNeg)).toNatClampNeg (0 : Int32))) (upd (Mo_parent (Mo_set_value (Mo_set_tag (Mo_set_kind (Mo_set_count s0 (upd (Mo_count s0) x1.toNatClampNeg (((Mo_count s0) x1.toNatClampNeg) + (1 : Int32)))) (upd (Mo_kind (Mo_set_count s0 (upd (Mo_count s0) x1.toNatClampNeg (((Mo_count s0) x1.toNatClampNeg) + (1 : Int32))))) (((130 : Int32) * x1) + ((Mo_count s0) x1.toNatClampNeg)).toNatClampNeg x2)) (upd (Mo_tag (Mo_set_kind (Mo_set_count s0 (upd (Mo_count s0) x1.toNatClampNeg (((Mo_count s0) x1.toNatClampNeg) + (1 : Int32)))) (upd (Mo_kind (Mo_set_count s0 (upd (Mo_count s0) x1.toNatClampNeg (((Mo_count s0) x1.toNatClampNeg) + (1 : Int32))))) (((130 : Int32) * x1) + ((Mo_count s0) x1.toNatClampNeg)).toNatClampNeg x2))) (((130 : Int32) * x1) + ((Mo_count s0) x1.toNatClampNeg)).toNatClampNeg (0 : Int32))) (upd (Mo_value (Mo_set_tag (Mo_set_kind (Mo_set_count s0 (upd (Mo_count s0) x1.toNatClampNeg (((Mo_count s0) x1.toNatClampNeg) + (1 : Int32)))) (upd (Mo_kind (Mo_set_count s0 (upd (Mo_count s0) x1.toNatClampNeg (((Mo_count s0) x1.toNatClampNeg) + (1 : Int32))))) (((130 : Int32) * x1) + ((Mo_count s0) x1.toNatClampNeg)).toNatClampNeg x2)) (upd (Mo_tag (Mo_set_kind (Mo_set_count s0 (upd (Mo_count s0) x1.toNatClampNeg (((Mo_count s0) x1.toNatClampNeg) + (1 : Int32)))) (upd (Mo_kind (Mo_set_count s0 (upd (Mo_count s0) x1.toNatClampNeg (((Mo_count s0) x1.toNatClampNeg) + (1 : Int32))))) (((130 : Int32) * x1) + ((Mo_count s0) x1.toNatClampNeg)).toNatClampNeg x2))) (((130 : Int32) * x1) + ((Mo_count s0) x1.toNatClampNeg)).toNatClampNeg (0 : Int32)))) (((130 : Int32) * x1) + ((Mo_count s0) x1.toNatClampNeg)).toNatClampNeg (0 : Int32)))) (((130 : Int32) * x1) + ((Mo_count s0) x1.toNatClampNeg)).toNatClampNeg x3))) (((130 : Int32) * x1) + ((Mo_count s0) x1.toNatClampNeg)).toNatClampNeg ((-1) : Int32))) (upd (Mo_next (Mo_set_first (Mo_set_parent (Mo_set_value (Mo_set_tag (Mo_set_kind (Mo_set_count s0 (upd (Mo_count s0) x1.toNatClampNeg (((Mo_count s0) x1.toNatClampNeg) + (1 : Int32)))) (upd (Mo_kind (Mo_set_count s0 (upd (Mo_count s0) x1.toNatClampNeg (((Mo_count s0) x1.toNatClampNeg) + (1 : Int32))))) (((130 : Int32) * x1) + ((Mo_count s0) x1.toNatClampNeg)).toNatClampNeg x2)) (upd (Mo_tag (Mo_set_kind (Mo_set_count s0 (upd (Mo_count s0) x1.toNatClampNeg (((Mo_count s0) x1.toNatClampNeg) + (1 : Int32)))) (upd (Mo_kind (Mo_set_count s0 (upd (Mo_count s0) x1.toNatClampNeg (((Mo_count s0) x1.toNatClampNeg) + (1 : Int32))))) (((130 : Int32) * x1) + ((Mo_count s0) x1.toNatClampNeg)).toNatClampNeg x2))) (((130 : Int32) * x1) + ((Mo_count s0) x1.toNatClampNeg)).toNatClampNeg (0 : Int32))) (upd (Mo_value (Mo_set_tag (Mo_set_kind (Mo_set_count s0 (upd (Mo_count s0) x1.toNatClampNeg (((Mo_count s0) x1.toNatClampNeg) + (1 : Int32)))) (upd (Mo_kind (Mo_set_count s0 (upd (Mo_count s0) x1.toNatClampNeg (((Mo_count s0) x1.toNatClampNeg) + (1 : Int32))))) (((130 : Int32) * x1) + ((Mo_count s0) x1.toNatClampNeg)).toNatClampNeg x2)) (upd (Mo_tag (Mo_set_kind (Mo_set_count s0 (upd (Mo_count s0) x1.toNatClampNeg (((Mo_count s0) x1.toNatClampNeg) + (1 : Int32)))) (upd (Mo_kind (Mo_set_count s0 (upd (Mo_count s0) x1.toNatClampNeg (((Mo_count s0) x1.toNatClampNeg) + (1 : Int32))))) (((130 : Int32) * x1) + ((Mo_count s0) x1.toNatClampNeg)).toNatClampNeg x2))) (((130 : Int32) * x1) + ((Mo_count s0) x1.toNatClampNeg)).toNatClampNeg (0 : Int32)))) (((130 : Int32) * x1) + ((Mo_count s0) x1.toNatClampNeg)).toNatClampNeg (0 : Int32))) (upd (Mo_parent (Mo_set_value (Mo_set_tag (Mo_set_kind (Mo_set_count s0 (upd (Mo_count s0) x1.toNatClampNeg (((Mo_count s0) x1.toNatClampNeg) + (1 : Int32)))) (upd (Mo_kind (Mo_set_count s0 (upd (Mo_count s0) x1.toNatClampNeg (((Mo_count s0) x1.toNatClampNeg) + (1 : Int32))))) (((130 : Int32) * x1) + ((Mo_count s0) x1.toNatClampNeg)).toNatClampNeg x2)) (upd (Mo_tag (Mo_set_kind (Mo_set_count s0 (upd (Mo_count s0) x1.toNatClampNeg (((Mo_count s0) x1.toNatClampNeg) + (1 : Int32)))) (upd (Mo_kind (Mo_set_count s0 (upd (Mo_count s0) x1.toNatClampNeg (((Mo_count s0) x1.toNatClampNeg) + (1 : Int32))))) (((130 : Int32) * x1) + ((Mo_count s0) x1.toNatClampNeg)).toNatClampNeg x2))) (((130 : Int32) * x1) + ((Mo_count s0) x1.toNatClampNeg)).toNatClampNeg (0 : Int32))) (upd (Mo_value (Mo_set_tag (Mo_set_kind (Mo_set_count s0 (upd (Mo_count s0) x1.toNatClampNeg (((Mo_count s0) x1.toNatClampNeg) + (1 : Int32)))) (upd (Mo_kind (Mo_set_count s0 (upd (Mo_count s0) x1.toNatClampNeg (((Mo_count s0) x1.toNatClampNeg) + (1 : Int32))))) (((130 : Int32) * x1) + ((Mo_count s0) x1.toNatClampNeg)).toNatClampNeg x2)) (upd (Mo_tag (Mo_set_kind (Mo_set_count s0 (upd (Mo_count s0) x1.toNatClampNeg (((Mo_count s0) x1.toNatClampNeg) + (1 : Int32)))) (upd (Mo_kind (Mo_set_count s0 (upd (Mo_count s0) x1.toNatClampNeg (((Mo_count s0) x1.toNatClampNeg) + (1 : Int32))))) (((130 : Int32) * x1) + ((Mo_count s0) x1.toNatClampNeg)).toNatClampNeg x2))) (((130 : Int32) * x1) + ((Mo_count s0) x1.toNatClampNeg)).toNatClampNeg (0 : Int32)))) (((130 : Int32) * x1) + ((Mo_count s0) x1.toNatClampNeg)).toNatClampNeg (0 : Int32)))) (((130 : Int32) * x1) + ((Mo_count s0) x1.toNatClampNeg)).toNatClampNeg x3)) (upd (Mo_first (Mo_set_parent (Mo_set_value (Mo_set_tag (Mo_set_kind (Mo_set_count s0 (upd (Mo_count s0) x1.toNatClampNeg (((Mo_count s0) x1.toNatClampNeg) + (1 : Int32)))) (upd (Mo_kind (Mo_set_count s0 (upd (Mo_count s0) x1.toNatClampNeg (((Mo_count s0) x1.toNatClampNeg) + (1 : Int32))))) (((130 : Int32) * x1) + ((Mo_count s0) x1.toNatClampNeg)).toNatClampNeg x2)) (upd (Mo_tag (Mo_set_kind (Mo_set_count s0 (upd (Mo_count s0) x1.toNatClampNeg (((Mo_count s0) x1.toNatClampNeg) + (1 : Int32)))) (upd (Mo_kind (Mo_set_count s0 (upd (Mo_count s0) x1.toNatClampNeg (((Mo_count s0) x1.toNatClampNeg) + (1 : Int32))))) (((130 : Int32) * x1) + ((Mo_count s0) x1.toNatClampNeg)).toNatClampNeg x2))) (((130 : Int32) * x1) + ((Mo_count s0) x1.toNatClampNeg)).toNatClampNeg (0 : Int32))) (upd (Mo_value (Mo_set_tag (Mo_set_kind (Mo_set_count s0 (upd (Mo_count s0) x1.toNatClampNeg (((Mo_count s0) x1.toNatClampNeg) + (1 : Int32)))) (upd (Mo_kind (Mo_set_count s0 (upd (Mo_count s0) x1.toNatClampNeg (((Mo_count s0) x1.toNatClampNeg) + (1 : Int32))))) (((130 : Int32) * x1) + ((Mo_count s0) x1.toNatClampNeg)).toNatClampNeg x2)) (upd (Mo_tag (Mo_set_kind (Mo_set_count s0 (upd (Mo_count s0) x1.toNatClampNeg (((Mo_count s0) x1.toNatClampNeg) + (1 : Int32)))) (upd (Mo_kind (Mo_set_count s0 (upd (Mo_count s0) x1.toNatClampNeg (((Mo_count s0) x1.toNatClampNeg) + (1 : Int32))))) (((130 : Int32) * x1) + ((Mo_count s0) x1.toNatClampNeg)).toNatClampNeg x2))) (((130 : Int32) * x1) + ((Mo_count s0) x1.toNatClampNeg)).toNatClampNeg (0 : Int32)))) (((130 : Int32) * x1) + ((Mo_count s0) x1.toNatClampNeg)).toNatClampNeg (0 : Int32))) (upd (Mo_parent (Mo_set_value (Mo_set_tag (Mo_set_kind (Mo_set_count s0 (upd (Mo_count s0) x1.toNatClampNeg (((Mo_count s0) x1.toNatClampNeg) + (1 : Int32)))) (upd (Mo_kind (Mo_set_count s0 (upd (Mo_count s0) x1.toNatClampNeg (((Mo_count s0) x1.toNatClampNeg) + (1 : Int32))))) (((130 : Int32) * x1) + ((Mo_count s0) x1.toNatClampNeg)).toNatClampNeg x2)) (upd (Mo_tag (Mo_set_kind (Mo_set_count s0 (upd (Mo_count s0) x1.toNatClampNeg (((Mo_count s0) x1.toNatClampNeg) + (1 : Int32)))) (upd (Mo_kind (Mo_set_count s0 (upd (Mo_count s0) x1.toNatClampNeg (((Mo_count s0) x1.toNatClampNeg) + (1 : Int32))))) (((130 : Int32) * x1) + ((Mo_count s0) x1.toNatClampNeg)).toNatClampNeg x2))) (((130 : Int32) * x1) + ((Mo_count s0) x1.toNatClampNeg)).toNatClampNeg (0 : Int32))) (upd (Mo_value (Mo_set_tag (Mo_set_kind (Mo_set_count s0 (upd (Mo_count s0) x1.toNatClampNeg (((Mo_count s0) x1.toNatClampNeg) + (1 : Int32)))) (upd (Mo_kind (Mo_set_count s0 (upd (Mo_count s0) x1.toNatClampNeg (((Mo_count s0) x1.toNatClampNeg) + (1 : Int32))))) (((130 : Int32) * x1) + ((Mo_count s0) x1.toNatClampNeg)).toNatClampNeg x2)) (upd (Mo_tag (Mo_set_kind (Mo_set_count s0 (upd (Mo_count s0) x1.toNatClampNeg (((Mo_count s0) x1.toNatClampNeg) + (1 : Int32)))) (upd (Mo_kind (Mo_set_count s0 (upd (Mo_count s0) x1.toNatClampNeg (((Mo_count s0) x1.toNatClampNeg) + (1 : Int32))))) (((130 : Int32) * x1) + ((Mo_count s0) x1.toNatClampNeg)).toNatClampNeg x2))) (((130 : Int32) * x1) + ((Mo_count s0) x1.toNatClampNeg)).toNatClampNeg (0 : Int32)))) (((130 : Int32) * x1) + ((Mo_count s0) x1.toNatClampNeg)).toNatClampNeg (0 : Int32)))) (((130 : Int32) * x1) + ((Mo_count s0) x1.toNatClampNeg)).toNatClampNeg x3))) (((130 : Int32) * x1) + ((Mo_count s0) x1.toNatClampNeg)).toNatClampNeg ((-1) : Int32)))) (((130 : Int32) * x1) + ((Mo_count s0) x1.toNatClampNeg)).toNatClampNeg ((-1) : Int32))) (upd (Mo_last (Mo_set_next (Mo_set_first (Mo_set_parent (Mo_set_value (Mo_set_tag (Mo_set_kind (Mo_set_count s0 (upd (Mo_count s0) x1.toNatClampNeg (((Mo_count s0) x1.toNatClampNeg) + (1 : Int32)))) (upd (Mo_kind (Mo_set_count s0 (upd (Mo_count s0) x1.toNatClampNeg (((Mo_count s0) x1.toNatClampNeg) + (1 : Int32))))) (((130 : Int32) * x1) + ((Mo_count s0) x1.toNatClampNeg)).toNatClampNeg x2)) (upd (Mo_tag (Mo_set_kind (Mo_set_count s0 (upd (Mo_count s0) x1.toNatClampNeg (((Mo_count s0) x1.toNatClampNeg) + (1 : Int32)))) (upd (Mo_kind (Mo_set_count s0 (upd (Mo_count s0) x1.toNatClampNeg (((Mo_count s0) x1.toNatClampNeg) + (1 : Int32))))) (((130 : Int32) * x1) + ((Mo_count s0) x1.toNatClampNeg)).toNatClampNeg x2))) (((130 : Int32) * x1) + ((Mo_count s0) x1.toNatClampNeg)).toNatClampNeg (0 : Int32))) (upd (Mo_value (Mo_set_tag (Mo_set_kind (Mo_set_count s0 (upd (Mo_count s0) x1.toNatClampNeg (((Mo_count s0) x1.toNatClampNeg) + (1 : Int32)))) (upd (Mo_kind (Mo_set_count s0 (upd (Mo_count s0) x1.toNatClampNeg (((Mo_count s0) x1.toNatClampNeg) + (1 : Int32))))) (((130 : Int32) * x1) + ((Mo_count s0) x1.toNatClampNeg)).toNatClampNeg x2)) (upd (Mo_tag (Mo_set_kind (Mo_set_count s0 (upd (Mo_count s0) x1.toNatClampNeg (((Mo_count s0) x1.toNatClampNeg) + (1 : Int32)))) (upd (Mo_kind (Mo_set_count s0 (upd (Mo_count s0) x1.toNatClampNeg (((Mo_count s0) x1.toNatClampNeg) + (1 : Int32))))) (((130 : Int32) * x1) + ((Mo_count s0) x1.toNatClampNeg)).toNatClampNeg x2))) (((130 : Int32) * x1) + ((Mo_count s0) x1.toNatClampNeg)).toNatClampNeg (0 : Int32)))) (((130 : Int32) * x1) + ((Mo_count s0) x1.toNatClampNeg)).toNatClampNeg (0 : Int32))) (upd (Mo_parent (Mo_set_value (Mo_set_tag (Mo_set_kind (Mo_set_count s0 (upd (Mo_count s0) x1.toNatClampNeg (((Mo_count s0) x1.toNatClampNeg) + (1 : Int32)))) (upd (Mo_kind (Mo_set_count s0 (upd (Mo_count s0) x1.toNatClampNeg (((Mo_count s0) x1.toNatClampNeg) + (1 : Int32))))) (((130 : Int32) * x1) + ((Mo_count s0) x1.toNatClampNeg)).toNatClampNeg x2)) (upd (Mo_tag (Mo_set_kind (Mo_set_count s0 (upd (Mo_count s0) x1.toNatClampNeg (((Mo_count s0) x1.toNatClampNeg) + (1 : Int32)))) (upd (Mo_kind (Mo_set_count s0 (upd (Mo_count s0) x1.toNatClampNeg (((Mo_count s0) x1.toNatClampNeg) + (1 : Int32))))) (((130 : Int32) * x1) + ((Mo_count s0) x1.toNatClampNeg)).toNatClampNeg x2))) (((130 : Int32) * x1) + ((Mo_count s0) x1.toNatClampNeg)).toNatClampNeg (0 : Int32))) (upd (Mo_value (Mo_set_tag (Mo_set_kind (Mo_set_count s0 (upd (Mo_count s0) x1.toNatClampNeg (((Mo_count s0) x1.toNatClampNeg) + (1 : Int32)))) (upd (Mo_kind (Mo_set_count s0 (upd (Mo_count s0) x1.toNatClampNeg (((Mo_count s0) x1.toNatClampNeg) + (1 : Int32))))) (((130 : Int32) * x1) + ((Mo_count s0) x1.toNatClampNeg)).toNatClampNeg x2)) (upd (Mo_tag (Mo_set_kind (Mo_set_count s0 (upd (Mo_count s0) x1.toNatClampNeg (((Mo_count s0) x1.toNatClampNeg) + (1 : Int32)))) (upd (Mo_kind (Mo_set_count s0 (upd (Mo_count s0) x1.toNatClampNeg (((Mo_count s0) x1.toNatClampNeg) + (1 : Int32))))) (((130 : Int32) * x1) + ((Mo_count s0) x1.toNatClampNeg)).toNatClampNeg x2))) (((130 : Int32) * x1) + ((Mo_count s0) x1.toNatClampNeg)).toNatClampNeg (0 : Int32)))) (((130 : Int32) * x1) + ((Mo_count s0) x1.toNatClampNeg)).toNatClampNeg (0 : Int32)))) (((130 : Int32) * x1) + ((Mo_count s0) x1.toNatClampNeg)).toNatClampNeg x3)) (upd (Mo_first (Mo_set_parent (Mo_set_value (Mo_set_tag (Mo_set_kind (Mo_set_count s0 (upd (Mo_count s0) x1.toNatClampNeg (((Mo_count s0) x1.toNatClampNeg) + (1 : Int32)))) (upd (Mo_kind (Mo_set_count s0 (upd (Mo_count s0) x1.toNatClampNeg (((Mo_count s0) x1.toNatClampNeg) + (1 : Int32))))) (((130 : Int32) * x1) + ((Mo_count s0) x1.toNatClampNeg)).toNatClampNeg x2)) (upd (Mo_tag (Mo_set_kind (Mo_set_count s0 (upd (Mo_count s0) x1.toNatClampNeg (((Mo_count s0) x1.toNatClampNeg) + (1 : Int32)))) (upd (Mo_kind (Mo_set_count s0 (upd (Mo_count s0) x1.toNatClampNeg (((Mo_count s0) x1.toNatClampNeg) + (1 : Int32))))) (((130 : Int32) * x1) + ((Mo_count s0) x1.toNatClampNeg)).toNatClampNeg x2))) (((130 : Int32) * x1) + ((Mo_count s0) x1.toNatClampNeg)).toNatClampNeg (0 : Int32))) (upd (Mo_value (Mo_set_tag (Mo_set_kind (Mo_set_count s0 (upd (Mo_count s0) x1.toNatClampNeg (((Mo_count s0) x1.toNatClampNeg) + (1 : Int32)))) (upd (Mo_kind (Mo_set_count s0 (upd (Mo_count s0) x1.toNatClampNeg (((Mo_count s0) x1.toNatClampNeg) + (1 : Int32))))) (((130 : Int32) * x1) + ((Mo_count s0) x1.toNatClampNeg)).toNatClampNeg x2)) (upd (Mo_tag (Mo_set_kind (Mo_set_count s0 (upd (Mo_count s0) x1.toNatClampNeg (((Mo_count s0) x1.toNatClampNeg) + (1 : Int32)))) (upd (Mo_kind (Mo_set_count s0 (upd (Mo_count s0) x1.toNatClampNeg (((Mo_count s0) x1.toNatClampNeg) + (1 : Int32))))) (((130 : Int32) * x1) + ((Mo_count s0) x1.toNatClampNeg)).toNatClampNeg x2))) (((130 : Int32) * x1) + ((Mo_count s0) x1.toNatClampNeg)).toNatClampNeg (0 : Int32)))) (((130 : Int32) * x1) + ((Mo_count s0) x1.toNatClampNeg)).toNatClampNeg (0 : Int32))) (upd (Mo_parent (Mo_set_value (Mo_set_tag (Mo_set_kind (Mo_set_count s0 (upd (Mo_count s0) x1.toNatClampNeg (((Mo_count s0) x1.toNatClampNeg) + (1 : Int32)))) (upd (Mo_kind (Mo_set_count s0 (upd (Mo_count s0) x1.toNatClampNeg (((Mo_count s0) x1.toNatClampNeg) + (1 : Int32))))) (((130 : Int32) * x1) + ((Mo_count s0) x1.toNatClampNeg)).toNatClampNeg x2)) (upd (Mo_tag (Mo_set_kind (Mo_set_count s0 (upd (Mo_count s0) x1.toNatClampNeg (((Mo_count s0) x1.toNatClampNeg) + (1 : Int32)))) (upd (Mo_kind (Mo_set_count s0 (upd (Mo_count s0) x1.toNatClampNeg (((Mo_count s0) x1.toNatClampNeg) + (1 : Int32))))) (((130 : Int32) * x1) + ((Mo_count s0) x1.toNatClampNeg)).toNatClampNeg x2))) (((130 : Int32) * x1) + ((Mo_count s0) x1.toNatClampNeg)).toNatClampNeg (0 : Int32))) (upd (Mo_value (Mo_set_tag (Mo_set_kind (Mo_set_count s0 (upd (Mo_count s0) x1.toNatClampNeg (((Mo_count s0) x1.toNatClampNeg) + (1 : Int32)))) (upd (Mo_kind (Mo_set_count s0 (upd (Mo_count s0) x1.toNatClampNeg (((Mo_count s0) x1.toNatClampNeg) + (1 : Int32))))) (((130 : Int32) * x1) + ((Mo_count s0) x1.toNatClampNeg)).toNatClampNeg x2)) (upd (Mo_tag (Mo_set_kind (Mo_set_count s0 (upd (Mo_count s0) x1.toNatClampNeg (((Mo_count s0) x1.toNatClampNeg) + (1 : Int32)))) (upd (Mo_kind (Mo_set_count s0 (upd (Mo_count s0) x1.toNatClampNeg (((Mo_count s0) x1.toNatClampNeg) + (1 : Int32))))) (((130 : Int32) * x1) + ((Mo_count s0) x1.toNatClampNeg)).toNatClampNeg x2))) (((130 : Int32) * x1) + ((Mo_count s0) x1.toNatClampNeg)).toNatClampNeg (0 : Int32)))) (((130 : Int32) * x1) + ((Mo_count s0) x1.toNatClampNeg)).toNatClampNeg (0 : Int32)))) (((130 : Int32) * x1) + ((Mo_count s0) x1.toNatClampNeg)).toNatClampNeg x3))) (((130 : Int32) * x1) + ((Mo_count s0) x1.toNatClampNeg)).toNatClampNeg ((-1) : Int32))) (upd (Mo_next (Mo_set_first (Mo_set_parent (Mo_set_value (Mo_set_tag (Mo_set_kind (Mo_set_count s0 (upd (Mo_count s0) x1.toNatClampNeg (((Mo_count s0) x1.toNatClampNeg) + (1 : Int32)))) (upd (Mo_kind (Mo_set_count s0 (upd (Mo_count s0) x1.toNatClampNeg (((Mo_count s0) x1.toNatClampNeg) + (1 : Int32))))) (((130 : Int32) * x1) + ((Mo_count s0) x1.toNatClampNeg)).toNatClampNeg x2)) (upd (Mo_tag (Mo_set_kind (Mo_set_count s0 (upd (Mo_count s0) x1.toNatClampNeg (((Mo_count s0) x1.toNatClampNeg) + (1 : Int32)))) (upd (Mo_kind (Mo_set_count s0 (upd (Mo_count s0) x1.toNatClampNeg (((Mo_count s0) x1.toNatClampNeg) + (1 : Int32))))) (((130 : Int32) * x1) + ((Mo_count s0) x1.toNatClampNeg)).toNatClampNeg x2))) (((130 : Int32) * x1) + ((Mo_count s0) x1.toNatClampNeg)).toNatClampNeg (0 : Int32))) (upd (Mo_value (Mo_set_tag (Mo_set_kind (Mo_set_count s0 (upd (Mo_count s0) x1.toNatClampNeg (((Mo_count s0) x1.toNatClampNeg) + (1 : Int32)))) (upd (Mo_kind (Mo_set_count s0 (upd (Mo_count s0) x1.toNatClampNeg (((Mo_count s0) x1.toNatClampNeg) + (1 : Int32))))) (((130 : Int32) * x1) + ((Mo_count s0) x1.toNatClampNeg)).toNatClampNeg x2)) (upd (Mo_tag (Mo_set_kind (Mo_set_count s0 (upd (Mo_count s0) x1.toNatClampNeg (((Mo_count s0) x1.toNatClampNeg) + (1 : Int32)))) (upd (Mo_kind (Mo_set_count s0 (upd (Mo_count s0) x1.toNatClampNeg (((Mo_count s0) x1.toNatClampNeg) + (1 : Int32))))) (((130 : Int32) * x1) + ((Mo_count s0) x1.toNatClampNeg)).toNatClampNeg x2))) (((130 : Int32) * x1) + ((Mo_count s0) x1.toNatClampNeg)).toNatClampNeg (0 : Int32)))) (((130 : Int32) * x1) + ((Mo_count s0) x1.toNatClampNeg)).toNatClampNeg (0 : Int32))) (upd (Mo_parent (Mo_set_value (Mo_set_tag (Mo_set_kind (Mo_set_count s0 (upd (Mo_count s0) x1.toNatClampNeg (((Mo_count s0) x1.toNatClampNeg) + (1 : Int32)))) (upd (Mo_kind (Mo_set_count s0 (upd (Mo_count s0) x1.toNatClampNeg (((Mo_count s0) x1.toNatClampNeg) + (1 : Int32))))) (((130 : Int32) * x1) + ((Mo_count s0) x1.toNatClampNeg)).toNatClampNeg x2)) (upd (Mo_tag (Mo_set_kind (Mo_set_count s0 (upd (Mo_count s0) x1.toNatClampNeg (((Mo_count s0) x1.toNatClampNeg) + (1 : Int32)))) (upd (Mo_kind (Mo_set_count s0 (upd (Mo_count s0) x1.toNatClampNeg (((Mo_count s0) x1.toNatClampNeg) + (1 : Int32))))) (((130 : Int32) * x1) + ((Mo_count s0) x1.toNatClampNeg)).toNatClampNeg x2))) (((130 : Int32) * x1) + ((Mo_count s0) x1.toNatClampNeg)).toNatClampNeg (0 : Int32))) (upd (Mo_value (Mo_set_tag (Mo_set_kind (Mo_set_count s0 (upd (Mo_count s0) x1.toNatClampNeg (((Mo_count s0) x1.toNatClampNeg) + (1 : Int32)))) (upd (Mo_kind (Mo_set_count s0 (upd (Mo_count s0) x1.toNatClampNeg (((Mo_count s0) x1.toNatClampNeg) + (1 : Int32))))) (((130 : Int32) * x1) + ((Mo_count s0) x1.toNatClampNeg)).toNatClampNeg x2)) (upd (Mo_tag (Mo_set_kind (Mo_set_count s0 (upd (Mo_count s0) x1.toNatClampNeg (((Mo_count s0) x1.toNatClampNeg) + (1 : Int32)))) (upd (Mo_kind (Mo_set_count s0 (upd (Mo_count s0) x1.toNatClampNeg (((Mo_count s0) x1.toNatClampNeg) + (1 : Int32))))) (((130 : Int32) * x1) + ((Mo_count s0) x1.toNatClampNeg)).toNatClampNeg x2))) (((130 : Int32) * x1) + ((Mo_count s0) x1.toNatClampNeg)).toNatClampNeg (0 : Int32)))) (((130 : Int32) * x1) + ((Mo_count s0) x1.toNatClampNeg)).toNatClampNeg (0 : Int32)))) (((130 : Int32) * x1) + ((Mo_count s0) x1.toNatClampNeg)).toNatClampNeg x3)) (upd (Mo_first (Mo_set_parent (Mo_set_value (Mo_set_tag (Mo_set_kind (Mo_set_count s0 (upd (Mo_count s0) x1.toNatClampNeg (((Mo_count s0) x1.toNatClampNeg) + (1 : Int32)))) (upd (Mo_kind (Mo_set_count s0 (upd (Mo_count s0) x1.toNatClampNeg (((Mo_count s0) x1.toNatClampNeg) + (1 : Int32))))) (((130 : Int32) * x1) + ((Mo_count s0) x1.toNatClampNeg)).toNatClampNeg x2)) (upd (Mo_tag (Mo_set_kind (Mo_set_count s0 (upd (Mo_count s0) x1.toNatClampNeg (((Mo_count s0) x1.toNatClampNeg) + (1 : Int32)))) (upd (Mo_kind (Mo_set_count s0 (upd (Mo_count s0) x1.toNatClampNeg (((Mo_count s0) x1.toNatClampNeg) + (1 : Int32))))) (((130 : Int32) * x1) + ((Mo_count s0) x1.toNatClampNeg)).toNatClampNeg x2))) (((130 : Int32) * x1) + ((Mo_count s0) x1.toNatClampNeg)).toNatClampNeg (0 : Int32))) (upd (Mo_value (Mo_set_tag (Mo_set_kind (Mo_set_count s0 (upd (Mo_count s0) x1.toNatClampNeg (((Mo_count s0) x1.toNatClampNeg) + (1 : Int32)))) (upd (Mo_kind (Mo_set_count s0 (upd (Mo_count s0) x1.toNatClampNeg (((Mo_count s0) x1.toNatClampNeg) + (1 : Int32))))) (((130 : Int32) * x1) + ((Mo_count s0) x1.toNatClampNeg)).toNatClampNeg x2)) (upd (Mo_tag (Mo_set_kind (Mo_set_count s0 (upd (Mo_count s0) x1.toNatClampNeg (((Mo_count s0) x1.toNatClampNeg) + (1 : Int32)))) (upd (Mo_kind (Mo_set_count s0 (upd (Mo_count s0) x1.toNatClampNeg (((Mo_count s0) x1.toNatClampNeg) + (1 : Int32))))) (((130 : Int32) * x1) + ((Mo_count s0) x1.toNatClampNeg)).toNatClampNeg x2))) (((130 : Int32) * x1) + ((Mo_count s0) x1.toNatClampNeg)).toNatClampNeg (0 : Int32)))) (((130 : Int32) * x1) + ((Mo_count s0) x1.toNatClampNeg)).toNatClampNeg (0 : Int32))) (upd (Mo_parent (Mo_set_value (Mo_set_tag (Mo_set_kind (Mo_set_count s0 (upd (Mo_count s0) x1.toNatClampNeg (((Mo_count s0) x1.toNatClampNeg) + (1 : Int32)))) (upd (Mo_kind (Mo_set_count s0 (upd (Mo_count s0) x1.toNatClampNeg (((Mo_count s0) x1.toNatClampNeg) + (1 : Int32))))) (((130 : Int32) * x1) + ((Mo_count s0) x1.toNatClampNeg)).toNatClampNeg x2)) (upd (Mo_tag (Mo_set_kind (Mo_set_count s0 (upd (Mo_count s0) x1.toNatClampNeg (((Mo_count s0) x1.toNatClampNeg) + (1 : Int32)))) (upd (Mo_kind (Mo_set_count s0 (upd (Mo_count s0) x1.toNatClampNeg (((Mo_count s0) x1.toNatClampNeg) + (1 : Int32))))) (((130 : Int32) * x1) + ((Mo_count s0) x1.toNatClampNeg)).toNatClampNeg x2))) (((130 : Int32) * x1) + ((Mo_count s0) x1.toNatClampNeg)).toNatClampNeg (0 : Int32))) (upd (Mo_value (Mo_set_tag (Mo_set_kind (Mo_set_count s0 (upd (Mo_count s0) x1.toNatClampNeg (((Mo_count s0) x1.toNatClampNeg) + (1 : Int32)))) (upd (Mo_kind (Mo_set_count s0 (upd (Mo_count s0) x1.toNatClampNeg (((Mo_count s0) x1.toNatClampNeg) + (1 : Int32))))) (((130 : Int32) * x1) + ((Mo_count s0) x1.toNatClampNeg)).toNatClampNeg x2)) (upd (Mo_tag (Mo_set_kind (Mo_set_count s0 (upd (Mo_count s0) x1.toNatClampNeg (((Mo_count s0) x1.toNatClampNeg) + (1 : Int32)))) (upd (Mo_kind (Mo_set_count s0 (upd (Mo_count s0) x1.toNatClampNeg (((Mo_count s0) x1.toNatClampNeg) + (1 : Int32))))) (((130 : Int32) * x1) + ((Mo_count s0) x1.toNatClampNeg)).toNatClampNeg x2))) (((130 : Int32) * x1) + ((Mo_count s0) x1.toNatClampNeg)).toNatClampNeg (0 : Int32)))) (((130 : Int32) * x1) + ((Mo_count s0) x1.toNatClampNeg)).toNatClampNeg (0 : Int32)))) (((130 : Int32) * x1) + ((Mo_count s0) x1.toNatClampNeg)).toNatClampNeg x3))) (((130 : Int32) * x1) + ((Mo_count s0) x1.toNatClampNeg)).toNatClampNeg ((-1) : Int32)))) (((130 : Int32) * x1) + ((Mo_count s0) x1.toNatClampNeg)).toNatClampNeg ((-1) : Int32)))) (((130 : Int32) * x1) + ((Mo_count s0) x1.toNatClampNeg)).toNatClampNeg ((-1) : Int32)))) (((130 : Int32) * x1) + ((Mo_count s0) x1.toNatClampNeg)).toNatClampNeg (0 : Int32))) (((130 : Int32) * x1) + ((Mo_count s0) x1.toNatClampNeg)))))))))))))))
def F_Mo_add (s0 : S_Mo) (x1 : Int32) (x2 : Int32) (x3 : Int32) : Option (Int32 × S_Mo) := B_Mo_add_0 s0 x1 x2 x3
set_option maxRecDepth 100000 in
set_option maxHeartbeats 4000000 in
theorem t_Mo_add_128 {p : Program} {l : Launch} {e : Env} {s : State} {m : MethodId} {args : Array Value} {below : List Frame} {meth : Method} {c : Code} {D : va_G} {A : Nat → Prop} {g : Nat → ClassId} {rest : va_W} {a0 : Nat → Nat} {ls : Array Slot} {H : Heap} {locs : List Loc} {s0 : S_Mo} {x3 : Int32} {x4 : Int32} {out : Int32 × S_Mo} (X : Cx p s m args meth c prog_11_method_6_code 5 ws_Mo_add R_Mo (some .int) D g) (hl : lv_has ls 5 [(0, .ref (a0 0)), (3, .int x3), (4, .int x4)]) (hI : Iw D A (w_Mo g a0 s0 ++ (rest)) H) (hS : va_S A s.heap H locs) (h : B_Mo_add_128  s0 x3 x4 = some out) : W p l e (headSpec ws_Mo_add { frames := 0, cells := 0, slots := 0, locals := 0 }).room s m args below meth c H locs 0 0 (MQ below (QcI D A g out.1 (fun (_ : Unit) => w_Mo g a0 out.2 ++ (rest))) args s 0 0 A) (F0 m 128 ls []) := by
  have X1 := X
  obtain ⟨hx, hb, hml, hown, hts, hr, hlocks, hKK⟩ := X1
  have ht : ∀ w ∈ TB, w.before args s = true := fun w h => hts w (List.mem_cons_of_mem _ h)
  have hK := hKK.1
  unfold B_Mo_add_128 at h
  refine lv_aload_n hx hb d_Mo_add_128 rfl (lv_at hl 0 rfl) ?_
  refine gt_Mo_last hx hb ht hown hK hI (ht _ m_830) d_Mo_add_129 ?_
  refine lv_iload_n hx hb d_Mo_add_132 rfl (lv_at hl 1 rfl) ?_
  refine lv_iload hx hb d_Mo_add_133 (lv_at hl 2 rfl) ?_
  by_cases hc1 : (x3 < 0 ∨ 260 ≤ x3.toNatClampNeg)
  · exact no_s (it_t h hc1)
  have h := it_f h hc1
  refine as_Mo_last hx hb hK hI hS hc1 d_Mo_add_135 (fun H locs hI hS => ?_)
  refine lv_aload_n hx hb d_Mo_add_136 rfl (lv_at hl 0 rfl) ?_
  refine gt_Mo_many hx hb ht hown hK hI (ht _ m_831) d_Mo_add_137 ?_
  refine lv_iload_n hx hb d_Mo_add_140 rfl (lv_at hl 1 rfl) ?_
  refine lv_dup2_11 hx hb d_Mo_add_141 rfl rfl ?_
  by_cases hc2 : (x3 < 0 ∨ 260 ≤ x3.toNatClampNeg)
  · exact no_s (it_t h hc2)
  have h := it_f h hc2
  refine al_Mo_many hx hb hK hI hc2 d_Mo_add_142 ?_
  refine lv_iconst (v := 1) hx hb d_Mo_add_143 (by decide) ?_
  refine lv_iadd hx hb d_Mo_add_144 ?_
  by_cases hc3 : (x3 < 0 ∨ 260 ≤ x3.toNatClampNeg)
  · exact no_s (it_t h hc3)
  have h := it_f h hc3
  refine as_Mo_many hx hb hK hI hS hc3 d_Mo_add_145 (fun H locs hI hS => ?_)
  refine lv_iload hx hb d_Mo_add_146 (lv_at hl 2 rfl) ?_
  have h9 := Option.some.inj h
  subst h9
  exact W.iret (v := x4) hx hb hr (fun t ht hW => ⟨⟨_, (), rfl, rfl, ⟨by rw [ht]; exact hI, hKK.moved hW⟩⟩, hS.F ht⟩) hS.2.2 d_Mo_add_148
set_option maxRecDepth 100000 in
set_option maxHeartbeats 4000000 in
theorem t_Mo_add_115 {p : Program} {l : Launch} {e : Env} {s : State} {m : MethodId} {args : Array Value} {below : List Frame} {meth : Method} {c : Code} {D : va_G} {A : Nat → Prop} {g : Nat → ClassId} {rest : va_W} {a0 : Nat → Nat} {ls : Array Slot} {H : Heap} {locs : List Loc} {s0 : S_Mo} {x3 : Int32} {x4 : Int32} {out : Int32 × S_Mo} (X : Cx p s m args meth c prog_11_method_6_code 5 ws_Mo_add R_Mo (some .int) D g) (hl : lv_has ls 5 [(0, .ref (a0 0)), (3, .int x3), (4, .int x4)]) (hI : Iw D A (w_Mo g a0 s0 ++ (rest)) H) (hS : va_S A s.heap H locs) (h : B_Mo_add_115  s0 x3 x4 = some out) : W p l e (headSpec ws_Mo_add { frames := 0, cells := 0, slots := 0, locals := 0 }).room s m args below meth c H locs 0 0 (MQ below (QcI D A g out.1 (fun (_ : Unit) => w_Mo g a0 out.2 ++ (rest))) args s 0 0 A) (F0 m 115 ls []) := by
  have X1 := X
  obtain ⟨hx, hb, hml, hown, hts, hr, hlocks, hKK⟩ := X1
  have ht : ∀ w ∈ TB, w.before args s = true := fun w h => hts w (List.mem_cons_of_mem _ h)
  have hK := hKK.1
  unfold B_Mo_add_115 at h
  refine lv_aload_n hx hb d_Mo_add_115 rfl (lv_at hl 0 rfl) ?_
  refine gt_Mo_next hx hb ht hown hK hI (ht _ m_829) d_Mo_add_116 ?_
  refine lv_aload_n hx hb d_Mo_add_119 rfl (lv_at hl 0 rfl) ?_
  refine gt_Mo_last hx hb ht hown hK hI (ht _ m_830) d_Mo_add_120 ?_
  refine lv_iload_n hx hb d_Mo_add_123 rfl (lv_at hl 1 rfl) ?_
  by_cases hc1 : (x3 < 0 ∨ 260 ≤ x3.toNatClampNeg)
  · exact no_s (it_t h hc1)
  have h := it_f h hc1
  refine al_Mo_last hx hb hK hI hc1 d_Mo_add_124 ?_
  refine lv_iload hx hb d_Mo_add_125 (lv_at hl 2 rfl) ?_
  by_cases hc2 : (((Mo_last s0) x3.toNatClampNeg) < 0 ∨ 260 ≤ ((Mo_last s0) x3.toNatClampNeg).toNatClampNeg)
  · exact no_s (it_t h hc2)
  have h := it_f h hc2
  refine as_Mo_next hx hb hK hI hS hc2 d_Mo_add_127 (fun H locs hI hS => ?_)
  exact t_Mo_add_128 X (lv_sub hl [0, 1, 2] rfl) hI hS h
set_option maxRecDepth 100000 in
set_option maxHeartbeats 4000000 in
theorem t_Mo_add_104 {p : Program} {l : Launch} {e : Env} {s : State} {m : MethodId} {args : Array Value} {below : List Frame} {meth : Method} {c : Code} {D : va_G} {A : Nat → Prop} {g : Nat → ClassId} {rest : va_W} {a0 : Nat → Nat} {ls : Array Slot} {H : Heap} {locs : List Loc} {s0 : S_Mo} {x3 : Int32} {x4 : Int32} {out : Int32 × S_Mo} (X : Cx p s m args meth c prog_11_method_6_code 5 ws_Mo_add R_Mo (some .int) D g) (hl : lv_has ls 5 [(0, .ref (a0 0)), (3, .int x3), (4, .int x4)]) (hI : Iw D A (w_Mo g a0 s0 ++ (rest)) H) (hS : va_S A s.heap H locs) (h : B_Mo_add_104  s0 x3 x4 = some out) : W p l e (headSpec ws_Mo_add { frames := 0, cells := 0, slots := 0, locals := 0 }).room s m args below meth c H locs 0 0 (MQ below (QcI D A g out.1 (fun (_ : Unit) => w_Mo g a0 out.2 ++ (rest))) args s 0 0 A) (F0 m 104 ls []) := by
  have X1 := X
  obtain ⟨hx, hb, hml, hown, hts, hr, hlocks, hKK⟩ := X1
  have ht : ∀ w ∈ TB, w.before args s = true := fun w h => hts w (List.mem_cons_of_mem _ h)
  have hK := hKK.1
  unfold B_Mo_add_104 at h
  refine lv_aload_n hx hb d_Mo_add_104 rfl (lv_at hl 0 rfl) ?_
  refine gt_Mo_first hx hb ht hown hK hI (ht _ m_828) d_Mo_add_105 ?_
  refine lv_iload_n hx hb d_Mo_add_108 rfl (lv_at hl 1 rfl) ?_
  refine lv_iload hx hb d_Mo_add_109 (lv_at hl 2 rfl) ?_
  by_cases hc1 : (x3 < 0 ∨ 260 ≤ x3.toNatClampNeg)
  · exact no_s (it_t h hc1)
  have h := it_f h hc1
  refine as_Mo_first hx hb hK hI hS hc1 d_Mo_add_111 (fun H locs hI hS => ?_)
  refine lv_goto (tgt := 128) hx hb d_Mo_add_112 (by decide) ?_
  exact t_Mo_add_128 X (lv_sub hl [0, 1, 2] rfl) hI hS h
set_option maxRecDepth 100000 in
set_option maxHeartbeats 4000000 in
theorem t_Mo_add_95 {p : Program} {l : Launch} {e : Env} {s : State} {m : MethodId} {args : Array Value} {below : List Frame} {meth : Method} {c : Code} {D : va_G} {A : Nat → Prop} {g : Nat → ClassId} {rest : va_W} {a0 : Nat → Nat} {ls : Array Slot} {H : Heap} {locs : List Loc} {s0 : S_Mo} {x3 : Int32} {x4 : Int32} {out : Int32 × S_Mo} (X : Cx p s m args meth c prog_11_method_6_code 5 ws_Mo_add R_Mo (some .int) D g) (hl : lv_has ls 5 [(0, .ref (a0 0)), (3, .int x3), (4, .int x4)]) (hI : Iw D A (w_Mo g a0 s0 ++ (rest)) H) (hS : va_S A s.heap H locs) (h : B_Mo_add_95  s0 x3 x4 = some out) : W p l e (headSpec ws_Mo_add { frames := 0, cells := 0, slots := 0, locals := 0 }).room s m args below meth c H locs 0 0 (MQ below (QcI D A g out.1 (fun (_ : Unit) => w_Mo g a0 out.2 ++ (rest))) args s 0 0 A) (F0 m 95 ls []) := by
  have X1 := X
  obtain ⟨hx, hb, hml, hown, hts, hr, hlocks, hKK⟩ := X1
  have ht : ∀ w ∈ TB, w.before args s = true := fun w h => hts w (List.mem_cons_of_mem _ h)
  have hK := hKK.1
  unfold B_Mo_add_95 at h
  refine lv_aload_n hx hb d_Mo_add_95 rfl (lv_at hl 0 rfl) ?_
  refine gt_Mo_many hx hb ht hown hK hI (ht _ m_831) d_Mo_add_96 ?_
  refine lv_iload_n hx hb d_Mo_add_99 rfl (lv_at hl 1 rfl) ?_
  by_cases hc1 : (x3 < 0 ∨ 260 ≤ x3.toNatClampNeg)
  · exact no_s (it_t h hc1)
  have h := it_f h hc1
  refine al_Mo_many hx hb hK hI hc1 d_Mo_add_100 ?_
  refine lv_if_ne (tgt := 115) hx hb d_Mo_add_101 (by decide) (fun hc => ?_) (fun hc => ?_)
  · have h := it_f h hc
    exact t_Mo_add_115 X (lv_sub hl [0, 1, 2] rfl) hI hS h
  · have h := it_t h hc
    exact t_Mo_add_104 X (lv_sub hl [0, 1, 2] rfl) hI hS h
set_option maxRecDepth 100000 in
set_option maxHeartbeats 4000000 in
theorem t_Mo_add_92 {p : Program} {l : Launch} {e : Env} {s : State} {m : MethodId} {args : Array Value} {below : List Frame} {meth : Method} {c : Code} {D : va_G} {A : Nat → Prop} {g : Nat → ClassId} {rest : va_W} {a0 : Nat → Nat} {ls : Array Slot} {H : Heap} {locs : List Loc} {s0 : S_Mo} {x4 : Int32} {out : Int32 × S_Mo} (X : Cx p s m args meth c prog_11_method_6_code 5 ws_Mo_add R_Mo (some .int) D g) (hl : lv_has ls 5 [(4, .int x4)]) (hI : Iw D A (w_Mo g a0 s0 ++ (rest)) H) (hS : va_S A s.heap H locs) (h : B_Mo_add_92  s0 x4 = some out) : W p l e (headSpec ws_Mo_add { frames := 0, cells := 0, slots := 0, locals := 0 }).room s m args below meth c H locs 0 0 (MQ below (QcI D A g out.1 (fun (_ : Unit) => w_Mo g a0 out.2 ++ (rest))) args s 0 0 A) (F0 m 92 ls []) := by
  have X1 := X
  obtain ⟨hx, hb, hml, hown, hts, hr, hlocks, hKK⟩ := X1
  have ht : ∀ w ∈ TB, w.before args s = true := fun w h => hts w (List.mem_cons_of_mem _ h)
  have hK := hKK.1
  unfold B_Mo_add_92 at h
  refine lv_iload hx hb d_Mo_add_92 (lv_at hl 0 rfl) ?_
  have h9 := Option.some.inj h
  subst h9
  exact W.iret (v := x4) hx hb hr (fun t ht hW => ⟨⟨_, (), rfl, rfl, ⟨by rw [ht]; exact hI, hKK.moved hW⟩⟩, hS.F ht⟩) hS.2.2 d_Mo_add_94
set_option maxRecDepth 100000 in
set_option maxHeartbeats 4000000 in
theorem t_Mo_add_0 {p : Program} {l : Launch} {e : Env} {s : State} {m : MethodId} {args : Array Value} {below : List Frame} {meth : Method} {c : Code} {D : va_G} {A : Nat → Prop} {g : Nat → ClassId} {rest : va_W} {a0 : Nat → Nat} {ls : Array Slot} {H : Heap} {locs : List Loc} {s0 : S_Mo} {x1 : Int32} {x2 : Int32} {x3 : Int32} {out : Int32 × S_Mo} (X : Cx p s m args meth c prog_11_method_6_code 5 ws_Mo_add R_Mo (some .int) D g) (hl : lv_has ls 5 [(0, .ref (a0 0)), (1, .int x1), (2, .int x2), (3, .int x3)]) (hI : Iw D A (w_Mo g a0 s0 ++ (rest)) H) (hS : va_S A s.heap H locs) (h : B_Mo_add_0  s0 x1 x2 x3 = some out) : W p l e (headSpec ws_Mo_add { frames := 0, cells := 0, slots := 0, locals := 0 }).room s m args below meth c H locs 0 0 (MQ below (QcI D A g out.1 (fun (_ : Unit) => w_Mo g a0 out.2 ++ (rest))) args s 0 0 A) (F0 m 0 ls []) := by
  have X1 := X
  obtain ⟨hx, hb, hml, hown, hts, hr, hlocks, hKK⟩ := X1
  have ht : ∀ w ∈ TB, w.before args s = true := fun w h => hts w (List.mem_cons_of_mem _ h)
  have hK := hKK.1
  unfold B_Mo_add_0 at h
  refine lv_sipush (v := 130) hx hb d_Mo_add_0 (by decide) ?_
  refine lv_iload_n hx hb d_Mo_add_3 rfl (lv_at hl 1 rfl) ?_
  refine lv_imul hx hb d_Mo_add_4 ?_
  refine lv_aload_n hx hb d_Mo_add_5 rfl (lv_at hl 0 rfl) ?_
  refine gt_Mo_count hx hb ht hown hK hI (ht _ m_822) d_Mo_add_6 ?_
  refine lv_iload_n hx hb d_Mo_add_9 rfl (lv_at hl 1 rfl) ?_
  by_cases hc1 : (x1 < 0 ∨ 2 ≤ x1.toNatClampNeg)
  · exact no_s (it_t h hc1)
  have h := it_f h hc1
  refine al_Mo_count hx hb hK hI hc1 d_Mo_add_10 ?_
  refine lv_iadd hx hb d_Mo_add_11 ?_
  refine lv_istore hx hb d_Mo_add_12 hl (Nat.le_of_ble_eq_true rfl) rfl (fun ls hl => ?_)
  have hl : lv_has ls 5 [(4, .int (((130 : Int32) * x1) + ((Mo_count s0) x1.toNatClampNeg))), (0, .ref (a0 0)), (1, .int x1), (2, .int x2), (3, .int x3)] := hl
  refine lv_aload_n hx hb d_Mo_add_14 rfl (lv_at hl 1 rfl) ?_
  refine gt_Mo_count hx hb ht hown hK hI (ht _ m_822) d_Mo_add_15 ?_
  refine lv_iload_n hx hb d_Mo_add_18 rfl (lv_at hl 2 rfl) ?_
  refine lv_dup2_11 hx hb d_Mo_add_19 rfl rfl ?_
  by_cases hc2 : (x1 < 0 ∨ 2 ≤ x1.toNatClampNeg)
  · exact no_s (it_t h hc2)
  have h := it_f h hc2
  refine al_Mo_count hx hb hK hI hc2 d_Mo_add_20 ?_
  refine lv_iconst (v := 1) hx hb d_Mo_add_21 (by decide) ?_
  refine lv_iadd hx hb d_Mo_add_22 ?_
  by_cases hc3 : (x1 < 0 ∨ 2 ≤ x1.toNatClampNeg)
  · exact no_s (it_t h hc3)
  have h := it_f h hc3
  refine as_Mo_count hx hb hK hI hS hc3 d_Mo_add_23 (fun H locs hI hS => ?_)
  refine lv_aload_n hx hb d_Mo_add_24 rfl (lv_at hl 1 rfl) ?_
  refine gt_Mo_kind hx hb ht hown hK hI (ht _ m_823) d_Mo_add_25 ?_
  refine lv_iload hx hb d_Mo_add_28 (lv_at hl 0 rfl) ?_
  refine lv_iload_n hx hb d_Mo_add_30 rfl (lv_at hl 3 rfl) ?_
  by_cases hc4 : ((((130 : Int32) * x1) + ((Mo_count s0) x1.toNatClampNeg)) < 0 ∨ 260 ≤ (((130 : Int32) * x1) + ((Mo_count s0) x1.toNatClampNeg)).toNatClampNeg)
  · exact no_s (it_t h hc4)
  have h := it_f h hc4
  refine as_Mo_kind hx hb hK hI hS hc4 d_Mo_add_31 (fun H locs hI hS => ?_)
  refine lv_aload_n hx hb d_Mo_add_32 rfl (lv_at hl 1 rfl) ?_
  refine gt_Mo_tag hx hb ht hown hK hI (ht _ m_824) d_Mo_add_33 ?_
  refine lv_iload hx hb d_Mo_add_36 (lv_at hl 0 rfl) ?_
  refine lv_iconst (v := 0) hx hb d_Mo_add_38 (by decide) ?_
  by_cases hc5 : ((((130 : Int32) * x1) + ((Mo_count s0) x1.toNatClampNeg)) < 0 ∨ 260 ≤ (((130 : Int32) * x1) + ((Mo_count s0) x1.toNatClampNeg)).toNatClampNeg)
  · exact no_s (it_t h hc5)
  have h := it_f h hc5
  refine as_Mo_tag hx hb hK hI hS hc5 d_Mo_add_39 (fun H locs hI hS => ?_)
  refine lv_aload_n hx hb d_Mo_add_40 rfl (lv_at hl 1 rfl) ?_
  refine gt_Mo_value hx hb ht hown hK hI (ht _ m_825) d_Mo_add_41 ?_
  refine lv_iload hx hb d_Mo_add_44 (lv_at hl 0 rfl) ?_
  refine lv_iconst (v := 0) hx hb d_Mo_add_46 (by decide) ?_
  by_cases hc6 : ((((130 : Int32) * x1) + ((Mo_count s0) x1.toNatClampNeg)) < 0 ∨ 260 ≤ (((130 : Int32) * x1) + ((Mo_count s0) x1.toNatClampNeg)).toNatClampNeg)
  · exact no_s (it_t h hc6)
  have h := it_f h hc6
  refine as_Mo_value hx hb hK hI hS hc6 d_Mo_add_47 (fun H locs hI hS => ?_)
  refine lv_aload_n hx hb d_Mo_add_48 rfl (lv_at hl 1 rfl) ?_
  refine gt_Mo_parent hx hb ht hown hK hI (ht _ m_827) d_Mo_add_49 ?_
  refine lv_iload hx hb d_Mo_add_52 (lv_at hl 0 rfl) ?_
  refine lv_iload_n hx hb d_Mo_add_54 rfl (lv_at hl 4 rfl) ?_
  by_cases hc7 : ((((130 : Int32) * x1) + ((Mo_count s0) x1.toNatClampNeg)) < 0 ∨ 260 ≤ (((130 : Int32) * x1) + ((Mo_count s0) x1.toNatClampNeg)).toNatClampNeg)
  · exact no_s (it_t h hc7)
  have h := it_f h hc7
  refine as_Mo_parent hx hb hK hI hS hc7 d_Mo_add_55 (fun H locs hI hS => ?_)
  refine lv_aload_n hx hb d_Mo_add_56 rfl (lv_at hl 1 rfl) ?_
  refine gt_Mo_first hx hb ht hown hK hI (ht _ m_828) d_Mo_add_57 ?_
  refine lv_iload hx hb d_Mo_add_60 (lv_at hl 0 rfl) ?_
  refine lv_iconst (v := (-1)) hx hb d_Mo_add_62 (by decide) ?_
  by_cases hc8 : ((((130 : Int32) * x1) + ((Mo_count s0) x1.toNatClampNeg)) < 0 ∨ 260 ≤ (((130 : Int32) * x1) + ((Mo_count s0) x1.toNatClampNeg)).toNatClampNeg)
  · exact no_s (it_t h hc8)
  have h := it_f h hc8
  refine as_Mo_first hx hb hK hI hS hc8 d_Mo_add_63 (fun H locs hI hS => ?_)
  refine lv_aload_n hx hb d_Mo_add_64 rfl (lv_at hl 1 rfl) ?_
  refine gt_Mo_next hx hb ht hown hK hI (ht _ m_829) d_Mo_add_65 ?_
  refine lv_iload hx hb d_Mo_add_68 (lv_at hl 0 rfl) ?_
  refine lv_iconst (v := (-1)) hx hb d_Mo_add_70 (by decide) ?_
  by_cases hc9 : ((((130 : Int32) * x1) + ((Mo_count s0) x1.toNatClampNeg)) < 0 ∨ 260 ≤ (((130 : Int32) * x1) + ((Mo_count s0) x1.toNatClampNeg)).toNatClampNeg)
  · exact no_s (it_t h hc9)
  have h := it_f h hc9
  refine as_Mo_next hx hb hK hI hS hc9 d_Mo_add_71 (fun H locs hI hS => ?_)
  refine lv_aload_n hx hb d_Mo_add_72 rfl (lv_at hl 1 rfl) ?_
  refine gt_Mo_last hx hb ht hown hK hI (ht _ m_830) d_Mo_add_73 ?_
  refine lv_iload hx hb d_Mo_add_76 (lv_at hl 0 rfl) ?_
  refine lv_iconst (v := (-1)) hx hb d_Mo_add_78 (by decide) ?_
  by_cases hc10 : ((((130 : Int32) * x1) + ((Mo_count s0) x1.toNatClampNeg)) < 0 ∨ 260 ≤ (((130 : Int32) * x1) + ((Mo_count s0) x1.toNatClampNeg)).toNatClampNeg)
  · exact no_s (it_t h hc10)
  have h := it_f h hc10
  refine as_Mo_last hx hb hK hI hS hc10 d_Mo_add_79 (fun H locs hI hS => ?_)
  refine lv_aload_n hx hb d_Mo_add_80 rfl (lv_at hl 1 rfl) ?_
  refine gt_Mo_many hx hb ht hown hK hI (ht _ m_831) d_Mo_add_81 ?_
  refine lv_iload hx hb d_Mo_add_84 (lv_at hl 0 rfl) ?_
  refine lv_iconst (v := 0) hx hb d_Mo_add_86 (by decide) ?_
  by_cases hc11 : ((((130 : Int32) * x1) + ((Mo_count s0) x1.toNatClampNeg)) < 0 ∨ 260 ≤ (((130 : Int32) * x1) + ((Mo_count s0) x1.toNatClampNeg)).toNatClampNeg)
  · exact no_s (it_t h hc11)
  have h := it_f h hc11
  refine as_Mo_many hx hb hK hI hS hc11 d_Mo_add_87 (fun H locs hI hS => ?_)
  refine lv_iload_n hx hb d_Mo_add_88 rfl (lv_at hl 4 rfl) ?_
  refine lv_if_ge (tgt := 95) hx hb d_Mo_add_89 (by decide) (fun hc => ?_) (fun hc => ?_)
  · have h := it_t h hc
    exact t_Mo_add_95 X (lv_sub hl [1, 4, 0] rfl) hI hS h
  · have h := it_f h hc
    exact t_Mo_add_92 X (lv_sub hl [0] rfl) hI hS h
set_option maxRecDepth 100000 in
set_option maxHeartbeats 4000000 in
theorem c_Mo_add {l : Launch} {D : va_G} {A : Nat → Prop} {g : Nat → ClassId} {rest : va_W} {a0 : Nat → Nat} {s0 : S_Mo} {x1 : Int32} {x2 : Int32} {x3 : Int32} {out : Int32 × S_Mo} (h : F_Mo_add s0 x1 x2 x3 = some out) : Met l y_Mo_add ws_Mo_add { frames := 0, cells := 0, slots := 0, locals := 0 } (PcW D A g [.ref (a0 0), .int x1, .int x2, .int x3] (w_Mo g a0 s0 ++ (rest))) (QcI D A g out.1 (fun (_ : Unit) => w_Mo g a0 out.2 ++ (rest))) 0 0 A := by
  refine Met.ofW (cc := prog_11_method_6_code) (maxL := 5) (ret := (some .int)) (by decide) rfl ?_
  intro p e s m args below meth c s₁ B hml hv
  obtain ⟨rfl, hI, hK⟩ := hv
  have hl := lv_entry [.ref (a0 0), .int x1, .int x2, .int x3] (n := 5) (Nat.le_of_ble_eq_true rfl)
  rw [lg_entry_eq]
  generalize (lg_sl [.ref (a0 0), .int x1, .int x2, .int x3] ++ List.replicate (5 - (lg_sl [.ref (a0 0), .int x1, .int x2, .int x3]).length) Slot.unset).toArray = ls at hl ⊢
  have hl : lv_has ls 5 [(0, .ref (a0 0)), (1, .int x1), (2, .int x2), (3, .int x3)] := hl
  exact t_Mo_add_0 ⟨B.exec, B.bytes, hml, findClass_of_methodNamed B.named, atoms_spec (ws := ws_Mo_add) B.pre, B.returns, B.notSynchronized, hK⟩ (lv_sub hl [0, 1, 2, 3] rfl) hI va_S.rf h
def ws_Mo_spelled : List Cond := .code y_Mo_spelled prog_11_method_13_code 7 (some .boolean) :: TB
def B_Mo_spelled_209 (s0 : S_Mo) (x1 : Int32) (x3 : Int32) (x4 : Int32) : Option (Int32 × S_Mo) :=
  (if (x1 < 0 ∨ 2 ≤ x1.toNatClampNeg) then none else (if (x1 < 0 ∨ 2 ≤ x1.toNatClampNeg) then none else some ((1 : Int32), (Mo_set_at (Mo_set_held s0 (upd (Mo_held s0) x1.toNatClampNeg (((Mo_held s0) x1.toNatClampNeg) + x4))) ((Mo_at (Mo_set_held s0 (upd (Mo_held s0) x1.toNatClampNeg (((Mo_held s0) x1.toNatClampNeg) + x4)))) + x3)))))
def B_Mo_spelled_177 (k170 : S_Mo × Int32 × Int32 × Int32 × Int32 → Option (Int32 × S_Mo)) (s0 : S_Mo) (x1 : Int32) (x3 : Int32) (x4 : Int32) (x6 : Int32) : Option (Int32 × S_Mo) :=
  (if (x1 < 0 ∨ 2 ≤ x1.toNatClampNeg) then none else (if (((Mo_at s0) + x6) < 0 ∨ 240 ≤ ((Mo_at s0) + x6).toNatClampNeg) then none else (if ((((Mo_held s0) x1.toNatClampNeg) + x6) < 0 ∨ 480 ≤ (((Mo_held s0) x1.toNatClampNeg) + x6).toNatClampNeg) then none else (k170 ((Mo_set_chars s0 (upd (Mo_chars s0) (((Mo_held s0) x1.toNatClampNeg) + x6).toNatClampNeg ((Mo_source s0) ((Mo_at s0) + x6).toNatClampNeg))), x1, x3, x4, (x6 + 1))))))
def B_Mo_spelled_170 (k170 : S_Mo × Int32 × Int32 × Int32 × Int32 → Option (Int32 × S_Mo)) (s0 : S_Mo) (x1 : Int32) (x3 : Int32) (x4 : Int32) (x6 : Int32) : Option (Int32 × S_Mo) :=
  (if x4 ≤ x6 then (B_Mo_spelled_209 s0 x1 x3 x4) else (B_Mo_spelled_177 k170 s0 x1 x3 x4 x6))
def L_Mo_spelled_170 (v : S_Mo × Int32 × Int32 × Int32 × Int32) : Option (Int32 × S_Mo) := lp (fun k170 v => B_Mo_spelled_170  k170  v.1 v.2.1 v.2.2.1 v.2.2.2.1 v.2.2.2.2) FU v
def B_Mo_spelled_147 (s0 : S_Mo) (x1 : Int32) (x2 : Int32) (x3 : Int32) (x4 : Int32) : Option (Int32 × S_Mo) :=
  (if (x2 < 0 ∨ 260 ≤ x2.toNatClampNeg) then none else (if (x1 < 0 ∨ 2 ≤ x1.toNatClampNeg) then none else (if (x2 < 0 ∨ 260 ≤ x2.toNatClampNeg) then none else (L_Mo_spelled_170 ((Mo_set_letters (Mo_set_value s0 (upd (Mo_value s0) x2.toNatClampNeg x4)) (upd (Mo_letters (Mo_set_value s0 (upd (Mo_value s0) x2.toNatClampNeg x4))) x2.toNatClampNeg ((Mo_held (Mo_set_value s0 (upd (Mo_value s0) x2.toNatClampNeg x4))) x1.toNatClampNeg))), x1, x3, x4, (0 : Int32))))))
def B_Mo_spelled_137 (s0 : S_Mo) : Option (Int32 × S_Mo) :=
  ((F_Mo_wrong s0 (5 : Int32) (Mo_at s0)).bind fun o1 => (if o1.1 = 0 ∨ o1.1 = 1 then some (o1.1, o1.2) else none))
def B_Mo_spelled_132 (s0 : S_Mo) (x1 : Int32) (x2 : Int32) (x3 : Int32) (x4 : Int32) (x5 : Int32) : Option (Int32 × S_Mo) :=
  (if x5 = 0 then (B_Mo_spelled_137 s0) else (B_Mo_spelled_147 s0 x1 x2 x3 x4))
def B_Mo_spelled_124 (k86 : S_Mo × Int32 × Int32 × Int32 × Int32 × Int32 × Int32 → Option (Int32 × S_Mo)) (s0 : S_Mo) (x1 : Int32) (x2 : Int32) (x3 : Int32) (x4 : Int32) (x6 : Int32) (y0 : Int32) : Option (Int32 × S_Mo) :=
  (k86 (s0, x1, x2, x3, x4, y0, (x6 + 1)))
def B_Mo_spelled_123 (k86 : S_Mo × Int32 × Int32 × Int32 × Int32 × Int32 × Int32 → Option (Int32 × S_Mo)) (s0 : S_Mo) (x1 : Int32) (x2 : Int32) (x3 : Int32) (x4 : Int32) (x6 : Int32) : Option (Int32 × S_Mo) :=
  (B_Mo_spelled_124 k86 s0 x1 x2 x3 x4 x6 (0 : Int32))
def B_Mo_spelled_119 (k86 : S_Mo × Int32 × Int32 × Int32 × Int32 × Int32 × Int32 → Option (Int32 × S_Mo)) (s0 : S_Mo) (x1 : Int32) (x2 : Int32) (x3 : Int32) (x4 : Int32) (x6 : Int32) : Option (Int32 × S_Mo) :=
  (B_Mo_spelled_124 k86 s0 x1 x2 x3 x4 x6 (1 : Int32))
def B_Mo_spelled_97 (k86 : S_Mo × Int32 × Int32 × Int32 × Int32 × Int32 × Int32 → Option (Int32 × S_Mo)) (s0 : S_Mo) (x1 : Int32) (x2 : Int32) (x3 : Int32) (x4 : Int32) (x6 : Int32) : Option (Int32 × S_Mo) :=
  (if (((Mo_at s0) + x6) < 0 ∨ 240 ≤ ((Mo_at s0) + x6).toNatClampNeg) then none else ((F_Mo_in ((Mo_source s0) ((Mo_at s0) + x6).toNatClampNeg) (32 : Int32) (126 : Int32)).bind fun o2 => (if o2 = 0 then (B_Mo_spelled_123 k86 s0 x1 x2 x3 x4 x6) else (B_Mo_spelled_119 k86 s0 x1 x2 x3 x4 x6))))
def B_Mo_spelled_92 (k86 : S_Mo × Int32 × Int32 × Int32 × Int32 × Int32 × Int32 → Option (Int32 × S_Mo)) (s0 : S_Mo) (x1 : Int32) (x2 : Int32) (x3 : Int32) (x4 : Int32) (x5 : Int32) (x6 : Int32) : Option (Int32 × S_Mo) :=
  (if x5 = 0 then (B_Mo_spelled_123 k86 s0 x1 x2 x3 x4 x6) else (B_Mo_spelled_97 k86 s0 x1 x2 x3 x4 x6))
def B_Mo_spelled_86 (k86 : S_Mo × Int32 × Int32 × Int32 × Int32 × Int32 × Int32 → Option (Int32 × S_Mo)) (s0 : S_Mo) (x1 : Int32) (x2 : Int32) (x3 : Int32) (x4 : Int32) (x5 : Int32) (x6 : Int32) : Option (Int32 × S_Mo) :=
  (if x3 ≤ x6 then (B_Mo_spelled_132 s0 x1 x2 x3 x4 x5) else (B_Mo_spelled_92 k86 s0 x1 x2 x3 x4 x5 x6))
def L_Mo_spelled_86 (v : S_Mo × Int32 × Int32 × Int32 × Int32 × Int32 × Int32) : Option (Int32 × S_Mo) := lp (fun k86 v => B_Mo_spelled_86  k86  v.1 v.2.1 v.2.2.1 v.2.2.2.1 v.2.2.2.2.1 v.2.2.2.2.2.1 v.2.2.2.2.2.2) FU v
def B_Mo_spelled_81 (s0 : S_Mo) (x1 : Int32) (x2 : Int32) (x3 : Int32) (x4 : Int32) (y0 : Int32) : Option (Int32 × S_Mo) :=
  (L_Mo_spelled_86 (s0, x1, x2, x3, x4, y0, (0 : Int32)))
def B_Mo_spelled_80 (s0 : S_Mo) (x1 : Int32) (x2 : Int32) (x3 : Int32) (x4 : Int32) : Option (Int32 × S_Mo) :=
  (B_Mo_spelled_81 s0 x1 x2 x3 x4 (0 : Int32))
def B_Mo_spelled_76 (s0 : S_Mo) (x1 : Int32) (x2 : Int32) (x3 : Int32) (x4 : Int32) : Option (Int32 × S_Mo) :=
  (B_Mo_spelled_81 s0 x1 x2 x3 x4 (1 : Int32))
def B_Mo_spelled_72 (s0 : S_Mo) (x1 : Int32) (x2 : Int32) (x3 : Int32) (x4 : Int32) : Option (Int32 × S_Mo) :=
  (if x3 = 0 then (B_Mo_spelled_76 s0 x1 x2 x3 x4) else (B_Mo_spelled_80 s0 x1 x2 x3 x4))
def B_Mo_spelled_67 (s0 : S_Mo) (x1 : Int32) (x2 : Int32) (x3 : Int32) (x4 : Int32) : Option (Int32 × S_Mo) :=
  (if 0 < x4 then (B_Mo_spelled_76 s0 x1 x2 x3 x4) else (B_Mo_spelled_72 s0 x1 x2 x3 x4))
def B_Mo_spelled_60 (s0 : S_Mo) (x1 : Int32) (x2 : Int32) (x3 : Int32) (x4 : Int32) (y0 : Int32) : Option (Int32 × S_Mo) :=
  (if y0 = 0 then (B_Mo_spelled_80 s0 x1 x2 x3 x4) else (B_Mo_spelled_67 s0 x1 x2 x3 x4))
def B_Mo_spelled_55 (s0 : S_Mo) (x1 : Int32) (x2 : Int32) (x3 : Int32) (x4 : Int32) : Option (Int32 × S_Mo) :=
  (B_Mo_spelled_60 s0 x1 x2 x3 x4 (1 : Int32))
def B_Mo_spelled_59 (s0 : S_Mo) (x1 : Int32) (x2 : Int32) (x3 : Int32) (x4 : Int32) : Option (Int32 × S_Mo) :=
  (B_Mo_spelled_60 s0 x1 x2 x3 x4 (0 : Int32))
def B_Mo_spelled_36 (s0 : S_Mo) (x1 : Int32) (x2 : Int32) (x3 : Int32) (x4 : Int32) : Option (Int32 × S_Mo) :=
  (if ((((Mo_at s0) + x4) - (1 : Int32)) < 0 ∨ 240 ≤ (((Mo_at s0) + x4) - (1 : Int32)).toNatClampNeg) then none else (if ((Mo_source s0) (((Mo_at s0) + x4) - (1 : Int32)).toNatClampNeg) = (32 : Int32) then (B_Mo_spelled_59 s0 x1 x2 x3 x4) else (B_Mo_spelled_55 s0 x1 x2 x3 x4)))
def B_Mo_spelled_29 (s0 : S_Mo) (x1 : Int32) (x2 : Int32) (x3 : Int32) (y0 : Int32) : Option (Int32 × S_Mo) :=
  (if y0 = 0 then (B_Mo_spelled_55 s0 x1 x2 x3 y0) else (B_Mo_spelled_36 s0 x1 x2 x3 y0))
def B_Mo_spelled_28 (s0 : S_Mo) (x1 : Int32) (x2 : Int32) (x3 : Int32) : Option (Int32 × S_Mo) :=
  (B_Mo_spelled_29 s0 x1 x2 x3 x3)
def B_Mo_spelled_22 (s0 : S_Mo) (x1 : Int32) (x2 : Int32) (x3 : Int32) : Option (Int32 × S_Mo) :=
  (B_Mo_spelled_29 s0 x1 x2 x3 (x3 - (1 : Int32)))
def B_Mo_spelled_4 (s0 : S_Mo) (x1 : Int32) (x2 : Int32) (x3 : Int32) : Option (Int32 × S_Mo) :=
  (if ((((Mo_at s0) + x3) - (1 : Int32)) < 0 ∨ 240 ≤ (((Mo_at s0) + x3) - (1 : Int32)).toNatClampNeg) then none else (if ((Mo_source s0) (((Mo_at s0) + x3) - (1 : Int32)).toNatClampNeg) = (32 : Int32) then (B_Mo_spelled_22 s0 x1 x2 x3) else (B_Mo_spelled_28 s0 x1 x2 x3)))
def B_Mo_spelled_0 (s0 : S_Mo) (x1 : Int32) (x2 : Int32) (x3 : Int32) : Option (Int32 × S_Mo) :=
  (if x3 ≤ 0 then (B_Mo_spelled_28 s0 x1 x2 x3) else (B_Mo_spelled_4 s0 x1 x2 x3))
def F_Mo_spelled (s0 : S_Mo) (x1 : Int32) (x2 : Int32) (x3 : Int32) : Option (Int32 × S_Mo) := B_Mo_spelled_0 s0 x1 x2 x3
set_option maxRecDepth 100000 in
set_option maxHeartbeats 4000000 in
theorem t_Mo_spelled_209 {p : Program} {l : Launch} {e : Env} {s : State} {m : MethodId} {args : Array Value} {below : List Frame} {meth : Method} {c : Code} {D : va_G} {A : Nat → Prop} {g : Nat → ClassId} {rest : va_W} {a0 : Nat → Nat} {ls : Array Slot} {H : Heap} {locs : List Loc} {s0 : S_Mo} {x1 : Int32} {x3 : Int32} {x4 : Int32} {out : Int32 × S_Mo} (X : Cx p s m args meth c prog_11_method_13_code 7 ws_Mo_spelled R_Mo (some .boolean) D g) (hl : lv_has ls 7 [(0, .ref (a0 0)), (1, .int x1), (3, .int x3), (4, .int x4)]) (hI : Iw D A (w_Mo g a0 s0 ++ (rest)) H) (hS : va_S A s.heap H locs) (h : B_Mo_spelled_209  s0 x1 x3 x4 = some out) : W p l e (headSpec ws_Mo_spelled { frames := 1, cells := 0, slots := 0, locals := 22 }).room s m args below meth c H locs 0 0 (MQ below (QcI D A g out.1 (fun (_ : Unit) => w_Mo g a0 out.2 ++ (rest))) args s 0 0 A) (F0 m 209 ls []) := by
  have X1 := X
  obtain ⟨hx, hb, hml, hown, hts, hr, hlocks, hKK⟩ := X1
  have ht : ∀ w ∈ TB, w.before args s = true := fun w h => hts w (List.mem_cons_of_mem _ h)
  have hK := hKK.1
  unfold B_Mo_spelled_209 at h
  refine lv_aload_n hx hb d_Mo_spelled_209 rfl (lv_at hl 0 rfl) ?_
  refine gt_Mo_held hx hb ht hown hK hI (ht _ m_835) d_Mo_spelled_210 ?_
  refine lv_iload_n hx hb d_Mo_spelled_213 rfl (lv_at hl 1 rfl) ?_
  refine lv_dup2_11 hx hb d_Mo_spelled_214 rfl rfl ?_
  by_cases hc1 : (x1 < 0 ∨ 2 ≤ x1.toNatClampNeg)
  · exact no_s (it_t h hc1)
  have h := it_f h hc1
  refine al_Mo_held hx hb hK hI hc1 d_Mo_spelled_215 ?_
  refine lv_iload hx hb d_Mo_spelled_216 (lv_at hl 3 rfl) ?_
  refine lv_iadd hx hb d_Mo_spelled_218 ?_
  by_cases hc2 : (x1 < 0 ∨ 2 ≤ x1.toNatClampNeg)
  · exact no_s (it_t h hc2)
  have h := it_f h hc2
  refine as_Mo_held hx hb hK hI hS hc2 d_Mo_spelled_219 (fun H locs hI hS => ?_)
  refine lv_aload_n hx hb d_Mo_spelled_220 rfl (lv_at hl 0 rfl) ?_
  refine lv_dup hx hb d_Mo_spelled_221 rfl ?_
  refine gt_Mo_at hx hb ht hown hK hI (ht _ m_841) d_Mo_spelled_222 ?_
  refine lv_iload_n hx hb d_Mo_spelled_225 rfl (lv_at hl 2 rfl) ?_
  refine lv_iadd hx hb d_Mo_spelled_226 ?_
  refine pt_Mo_at hx hb ht hown hK hI hS (ht _ m_841) d_Mo_spelled_227 (fun H locs hI hS => ?_)
  refine lv_iconst (v := 1) hx hb d_Mo_spelled_230 (by decide) ?_
  have h9 := Option.some.inj h
  subst h9
  exact W.zret (v := (1 : Int32)) hx hb hr rfl (fun t ht hW => ⟨⟨_, (), rfl, rfl, ⟨by rw [ht]; exact hI, hKK.moved hW⟩⟩, hS.F ht⟩) hS.2.2 d_Mo_spelled_231
set_option maxRecDepth 100000 in
set_option maxHeartbeats 4000000 in
theorem t_Mo_spelled_177 {p : Program} {l : Launch} {e : Env} {s : State} {m : MethodId} {args : Array Value} {below : List Frame} {meth : Method} {c : Code} {D : va_G} {A : Nat → Prop} {g : Nat → ClassId} {rest : va_W} {a0 : Nat → Nat} {ls : Array Slot} {H : Heap} {locs : List Loc} {k170 : S_Mo × Int32 × Int32 × Int32 × Int32 → Option (Int32 × S_Mo)} {s0 : S_Mo} {x1 : Int32} {x3 : Int32} {x4 : Int32} {x6 : Int32} {out : Int32 × S_Mo} (X : Cx p s m args meth c prog_11_method_13_code 7 ws_Mo_spelled R_Mo (some .boolean) D g) (hk170 : ∀ (v : S_Mo × Int32 × Int32 × Int32 × Int32) (ls : Array Slot) (H : Heap) (locs : List Loc), lv_has ls 7 [(0, .ref (a0 0)), (1, .int v.2.1), (3, .int v.2.2.1), (4, .int v.2.2.2.1), (6, .int v.2.2.2.2)] → Iw D A (w_Mo g a0 v.1 ++ (rest)) H → va_S A s.heap H locs → k170 v = some out → W p l e (headSpec ws_Mo_spelled { frames := 1, cells := 0, slots := 0, locals := 22 }).room s m args below meth c H locs 0 0 (MQ below (QcI D A g out.1 (fun (_ : Unit) => w_Mo g a0 out.2 ++ (rest))) args s 0 0 A) (F0 m 170 ls [])) (hl : lv_has ls 7 [(0, .ref (a0 0)), (1, .int x1), (3, .int x3), (4, .int x4), (6, .int x6)]) (hI : Iw D A (w_Mo g a0 s0 ++ (rest)) H) (hS : va_S A s.heap H locs) (h : B_Mo_spelled_177 k170 s0 x1 x3 x4 x6 = some out) : W p l e (headSpec ws_Mo_spelled { frames := 1, cells := 0, slots := 0, locals := 22 }).room s m args below meth c H locs 0 0 (MQ below (QcI D A g out.1 (fun (_ : Unit) => w_Mo g a0 out.2 ++ (rest))) args s 0 0 A) (F0 m 177 ls []) := by
  have X1 := X
  obtain ⟨hx, hb, hml, hown, hts, hr, hlocks, hKK⟩ := X1
  have ht : ∀ w ∈ TB, w.before args s = true := fun w h => hts w (List.mem_cons_of_mem _ h)
  have hK := hKK.1
  unfold B_Mo_spelled_177 at h
  refine lv_aload_n hx hb d_Mo_spelled_177 rfl (lv_at hl 0 rfl) ?_
  refine gt_Mo_chars hx hb ht hown hK hI (ht _ m_834) d_Mo_spelled_178 ?_
  refine lv_aload_n hx hb d_Mo_spelled_181 rfl (lv_at hl 0 rfl) ?_
  refine gt_Mo_held hx hb ht hown hK hI (ht _ m_835) d_Mo_spelled_182 ?_
  refine lv_iload_n hx hb d_Mo_spelled_185 rfl (lv_at hl 1 rfl) ?_
  by_cases hc1 : (x1 < 0 ∨ 2 ≤ x1.toNatClampNeg)
  · exact no_s (it_t h hc1)
  have h := it_f h hc1
  refine al_Mo_held hx hb hK hI hc1 d_Mo_spelled_186 ?_
  refine lv_iload hx hb d_Mo_spelled_187 (lv_at hl 4 rfl) ?_
  refine lv_iadd hx hb d_Mo_spelled_189 ?_
  refine lv_aload_n hx hb d_Mo_spelled_190 rfl (lv_at hl 0 rfl) ?_
  refine gt_Mo_source hx hb ht hown hK hI (ht _ m_820) d_Mo_spelled_191 ?_
  refine lv_aload_n hx hb d_Mo_spelled_194 rfl (lv_at hl 0 rfl) ?_
  refine gt_Mo_at hx hb ht hown hK hI (ht _ m_841) d_Mo_spelled_195 ?_
  refine lv_iload hx hb d_Mo_spelled_198 (lv_at hl 4 rfl) ?_
  refine lv_iadd hx hb d_Mo_spelled_200 ?_
  by_cases hc2 : (((Mo_at s0) + x6) < 0 ∨ 240 ≤ ((Mo_at s0) + x6).toNatClampNeg)
  · exact no_s (it_t h hc2)
  have h := it_f h hc2
  refine al_Mo_source hx hb hK hI hc2 d_Mo_spelled_201 ?_
  by_cases hc3 : ((((Mo_held s0) x1.toNatClampNeg) + x6) < 0 ∨ 480 ≤ (((Mo_held s0) x1.toNatClampNeg) + x6).toNatClampNeg)
  · exact no_s (it_t h hc3)
  have h := it_f h hc3
  refine as_Mo_chars hx hb hK hI hS hc3 d_Mo_spelled_202 (fun H locs hI hS => ?_)
  refine lv_iinc (k := 4) (v := (x6 + 1)) hx hb d_Mo_spelled_203 hl rfl (congrArg (fun z => x6 + z) (by decide)) (Nat.le_of_ble_eq_true rfl) rfl (fun ls hl => ?_)
  have hl : lv_has ls 7 [(6, .int (x6 + 1)), (0, .ref (a0 0)), (1, .int x1), (3, .int x3), (4, .int x4)] := hl
  refine lv_goto (tgt := 170) hx hb d_Mo_spelled_206 (by decide) ?_
  exact hk170 ((Mo_set_chars s0 (upd (Mo_chars s0) (((Mo_held s0) x1.toNatClampNeg) + x6).toNatClampNeg ((Mo_source s0) ((Mo_at s0) + x6).toNatClampNeg))), x1, x3, x4, (x6 + 1)) _ _ _ (lv_sub hl [1, 2, 3, 4, 0] rfl) hI hS h
set_option maxRecDepth 100000 in
set_option maxHeartbeats 4000000 in
theorem t_Mo_spelled_170 {p : Program} {l : Launch} {e : Env} {s : State} {m : MethodId} {args : Array Value} {below : List Frame} {meth : Method} {c : Code} {D : va_G} {A : Nat → Prop} {g : Nat → ClassId} {rest : va_W} {a0 : Nat → Nat} {ls : Array Slot} {H : Heap} {locs : List Loc} {k170 : S_Mo × Int32 × Int32 × Int32 × Int32 → Option (Int32 × S_Mo)} {s0 : S_Mo} {x1 : Int32} {x3 : Int32} {x4 : Int32} {x6 : Int32} {out : Int32 × S_Mo} (X : Cx p s m args meth c prog_11_method_13_code 7 ws_Mo_spelled R_Mo (some .boolean) D g) (hk170 : ∀ (v : S_Mo × Int32 × Int32 × Int32 × Int32) (ls : Array Slot) (H : Heap) (locs : List Loc), lv_has ls 7 [(0, .ref (a0 0)), (1, .int v.2.1), (3, .int v.2.2.1), (4, .int v.2.2.2.1), (6, .int v.2.2.2.2)] → Iw D A (w_Mo g a0 v.1 ++ (rest)) H → va_S A s.heap H locs → k170 v = some out → W p l e (headSpec ws_Mo_spelled { frames := 1, cells := 0, slots := 0, locals := 22 }).room s m args below meth c H locs 0 0 (MQ below (QcI D A g out.1 (fun (_ : Unit) => w_Mo g a0 out.2 ++ (rest))) args s 0 0 A) (F0 m 170 ls [])) (hl : lv_has ls 7 [(0, .ref (a0 0)), (1, .int x1), (3, .int x3), (4, .int x4), (6, .int x6)]) (hI : Iw D A (w_Mo g a0 s0 ++ (rest)) H) (hS : va_S A s.heap H locs) (h : B_Mo_spelled_170 k170 s0 x1 x3 x4 x6 = some out) : W p l e (headSpec ws_Mo_spelled { frames := 1, cells := 0, slots := 0, locals := 22 }).room s m args below meth c H locs 0 0 (MQ below (QcI D A g out.1 (fun (_ : Unit) => w_Mo g a0 out.2 ++ (rest))) args s 0 0 A) (F0 m 170 ls []) := by
  have X1 := X
  obtain ⟨hx, hb, hml, hown, hts, hr, hlocks, hKK⟩ := X1
  have ht : ∀ w ∈ TB, w.before args s = true := fun w h => hts w (List.mem_cons_of_mem _ h)
  have hK := hKK.1
  unfold B_Mo_spelled_170 at h
  refine lv_iload hx hb d_Mo_spelled_170 (lv_at hl 4 rfl) ?_
  refine lv_iload hx hb d_Mo_spelled_172 (lv_at hl 3 rfl) ?_
  refine lv_icmp_ge (tgt := 209) hx hb d_Mo_spelled_174 (by decide) (fun hc => ?_) (fun hc => ?_)
  · have h := it_t h hc
    exact t_Mo_spelled_209 X (lv_sub hl [0, 1, 2, 3] rfl) hI hS h
  · have h := it_f h hc
    exact t_Mo_spelled_177 X hk170 (lv_sub hl [0, 1, 2, 3, 4] rfl) hI hS h
set_option maxRecDepth 100000 in
set_option maxHeartbeats 4000000 in
theorem T_Mo_spelled_170 {p : Program} {l : Launch} {e : Env} {s : State} {m : MethodId} {args : Array Value} {below : List Frame} {meth : Method} {c : Code} {D : va_G} {A : Nat → Prop} {g : Nat → ClassId} {rest : va_W} {a0 : Nat → Nat} {ls : Array Slot} {H : Heap} {locs : List Loc} {s0 : S_Mo} {x1 : Int32} {x3 : Int32} {x4 : Int32} {x6 : Int32} {out : Int32 × S_Mo} (X : Cx p s m args meth c prog_11_method_13_code 7 ws_Mo_spelled R_Mo (some .boolean) D g) (hl : lv_has ls 7 [(0, .ref (a0 0)), (1, .int x1), (3, .int x3), (4, .int x4), (6, .int x6)]) (hI : Iw D A (w_Mo g a0 s0 ++ (rest)) H) (hS : va_S A s.heap H locs) (h : L_Mo_spelled_170   (s0, x1, x3, x4, x6) = some out) : W p l e (headSpec ws_Mo_spelled { frames := 1, cells := 0, slots := 0, locals := 22 }).room s m args below meth c H locs 0 0 (MQ below (QcI D A g out.1 (fun (_ : Unit) => w_Mo g a0 out.2 ++ (rest))) args s 0 0 A) (F0 m 170 ls []) := by
  unfold L_Mo_spelled_170 at h
  exact lp_ind (P := fun v => ∀ (ls : Array Slot) (H : Heap) (locs : List Loc), lv_has ls 7 [(0, .ref (a0 0)), (1, .int v.2.1), (3, .int v.2.2.1), (4, .int v.2.2.2.1), (6, .int v.2.2.2.2)] → Iw D A (w_Mo g a0 v.1 ++ (rest)) H → va_S A s.heap H locs → W p l e (headSpec ws_Mo_spelled { frames := 1, cells := 0, slots := 0, locals := 22 }).room s m args below meth c H locs 0 0 (MQ below (QcI D A g out.1 (fun (_ : Unit) => w_Mo g a0 out.2 ++ (rest))) args s 0 0 A) (F0 m 170 ls [])) (fun k v ih hb ls H locs  hl hI hS => t_Mo_spelled_170 X  (fun v' ls H locs  hl hI hS h' => ih v' h' ls H locs  hl hI hS) hl hI hS hb) FU _ h ls H locs  hl hI hS
set_option maxRecDepth 100000 in
set_option maxHeartbeats 4000000 in
theorem t_Mo_spelled_147 {p : Program} {l : Launch} {e : Env} {s : State} {m : MethodId} {args : Array Value} {below : List Frame} {meth : Method} {c : Code} {D : va_G} {A : Nat → Prop} {g : Nat → ClassId} {rest : va_W} {a0 : Nat → Nat} {ls : Array Slot} {H : Heap} {locs : List Loc} {s0 : S_Mo} {x1 : Int32} {x2 : Int32} {x3 : Int32} {x4 : Int32} {out : Int32 × S_Mo} (X : Cx p s m args meth c prog_11_method_13_code 7 ws_Mo_spelled R_Mo (some .boolean) D g) (hl : lv_has ls 7 [(0, .ref (a0 0)), (1, .int x1), (2, .int x2), (3, .int x3), (4, .int x4)]) (hI : Iw D A (w_Mo g a0 s0 ++ (rest)) H) (hS : va_S A s.heap H locs) (h : B_Mo_spelled_147  s0 x1 x2 x3 x4 = some out) : W p l e (headSpec ws_Mo_spelled { frames := 1, cells := 0, slots := 0, locals := 22 }).room s m args below meth c H locs 0 0 (MQ below (QcI D A g out.1 (fun (_ : Unit) => w_Mo g a0 out.2 ++ (rest))) args s 0 0 A) (F0 m 147 ls []) := by
  have X1 := X
  obtain ⟨hx, hb, hml, hown, hts, hr, hlocks, hKK⟩ := X1
  have ht : ∀ w ∈ TB, w.before args s = true := fun w h => hts w (List.mem_cons_of_mem _ h)
  have hK := hKK.1
  unfold B_Mo_spelled_147 at h
  refine lv_aload_n hx hb d_Mo_spelled_147 rfl (lv_at hl 0 rfl) ?_
  refine gt_Mo_value hx hb ht hown hK hI (ht _ m_825) d_Mo_spelled_148 ?_
  refine lv_iload_n hx hb d_Mo_spelled_151 rfl (lv_at hl 2 rfl) ?_
  refine lv_iload hx hb d_Mo_spelled_152 (lv_at hl 4 rfl) ?_
  by_cases hc1 : (x2 < 0 ∨ 260 ≤ x2.toNatClampNeg)
  · exact no_s (it_t h hc1)
  have h := it_f h hc1
  refine as_Mo_value hx hb hK hI hS hc1 d_Mo_spelled_154 (fun H locs hI hS => ?_)
  refine lv_aload_n hx hb d_Mo_spelled_155 rfl (lv_at hl 0 rfl) ?_
  refine gt_Mo_letters hx hb ht hown hK hI (ht _ m_826) d_Mo_spelled_156 ?_
  refine lv_iload_n hx hb d_Mo_spelled_159 rfl (lv_at hl 2 rfl) ?_
  refine lv_aload_n hx hb d_Mo_spelled_160 rfl (lv_at hl 0 rfl) ?_
  refine gt_Mo_held hx hb ht hown hK hI (ht _ m_835) d_Mo_spelled_161 ?_
  refine lv_iload_n hx hb d_Mo_spelled_164 rfl (lv_at hl 1 rfl) ?_
  by_cases hc2 : (x1 < 0 ∨ 2 ≤ x1.toNatClampNeg)
  · exact no_s (it_t h hc2)
  have h := it_f h hc2
  refine al_Mo_held hx hb hK hI hc2 d_Mo_spelled_165 ?_
  by_cases hc3 : (x2 < 0 ∨ 260 ≤ x2.toNatClampNeg)
  · exact no_s (it_t h hc3)
  have h := it_f h hc3
  refine as_Mo_letters hx hb hK hI hS hc3 d_Mo_spelled_166 (fun H locs hI hS => ?_)
  refine lv_iconst (v := 0) hx hb d_Mo_spelled_167 (by decide) ?_
  refine lv_istore hx hb d_Mo_spelled_168 hl (Nat.le_of_ble_eq_true rfl) rfl (fun ls hl => ?_)
  have hl : lv_has ls 7 [(6, .int (0 : Int32)), (0, .ref (a0 0)), (1, .int x1), (2, .int x2), (3, .int x3), (4, .int x4)] := hl
  exact T_Mo_spelled_170 X (lv_sub hl [1, 2, 4, 5, 0] rfl) hI hS h
set_option maxRecDepth 100000 in
set_option maxHeartbeats 4000000 in
theorem t_Mo_spelled_137 {p : Program} {l : Launch} {e : Env} {s : State} {m : MethodId} {args : Array Value} {below : List Frame} {meth : Method} {c : Code} {D : va_G} {A : Nat → Prop} {g : Nat → ClassId} {rest : va_W} {a0 : Nat → Nat} {ls : Array Slot} {H : Heap} {locs : List Loc} {s0 : S_Mo} {out : Int32 × S_Mo} (X : Cx p s m args meth c prog_11_method_13_code 7 ws_Mo_spelled R_Mo (some .boolean) D g) (hl : lv_has ls 7 [(0, .ref (a0 0))]) (hI : Iw D A (w_Mo g a0 s0 ++ (rest)) H) (hS : va_S A s.heap H locs) (h : B_Mo_spelled_137  s0 = some out) : W p l e (headSpec ws_Mo_spelled { frames := 1, cells := 0, slots := 0, locals := 22 }).room s m args below meth c H locs 0 0 (MQ below (QcI D A g out.1 (fun (_ : Unit) => w_Mo g a0 out.2 ++ (rest))) args s 0 0 A) (F0 m 137 ls []) := by
  have X1 := X
  obtain ⟨hx, hb, hml, hown, hts, hr, hlocks, hKK⟩ := X1
  have ht : ∀ w ∈ TB, w.before args s = true := fun w h => hts w (List.mem_cons_of_mem _ h)
  have hK := hKK.1
  unfold B_Mo_spelled_137 at h
  refine lv_aload_n hx hb d_Mo_spelled_137 rfl (lv_at hl 0 rfl) ?_
  refine lv_iconst (v := 5) hx hb d_Mo_spelled_138 (by decide) ?_
  refine lv_aload_n hx hb d_Mo_spelled_139 rfl (lv_at hl 0 rfl) ?_
  refine gt_Mo_at hx hb ht hown hK hI (ht _ m_841) d_Mo_spelled_140 ?_
  obtain ⟨o1, ho2, h⟩ := bd_s h
  refine cl_i (W1 := fun (_ : Unit) => w_Mo g a0 o1.2 ++ (rest)) (va_runV (As := [.int (5 : Int32), .int (Mo_at s0)]) (rest := []) ⟨hx, hb, hml, hown, ht⟩ (c_Mo_wrong (l := l) (D := D) (A := A) (g := g) (rest := rest) (a0 := a0) ho2) (cwV 2 ht (gd_V m_1007 m_1009 mp_42 m_11 m_1010) rfl rfl rfl (by decide +kernel) ⟨(Nat.le_of_ble_eq_true rfl), (Nat.le_of_ble_eq_true rfl)⟩) (prV (ci := 9) (q0 := 0) hKK hI (List.Perm.refl _) rfl rfl rfl) rfl rfl hl.1 rfl (lv_room (Nat.le_of_ble_eq_true rfl)) d_Mo_spelled_143 ⟨(Nat.le_of_ble_eq_true rfl), (Nat.le_of_ble_eq_true rfl)⟩) hS (fun _ => ((List.Perm.refl _)).symm) (fun _ H locs hI hS => ?_)
  have hI : Iw D A (w_Mo g a0 o1.2 ++ (rest)) H := hI
  have hc3 : o1.1 = 0 ∨ o1.1 = 1 := by
    by_cases z : o1.1 = 0 ∨ o1.1 = 1
    · exact z
    · exact no_s (it_f h z)
  have h := it_t h hc3
  have h9 := Option.some.inj h
  subst h9
  exact W.zret (v := o1.1) hx hb hr (by rcases hc3 with z | z <;> rw [z] <;> rfl) (fun t ht hW => ⟨⟨_, (), rfl, rfl, ⟨by rw [ht]; exact hI, hKK.moved hW⟩⟩, hS.F ht⟩) hS.2.2 d_Mo_spelled_146
set_option maxRecDepth 100000 in
set_option maxHeartbeats 4000000 in
theorem t_Mo_spelled_132 {p : Program} {l : Launch} {e : Env} {s : State} {m : MethodId} {args : Array Value} {below : List Frame} {meth : Method} {c : Code} {D : va_G} {A : Nat → Prop} {g : Nat → ClassId} {rest : va_W} {a0 : Nat → Nat} {ls : Array Slot} {H : Heap} {locs : List Loc} {s0 : S_Mo} {x1 : Int32} {x2 : Int32} {x3 : Int32} {x4 : Int32} {x5 : Int32} {out : Int32 × S_Mo} (X : Cx p s m args meth c prog_11_method_13_code 7 ws_Mo_spelled R_Mo (some .boolean) D g) (hl : lv_has ls 7 [(0, .ref (a0 0)), (1, .int x1), (2, .int x2), (3, .int x3), (4, .int x4), (5, .int x5)]) (hI : Iw D A (w_Mo g a0 s0 ++ (rest)) H) (hS : va_S A s.heap H locs) (h : B_Mo_spelled_132  s0 x1 x2 x3 x4 x5 = some out) : W p l e (headSpec ws_Mo_spelled { frames := 1, cells := 0, slots := 0, locals := 22 }).room s m args below meth c H locs 0 0 (MQ below (QcI D A g out.1 (fun (_ : Unit) => w_Mo g a0 out.2 ++ (rest))) args s 0 0 A) (F0 m 132 ls []) := by
  have X1 := X
  obtain ⟨hx, hb, hml, hown, hts, hr, hlocks, hKK⟩ := X1
  have ht : ∀ w ∈ TB, w.before args s = true := fun w h => hts w (List.mem_cons_of_mem _ h)
  have hK := hKK.1
  unfold B_Mo_spelled_132 at h
  refine lv_iload hx hb d_Mo_spelled_132 (lv_at hl 5 rfl) ?_
  refine lv_if_ne (tgt := 147) hx hb d_Mo_spelled_134 (by decide) (fun hc => ?_) (fun hc => ?_)
  · have h := it_f h hc
    exact t_Mo_spelled_147 X (lv_sub hl [0, 1, 2, 3, 4] rfl) hI hS h
  · have h := it_t h hc
    exact t_Mo_spelled_137 X (lv_sub hl [0] rfl) hI hS h
set_option maxRecDepth 100000 in
set_option maxHeartbeats 4000000 in
theorem t_Mo_spelled_124 {p : Program} {l : Launch} {e : Env} {s : State} {m : MethodId} {args : Array Value} {below : List Frame} {meth : Method} {c : Code} {D : va_G} {A : Nat → Prop} {g : Nat → ClassId} {rest : va_W} {a0 : Nat → Nat} {ls : Array Slot} {H : Heap} {locs : List Loc} {k86 : S_Mo × Int32 × Int32 × Int32 × Int32 × Int32 × Int32 → Option (Int32 × S_Mo)} {s0 : S_Mo} {x1 : Int32} {x2 : Int32} {x3 : Int32} {x4 : Int32} {x6 : Int32} {y0 : Int32} {out : Int32 × S_Mo} (X : Cx p s m args meth c prog_11_method_13_code 7 ws_Mo_spelled R_Mo (some .boolean) D g) (hk86 : ∀ (v : S_Mo × Int32 × Int32 × Int32 × Int32 × Int32 × Int32) (ls : Array Slot) (H : Heap) (locs : List Loc), lv_has ls 7 [(0, .ref (a0 0)), (1, .int v.2.1), (2, .int v.2.2.1), (3, .int v.2.2.2.1), (4, .int v.2.2.2.2.1), (5, .int v.2.2.2.2.2.1), (6, .int v.2.2.2.2.2.2)] → Iw D A (w_Mo g a0 v.1 ++ (rest)) H → va_S A s.heap H locs → k86 v = some out → W p l e (headSpec ws_Mo_spelled { frames := 1, cells := 0, slots := 0, locals := 22 }).room s m args below meth c H locs 0 0 (MQ below (QcI D A g out.1 (fun (_ : Unit) => w_Mo g a0 out.2 ++ (rest))) args s 0 0 A) (F0 m 86 ls [])) (hl : lv_has ls 7 [(0, .ref (a0 0)), (1, .int x1), (2, .int x2), (3, .int x3), (4, .int x4), (6, .int x6)]) (hI : Iw D A (w_Mo g a0 s0 ++ (rest)) H) (hS : va_S A s.heap H locs) (h : B_Mo_spelled_124 k86 s0 x1 x2 x3 x4 x6 y0 = some out) : W p l e (headSpec ws_Mo_spelled { frames := 1, cells := 0, slots := 0, locals := 22 }).room s m args below meth c H locs 0 0 (MQ below (QcI D A g out.1 (fun (_ : Unit) => w_Mo g a0 out.2 ++ (rest))) args s 0 0 A) (F0 m 124 ls [.int y0]) := by
  have X1 := X
  obtain ⟨hx, hb, hml, hown, hts, hr, hlocks, hKK⟩ := X1
  have ht : ∀ w ∈ TB, w.before args s = true := fun w h => hts w (List.mem_cons_of_mem _ h)
  have hK := hKK.1
  unfold B_Mo_spelled_124 at h
  refine lv_istore hx hb d_Mo_spelled_124 hl (Nat.le_of_ble_eq_true rfl) rfl (fun ls hl => ?_)
  have hl : lv_has ls 7 [(5, .int y0), (0, .ref (a0 0)), (1, .int x1), (2, .int x2), (3, .int x3), (4, .int x4), (6, .int x6)] := hl
  refine lv_iinc (k := 6) (v := (x6 + 1)) hx hb d_Mo_spelled_126 hl rfl (congrArg (fun z => x6 + z) (by decide)) (Nat.le_of_ble_eq_true rfl) rfl (fun ls hl => ?_)
  have hl : lv_has ls 7 [(6, .int (x6 + 1)), (5, .int y0), (0, .ref (a0 0)), (1, .int x1), (2, .int x2), (3, .int x3), (4, .int x4)] := hl
  refine lv_goto (tgt := 86) hx hb d_Mo_spelled_129 (by decide) ?_
  exact hk86 (s0, x1, x2, x3, x4, y0, (x6 + 1)) _ _ _ (lv_sub hl [2, 3, 4, 5, 6, 1, 0] rfl) hI hS h
set_option maxRecDepth 100000 in
set_option maxHeartbeats 4000000 in
theorem t_Mo_spelled_123 {p : Program} {l : Launch} {e : Env} {s : State} {m : MethodId} {args : Array Value} {below : List Frame} {meth : Method} {c : Code} {D : va_G} {A : Nat → Prop} {g : Nat → ClassId} {rest : va_W} {a0 : Nat → Nat} {ls : Array Slot} {H : Heap} {locs : List Loc} {k86 : S_Mo × Int32 × Int32 × Int32 × Int32 × Int32 × Int32 → Option (Int32 × S_Mo)} {s0 : S_Mo} {x1 : Int32} {x2 : Int32} {x3 : Int32} {x4 : Int32} {x6 : Int32} {out : Int32 × S_Mo} (X : Cx p s m args meth c prog_11_method_13_code 7 ws_Mo_spelled R_Mo (some .boolean) D g) (hk86 : ∀ (v : S_Mo × Int32 × Int32 × Int32 × Int32 × Int32 × Int32) (ls : Array Slot) (H : Heap) (locs : List Loc), lv_has ls 7 [(0, .ref (a0 0)), (1, .int v.2.1), (2, .int v.2.2.1), (3, .int v.2.2.2.1), (4, .int v.2.2.2.2.1), (5, .int v.2.2.2.2.2.1), (6, .int v.2.2.2.2.2.2)] → Iw D A (w_Mo g a0 v.1 ++ (rest)) H → va_S A s.heap H locs → k86 v = some out → W p l e (headSpec ws_Mo_spelled { frames := 1, cells := 0, slots := 0, locals := 22 }).room s m args below meth c H locs 0 0 (MQ below (QcI D A g out.1 (fun (_ : Unit) => w_Mo g a0 out.2 ++ (rest))) args s 0 0 A) (F0 m 86 ls [])) (hl : lv_has ls 7 [(0, .ref (a0 0)), (1, .int x1), (2, .int x2), (3, .int x3), (4, .int x4), (6, .int x6)]) (hI : Iw D A (w_Mo g a0 s0 ++ (rest)) H) (hS : va_S A s.heap H locs) (h : B_Mo_spelled_123 k86 s0 x1 x2 x3 x4 x6 = some out) : W p l e (headSpec ws_Mo_spelled { frames := 1, cells := 0, slots := 0, locals := 22 }).room s m args below meth c H locs 0 0 (MQ below (QcI D A g out.1 (fun (_ : Unit) => w_Mo g a0 out.2 ++ (rest))) args s 0 0 A) (F0 m 123 ls []) := by
  have X1 := X
  obtain ⟨hx, hb, hml, hown, hts, hr, hlocks, hKK⟩ := X1
  have ht : ∀ w ∈ TB, w.before args s = true := fun w h => hts w (List.mem_cons_of_mem _ h)
  have hK := hKK.1
  unfold B_Mo_spelled_123 at h
  refine lv_iconst (v := 0) hx hb d_Mo_spelled_123 (by decide) ?_
  exact t_Mo_spelled_124 X hk86 (lv_sub hl [0, 1, 2, 3, 4, 5] rfl) hI hS h
set_option maxRecDepth 100000 in
set_option maxHeartbeats 4000000 in
theorem t_Mo_spelled_119 {p : Program} {l : Launch} {e : Env} {s : State} {m : MethodId} {args : Array Value} {below : List Frame} {meth : Method} {c : Code} {D : va_G} {A : Nat → Prop} {g : Nat → ClassId} {rest : va_W} {a0 : Nat → Nat} {ls : Array Slot} {H : Heap} {locs : List Loc} {k86 : S_Mo × Int32 × Int32 × Int32 × Int32 × Int32 × Int32 → Option (Int32 × S_Mo)} {s0 : S_Mo} {x1 : Int32} {x2 : Int32} {x3 : Int32} {x4 : Int32} {x6 : Int32} {out : Int32 × S_Mo} (X : Cx p s m args meth c prog_11_method_13_code 7 ws_Mo_spelled R_Mo (some .boolean) D g) (hk86 : ∀ (v : S_Mo × Int32 × Int32 × Int32 × Int32 × Int32 × Int32) (ls : Array Slot) (H : Heap) (locs : List Loc), lv_has ls 7 [(0, .ref (a0 0)), (1, .int v.2.1), (2, .int v.2.2.1), (3, .int v.2.2.2.1), (4, .int v.2.2.2.2.1), (5, .int v.2.2.2.2.2.1), (6, .int v.2.2.2.2.2.2)] → Iw D A (w_Mo g a0 v.1 ++ (rest)) H → va_S A s.heap H locs → k86 v = some out → W p l e (headSpec ws_Mo_spelled { frames := 1, cells := 0, slots := 0, locals := 22 }).room s m args below meth c H locs 0 0 (MQ below (QcI D A g out.1 (fun (_ : Unit) => w_Mo g a0 out.2 ++ (rest))) args s 0 0 A) (F0 m 86 ls [])) (hl : lv_has ls 7 [(0, .ref (a0 0)), (1, .int x1), (2, .int x2), (3, .int x3), (4, .int x4), (6, .int x6)]) (hI : Iw D A (w_Mo g a0 s0 ++ (rest)) H) (hS : va_S A s.heap H locs) (h : B_Mo_spelled_119 k86 s0 x1 x2 x3 x4 x6 = some out) : W p l e (headSpec ws_Mo_spelled { frames := 1, cells := 0, slots := 0, locals := 22 }).room s m args below meth c H locs 0 0 (MQ below (QcI D A g out.1 (fun (_ : Unit) => w_Mo g a0 out.2 ++ (rest))) args s 0 0 A) (F0 m 119 ls []) := by
  have X1 := X
  obtain ⟨hx, hb, hml, hown, hts, hr, hlocks, hKK⟩ := X1
  have ht : ∀ w ∈ TB, w.before args s = true := fun w h => hts w (List.mem_cons_of_mem _ h)
  have hK := hKK.1
  unfold B_Mo_spelled_119 at h
  refine lv_iconst (v := 1) hx hb d_Mo_spelled_119 (by decide) ?_
  refine lv_goto (tgt := 124) hx hb d_Mo_spelled_120 (by decide) ?_
  exact t_Mo_spelled_124 X hk86 (lv_sub hl [0, 1, 2, 3, 4, 5] rfl) hI hS h
set_option maxRecDepth 100000 in
set_option maxHeartbeats 4000000 in
theorem t_Mo_spelled_97 {p : Program} {l : Launch} {e : Env} {s : State} {m : MethodId} {args : Array Value} {below : List Frame} {meth : Method} {c : Code} {D : va_G} {A : Nat → Prop} {g : Nat → ClassId} {rest : va_W} {a0 : Nat → Nat} {ls : Array Slot} {H : Heap} {locs : List Loc} {k86 : S_Mo × Int32 × Int32 × Int32 × Int32 × Int32 × Int32 → Option (Int32 × S_Mo)} {s0 : S_Mo} {x1 : Int32} {x2 : Int32} {x3 : Int32} {x4 : Int32} {x6 : Int32} {out : Int32 × S_Mo} (X : Cx p s m args meth c prog_11_method_13_code 7 ws_Mo_spelled R_Mo (some .boolean) D g) (hk86 : ∀ (v : S_Mo × Int32 × Int32 × Int32 × Int32 × Int32 × Int32) (ls : Array Slot) (H : Heap) (locs : List Loc), lv_has ls 7 [(0, .ref (a0 0)), (1, .int v.2.1), (2, .int v.2.2.1), (3, .int v.2.2.2.1), (4, .int v.2.2.2.2.1), (5, .int v.2.2.2.2.2.1), (6, .int v.2.2.2.2.2.2)] → Iw D A (w_Mo g a0 v.1 ++ (rest)) H → va_S A s.heap H locs → k86 v = some out → W p l e (headSpec ws_Mo_spelled { frames := 1, cells := 0, slots := 0, locals := 22 }).room s m args below meth c H locs 0 0 (MQ below (QcI D A g out.1 (fun (_ : Unit) => w_Mo g a0 out.2 ++ (rest))) args s 0 0 A) (F0 m 86 ls [])) (hl : lv_has ls 7 [(0, .ref (a0 0)), (1, .int x1), (2, .int x2), (3, .int x3), (4, .int x4), (6, .int x6)]) (hI : Iw D A (w_Mo g a0 s0 ++ (rest)) H) (hS : va_S A s.heap H locs) (h : B_Mo_spelled_97 k86 s0 x1 x2 x3 x4 x6 = some out) : W p l e (headSpec ws_Mo_spelled { frames := 1, cells := 0, slots := 0, locals := 22 }).room s m args below meth c H locs 0 0 (MQ below (QcI D A g out.1 (fun (_ : Unit) => w_Mo g a0 out.2 ++ (rest))) args s 0 0 A) (F0 m 97 ls []) := by
  have X1 := X
  obtain ⟨hx, hb, hml, hown, hts, hr, hlocks, hKK⟩ := X1
  have ht : ∀ w ∈ TB, w.before args s = true := fun w h => hts w (List.mem_cons_of_mem _ h)
  have hK := hKK.1
  unfold B_Mo_spelled_97 at h
  refine lv_aload_n hx hb d_Mo_spelled_97 rfl (lv_at hl 0 rfl) ?_
  refine gt_Mo_source hx hb ht hown hK hI (ht _ m_820) d_Mo_spelled_98 ?_
  refine lv_aload_n hx hb d_Mo_spelled_101 rfl (lv_at hl 0 rfl) ?_
  refine gt_Mo_at hx hb ht hown hK hI (ht _ m_841) d_Mo_spelled_102 ?_
  refine lv_iload hx hb d_Mo_spelled_105 (lv_at hl 5 rfl) ?_
  refine lv_iadd hx hb d_Mo_spelled_107 ?_
  by_cases hc1 : (((Mo_at s0) + x6) < 0 ∨ 240 ≤ ((Mo_at s0) + x6).toNatClampNeg)
  · exact no_s (it_t h hc1)
  have h := it_f h hc1
  refine al_Mo_source hx hb hK hI hc1 d_Mo_spelled_108 ?_
  refine lv_bipush (v := 32) hx hb d_Mo_spelled_109 (by decide) ?_
  refine lv_bipush (v := 126) hx hb d_Mo_spelled_111 (by decide) ?_
  obtain ⟨o2, ho3, h⟩ := bd_s h
  refine cl_i (W1 := fun (_ : Unit) => w_Mo g a0 s0 ++ (rest)) (va_runS (As := [.int ((Mo_source s0) ((Mo_at s0) + x6).toNatClampNeg), .int (32 : Int32), .int (126 : Int32)]) (rest := []) ⟨hx, hb, hml, hown, ht⟩ (c_Mo_in (l := l) (D := D) (A := A) (g := g) (rest := w_Mo g a0 s0 ++ (rest))  ho3) (va_cwS 3 ht (gd_S m_975 m_976 m_11 m_977) rfl rfl rfl (by decide +kernel) ⟨(Nat.le_of_ble_eq_true rfl), (Nat.le_of_ble_eq_true rfl)⟩) (prS hKK hI (List.Perm.refl _)) rfl rfl hl.1 rfl (lv_room (Nat.le_of_ble_eq_true rfl)) d_Mo_spelled_113 ⟨(Nat.le_of_ble_eq_true rfl), (Nat.le_of_ble_eq_true rfl)⟩) hS (fun _ => ((List.Perm.refl _)).symm) (fun _ H locs hI hS => ?_)
  have hI : Iw D A (w_Mo g a0 s0 ++ (rest)) H := hI
  refine lv_if_eq (tgt := 123) hx hb d_Mo_spelled_116 (by decide) (fun hc => ?_) (fun hc => ?_)
  · have h := it_t h hc
    exact t_Mo_spelled_123 X hk86 (lv_sub hl [0, 1, 2, 3, 4, 5] rfl) hI hS h
  · have h := it_f h hc
    exact t_Mo_spelled_119 X hk86 (lv_sub hl [0, 1, 2, 3, 4, 5] rfl) hI hS h
set_option maxRecDepth 100000 in
set_option maxHeartbeats 4000000 in
theorem t_Mo_spelled_92 {p : Program} {l : Launch} {e : Env} {s : State} {m : MethodId} {args : Array Value} {below : List Frame} {meth : Method} {c : Code} {D : va_G} {A : Nat → Prop} {g : Nat → ClassId} {rest : va_W} {a0 : Nat → Nat} {ls : Array Slot} {H : Heap} {locs : List Loc} {k86 : S_Mo × Int32 × Int32 × Int32 × Int32 × Int32 × Int32 → Option (Int32 × S_Mo)} {s0 : S_Mo} {x1 : Int32} {x2 : Int32} {x3 : Int32} {x4 : Int32} {x5 : Int32} {x6 : Int32} {out : Int32 × S_Mo} (X : Cx p s m args meth c prog_11_method_13_code 7 ws_Mo_spelled R_Mo (some .boolean) D g) (hk86 : ∀ (v : S_Mo × Int32 × Int32 × Int32 × Int32 × Int32 × Int32) (ls : Array Slot) (H : Heap) (locs : List Loc), lv_has ls 7 [(0, .ref (a0 0)), (1, .int v.2.1), (2, .int v.2.2.1), (3, .int v.2.2.2.1), (4, .int v.2.2.2.2.1), (5, .int v.2.2.2.2.2.1), (6, .int v.2.2.2.2.2.2)] → Iw D A (w_Mo g a0 v.1 ++ (rest)) H → va_S A s.heap H locs → k86 v = some out → W p l e (headSpec ws_Mo_spelled { frames := 1, cells := 0, slots := 0, locals := 22 }).room s m args below meth c H locs 0 0 (MQ below (QcI D A g out.1 (fun (_ : Unit) => w_Mo g a0 out.2 ++ (rest))) args s 0 0 A) (F0 m 86 ls [])) (hl : lv_has ls 7 [(0, .ref (a0 0)), (1, .int x1), (2, .int x2), (3, .int x3), (4, .int x4), (5, .int x5), (6, .int x6)]) (hI : Iw D A (w_Mo g a0 s0 ++ (rest)) H) (hS : va_S A s.heap H locs) (h : B_Mo_spelled_92 k86 s0 x1 x2 x3 x4 x5 x6 = some out) : W p l e (headSpec ws_Mo_spelled { frames := 1, cells := 0, slots := 0, locals := 22 }).room s m args below meth c H locs 0 0 (MQ below (QcI D A g out.1 (fun (_ : Unit) => w_Mo g a0 out.2 ++ (rest))) args s 0 0 A) (F0 m 92 ls []) := by
  have X1 := X
  obtain ⟨hx, hb, hml, hown, hts, hr, hlocks, hKK⟩ := X1
  have ht : ∀ w ∈ TB, w.before args s = true := fun w h => hts w (List.mem_cons_of_mem _ h)
  have hK := hKK.1
  unfold B_Mo_spelled_92 at h
  refine lv_iload hx hb d_Mo_spelled_92 (lv_at hl 5 rfl) ?_
  refine lv_if_eq (tgt := 123) hx hb d_Mo_spelled_94 (by decide) (fun hc => ?_) (fun hc => ?_)
  · have h := it_t h hc
    exact t_Mo_spelled_123 X hk86 (lv_sub hl [0, 1, 2, 3, 4, 6] rfl) hI hS h
  · have h := it_f h hc
    exact t_Mo_spelled_97 X hk86 (lv_sub hl [0, 1, 2, 3, 4, 6] rfl) hI hS h
set_option maxRecDepth 100000 in
set_option maxHeartbeats 4000000 in
theorem t_Mo_spelled_86 {p : Program} {l : Launch} {e : Env} {s : State} {m : MethodId} {args : Array Value} {below : List Frame} {meth : Method} {c : Code} {D : va_G} {A : Nat → Prop} {g : Nat → ClassId} {rest : va_W} {a0 : Nat → Nat} {ls : Array Slot} {H : Heap} {locs : List Loc} {k86 : S_Mo × Int32 × Int32 × Int32 × Int32 × Int32 × Int32 → Option (Int32 × S_Mo)} {s0 : S_Mo} {x1 : Int32} {x2 : Int32} {x3 : Int32} {x4 : Int32} {x5 : Int32} {x6 : Int32} {out : Int32 × S_Mo} (X : Cx p s m args meth c prog_11_method_13_code 7 ws_Mo_spelled R_Mo (some .boolean) D g) (hk86 : ∀ (v : S_Mo × Int32 × Int32 × Int32 × Int32 × Int32 × Int32) (ls : Array Slot) (H : Heap) (locs : List Loc), lv_has ls 7 [(0, .ref (a0 0)), (1, .int v.2.1), (2, .int v.2.2.1), (3, .int v.2.2.2.1), (4, .int v.2.2.2.2.1), (5, .int v.2.2.2.2.2.1), (6, .int v.2.2.2.2.2.2)] → Iw D A (w_Mo g a0 v.1 ++ (rest)) H → va_S A s.heap H locs → k86 v = some out → W p l e (headSpec ws_Mo_spelled { frames := 1, cells := 0, slots := 0, locals := 22 }).room s m args below meth c H locs 0 0 (MQ below (QcI D A g out.1 (fun (_ : Unit) => w_Mo g a0 out.2 ++ (rest))) args s 0 0 A) (F0 m 86 ls [])) (hl : lv_has ls 7 [(0, .ref (a0 0)), (1, .int x1), (2, .int x2), (3, .int x3), (4, .int x4), (5, .int x5), (6, .int x6)]) (hI : Iw D A (w_Mo g a0 s0 ++ (rest)) H) (hS : va_S A s.heap H locs) (h : B_Mo_spelled_86 k86 s0 x1 x2 x3 x4 x5 x6 = some out) : W p l e (headSpec ws_Mo_spelled { frames := 1, cells := 0, slots := 0, locals := 22 }).room s m args below meth c H locs 0 0 (MQ below (QcI D A g out.1 (fun (_ : Unit) => w_Mo g a0 out.2 ++ (rest))) args s 0 0 A) (F0 m 86 ls []) := by
  have X1 := X
  obtain ⟨hx, hb, hml, hown, hts, hr, hlocks, hKK⟩ := X1
  have ht : ∀ w ∈ TB, w.before args s = true := fun w h => hts w (List.mem_cons_of_mem _ h)
  have hK := hKK.1
  unfold B_Mo_spelled_86 at h
  refine lv_iload hx hb d_Mo_spelled_86 (lv_at hl 6 rfl) ?_
  refine lv_iload_n hx hb d_Mo_spelled_88 rfl (lv_at hl 3 rfl) ?_
  refine lv_icmp_ge (tgt := 132) hx hb d_Mo_spelled_89 (by decide) (fun hc => ?_) (fun hc => ?_)
  · have h := it_t h hc
    exact t_Mo_spelled_132 X (lv_sub hl [0, 1, 2, 3, 4, 5] rfl) hI hS h
  · have h := it_f h hc
    exact t_Mo_spelled_92 X hk86 (lv_sub hl [0, 1, 2, 3, 4, 5, 6] rfl) hI hS h
set_option maxRecDepth 100000 in
set_option maxHeartbeats 4000000 in
theorem T_Mo_spelled_86 {p : Program} {l : Launch} {e : Env} {s : State} {m : MethodId} {args : Array Value} {below : List Frame} {meth : Method} {c : Code} {D : va_G} {A : Nat → Prop} {g : Nat → ClassId} {rest : va_W} {a0 : Nat → Nat} {ls : Array Slot} {H : Heap} {locs : List Loc} {s0 : S_Mo} {x1 : Int32} {x2 : Int32} {x3 : Int32} {x4 : Int32} {x5 : Int32} {x6 : Int32} {out : Int32 × S_Mo} (X : Cx p s m args meth c prog_11_method_13_code 7 ws_Mo_spelled R_Mo (some .boolean) D g) (hl : lv_has ls 7 [(0, .ref (a0 0)), (1, .int x1), (2, .int x2), (3, .int x3), (4, .int x4), (5, .int x5), (6, .int x6)]) (hI : Iw D A (w_Mo g a0 s0 ++ (rest)) H) (hS : va_S A s.heap H locs) (h : L_Mo_spelled_86   (s0, x1, x2, x3, x4, x5, x6) = some out) : W p l e (headSpec ws_Mo_spelled { frames := 1, cells := 0, slots := 0, locals := 22 }).room s m args below meth c H locs 0 0 (MQ below (QcI D A g out.1 (fun (_ : Unit) => w_Mo g a0 out.2 ++ (rest))) args s 0 0 A) (F0 m 86 ls []) := by
  unfold L_Mo_spelled_86 at h
  exact lp_ind (P := fun v => ∀ (ls : Array Slot) (H : Heap) (locs : List Loc), lv_has ls 7 [(0, .ref (a0 0)), (1, .int v.2.1), (2, .int v.2.2.1), (3, .int v.2.2.2.1), (4, .int v.2.2.2.2.1), (5, .int v.2.2.2.2.2.1), (6, .int v.2.2.2.2.2.2)] → Iw D A (w_Mo g a0 v.1 ++ (rest)) H → va_S A s.heap H locs → W p l e (headSpec ws_Mo_spelled { frames := 1, cells := 0, slots := 0, locals := 22 }).room s m args below meth c H locs 0 0 (MQ below (QcI D A g out.1 (fun (_ : Unit) => w_Mo g a0 out.2 ++ (rest))) args s 0 0 A) (F0 m 86 ls [])) (fun k v ih hb ls H locs  hl hI hS => t_Mo_spelled_86 X  (fun v' ls H locs  hl hI hS h' => ih v' h' ls H locs  hl hI hS) hl hI hS hb) FU _ h ls H locs  hl hI hS
set_option maxRecDepth 100000 in
set_option maxHeartbeats 4000000 in
theorem t_Mo_spelled_81 {p : Program} {l : Launch} {e : Env} {s : State} {m : MethodId} {args : Array Value} {below : List Frame} {meth : Method} {c : Code} {D : va_G} {A : Nat → Prop} {g : Nat → ClassId} {rest : va_W} {a0 : Nat → Nat} {ls : Array Slot} {H : Heap} {locs : List Loc} {s0 : S_Mo} {x1 : Int32} {x2 : Int32} {x3 : Int32} {x4 : Int32} {y0 : Int32} {out : Int32 × S_Mo} (X : Cx p s m args meth c prog_11_method_13_code 7 ws_Mo_spelled R_Mo (some .boolean) D g) (hl : lv_has ls 7 [(0, .ref (a0 0)), (1, .int x1), (2, .int x2), (3, .int x3), (4, .int x4)]) (hI : Iw D A (w_Mo g a0 s0 ++ (rest)) H) (hS : va_S A s.heap H locs) (h : B_Mo_spelled_81  s0 x1 x2 x3 x4 y0 = some out) : W p l e (headSpec ws_Mo_spelled { frames := 1, cells := 0, slots := 0, locals := 22 }).room s m args below meth c H locs 0 0 (MQ below (QcI D A g out.1 (fun (_ : Unit) => w_Mo g a0 out.2 ++ (rest))) args s 0 0 A) (F0 m 81 ls [.int y0]) := by
  have X1 := X
  obtain ⟨hx, hb, hml, hown, hts, hr, hlocks, hKK⟩ := X1
  have ht : ∀ w ∈ TB, w.before args s = true := fun w h => hts w (List.mem_cons_of_mem _ h)
  have hK := hKK.1
  unfold B_Mo_spelled_81 at h
  refine lv_istore hx hb d_Mo_spelled_81 hl (Nat.le_of_ble_eq_true rfl) rfl (fun ls hl => ?_)
  have hl : lv_has ls 7 [(5, .int y0), (0, .ref (a0 0)), (1, .int x1), (2, .int x2), (3, .int x3), (4, .int x4)] := hl
  refine lv_iconst (v := 0) hx hb d_Mo_spelled_83 (by decide) ?_
  refine lv_istore hx hb d_Mo_spelled_84 hl (Nat.le_of_ble_eq_true rfl) rfl (fun ls hl => ?_)
  have hl : lv_has ls 7 [(6, .int (0 : Int32)), (5, .int y0), (0, .ref (a0 0)), (1, .int x1), (2, .int x2), (3, .int x3), (4, .int x4)] := hl
  exact T_Mo_spelled_86 X (lv_sub hl [2, 3, 4, 5, 6, 1, 0] rfl) hI hS h
set_option maxRecDepth 100000 in
set_option maxHeartbeats 4000000 in
theorem t_Mo_spelled_80 {p : Program} {l : Launch} {e : Env} {s : State} {m : MethodId} {args : Array Value} {below : List Frame} {meth : Method} {c : Code} {D : va_G} {A : Nat → Prop} {g : Nat → ClassId} {rest : va_W} {a0 : Nat → Nat} {ls : Array Slot} {H : Heap} {locs : List Loc} {s0 : S_Mo} {x1 : Int32} {x2 : Int32} {x3 : Int32} {x4 : Int32} {out : Int32 × S_Mo} (X : Cx p s m args meth c prog_11_method_13_code 7 ws_Mo_spelled R_Mo (some .boolean) D g) (hl : lv_has ls 7 [(0, .ref (a0 0)), (1, .int x1), (2, .int x2), (3, .int x3), (4, .int x4)]) (hI : Iw D A (w_Mo g a0 s0 ++ (rest)) H) (hS : va_S A s.heap H locs) (h : B_Mo_spelled_80  s0 x1 x2 x3 x4 = some out) : W p l e (headSpec ws_Mo_spelled { frames := 1, cells := 0, slots := 0, locals := 22 }).room s m args below meth c H locs 0 0 (MQ below (QcI D A g out.1 (fun (_ : Unit) => w_Mo g a0 out.2 ++ (rest))) args s 0 0 A) (F0 m 80 ls []) := by
  have X1 := X
  obtain ⟨hx, hb, hml, hown, hts, hr, hlocks, hKK⟩ := X1
  have ht : ∀ w ∈ TB, w.before args s = true := fun w h => hts w (List.mem_cons_of_mem _ h)
  have hK := hKK.1
  unfold B_Mo_spelled_80 at h
  refine lv_iconst (v := 0) hx hb d_Mo_spelled_80 (by decide) ?_
  exact t_Mo_spelled_81 X (lv_sub hl [0, 1, 2, 3, 4] rfl) hI hS h
set_option maxRecDepth 100000 in
set_option maxHeartbeats 4000000 in
theorem t_Mo_spelled_76 {p : Program} {l : Launch} {e : Env} {s : State} {m : MethodId} {args : Array Value} {below : List Frame} {meth : Method} {c : Code} {D : va_G} {A : Nat → Prop} {g : Nat → ClassId} {rest : va_W} {a0 : Nat → Nat} {ls : Array Slot} {H : Heap} {locs : List Loc} {s0 : S_Mo} {x1 : Int32} {x2 : Int32} {x3 : Int32} {x4 : Int32} {out : Int32 × S_Mo} (X : Cx p s m args meth c prog_11_method_13_code 7 ws_Mo_spelled R_Mo (some .boolean) D g) (hl : lv_has ls 7 [(0, .ref (a0 0)), (1, .int x1), (2, .int x2), (3, .int x3), (4, .int x4)]) (hI : Iw D A (w_Mo g a0 s0 ++ (rest)) H) (hS : va_S A s.heap H locs) (h : B_Mo_spelled_76  s0 x1 x2 x3 x4 = some out) : W p l e (headSpec ws_Mo_spelled { frames := 1, cells := 0, slots := 0, locals := 22 }).room s m args below meth c H locs 0 0 (MQ below (QcI D A g out.1 (fun (_ : Unit) => w_Mo g a0 out.2 ++ (rest))) args s 0 0 A) (F0 m 76 ls []) := by
  have X1 := X
  obtain ⟨hx, hb, hml, hown, hts, hr, hlocks, hKK⟩ := X1
  have ht : ∀ w ∈ TB, w.before args s = true := fun w h => hts w (List.mem_cons_of_mem _ h)
  have hK := hKK.1
  unfold B_Mo_spelled_76 at h
  refine lv_iconst (v := 1) hx hb d_Mo_spelled_76 (by decide) ?_
  refine lv_goto (tgt := 81) hx hb d_Mo_spelled_77 (by decide) ?_
  exact t_Mo_spelled_81 X (lv_sub hl [0, 1, 2, 3, 4] rfl) hI hS h
set_option maxRecDepth 100000 in
set_option maxHeartbeats 4000000 in
theorem t_Mo_spelled_72 {p : Program} {l : Launch} {e : Env} {s : State} {m : MethodId} {args : Array Value} {below : List Frame} {meth : Method} {c : Code} {D : va_G} {A : Nat → Prop} {g : Nat → ClassId} {rest : va_W} {a0 : Nat → Nat} {ls : Array Slot} {H : Heap} {locs : List Loc} {s0 : S_Mo} {x1 : Int32} {x2 : Int32} {x3 : Int32} {x4 : Int32} {out : Int32 × S_Mo} (X : Cx p s m args meth c prog_11_method_13_code 7 ws_Mo_spelled R_Mo (some .boolean) D g) (hl : lv_has ls 7 [(0, .ref (a0 0)), (1, .int x1), (2, .int x2), (3, .int x3), (4, .int x4)]) (hI : Iw D A (w_Mo g a0 s0 ++ (rest)) H) (hS : va_S A s.heap H locs) (h : B_Mo_spelled_72  s0 x1 x2 x3 x4 = some out) : W p l e (headSpec ws_Mo_spelled { frames := 1, cells := 0, slots := 0, locals := 22 }).room s m args below meth c H locs 0 0 (MQ below (QcI D A g out.1 (fun (_ : Unit) => w_Mo g a0 out.2 ++ (rest))) args s 0 0 A) (F0 m 72 ls []) := by
  have X1 := X
  obtain ⟨hx, hb, hml, hown, hts, hr, hlocks, hKK⟩ := X1
  have ht : ∀ w ∈ TB, w.before args s = true := fun w h => hts w (List.mem_cons_of_mem _ h)
  have hK := hKK.1
  unfold B_Mo_spelled_72 at h
  refine lv_iload_n hx hb d_Mo_spelled_72 rfl (lv_at hl 3 rfl) ?_
  refine lv_if_ne (tgt := 80) hx hb d_Mo_spelled_73 (by decide) (fun hc => ?_) (fun hc => ?_)
  · have h := it_f h hc
    exact t_Mo_spelled_80 X (lv_sub hl [0, 1, 2, 3, 4] rfl) hI hS h
  · have h := it_t h hc
    exact t_Mo_spelled_76 X (lv_sub hl [0, 1, 2, 3, 4] rfl) hI hS h
set_option maxRecDepth 100000 in
set_option maxHeartbeats 4000000 in
theorem t_Mo_spelled_67 {p : Program} {l : Launch} {e : Env} {s : State} {m : MethodId} {args : Array Value} {below : List Frame} {meth : Method} {c : Code} {D : va_G} {A : Nat → Prop} {g : Nat → ClassId} {rest : va_W} {a0 : Nat → Nat} {ls : Array Slot} {H : Heap} {locs : List Loc} {s0 : S_Mo} {x1 : Int32} {x2 : Int32} {x3 : Int32} {x4 : Int32} {out : Int32 × S_Mo} (X : Cx p s m args meth c prog_11_method_13_code 7 ws_Mo_spelled R_Mo (some .boolean) D g) (hl : lv_has ls 7 [(0, .ref (a0 0)), (1, .int x1), (2, .int x2), (3, .int x3), (4, .int x4)]) (hI : Iw D A (w_Mo g a0 s0 ++ (rest)) H) (hS : va_S A s.heap H locs) (h : B_Mo_spelled_67  s0 x1 x2 x3 x4 = some out) : W p l e (headSpec ws_Mo_spelled { frames := 1, cells := 0, slots := 0, locals := 22 }).room s m args below meth c H locs 0 0 (MQ below (QcI D A g out.1 (fun (_ : Unit) => w_Mo g a0 out.2 ++ (rest))) args s 0 0 A) (F0 m 67 ls []) := by
  have X1 := X
  obtain ⟨hx, hb, hml, hown, hts, hr, hlocks, hKK⟩ := X1
  have ht : ∀ w ∈ TB, w.before args s = true := fun w h => hts w (List.mem_cons_of_mem _ h)
  have hK := hKK.1
  unfold B_Mo_spelled_67 at h
  refine lv_iload hx hb d_Mo_spelled_67 (lv_at hl 4 rfl) ?_
  refine lv_if_gt (tgt := 76) hx hb d_Mo_spelled_69 (by decide) (fun hc => ?_) (fun hc => ?_)
  · have h := it_t h hc
    exact t_Mo_spelled_76 X (lv_sub hl [0, 1, 2, 3, 4] rfl) hI hS h
  · have h := it_f h hc
    exact t_Mo_spelled_72 X (lv_sub hl [0, 1, 2, 3, 4] rfl) hI hS h
set_option maxRecDepth 100000 in
set_option maxHeartbeats 4000000 in
theorem t_Mo_spelled_60 {p : Program} {l : Launch} {e : Env} {s : State} {m : MethodId} {args : Array Value} {below : List Frame} {meth : Method} {c : Code} {D : va_G} {A : Nat → Prop} {g : Nat → ClassId} {rest : va_W} {a0 : Nat → Nat} {ls : Array Slot} {H : Heap} {locs : List Loc} {s0 : S_Mo} {x1 : Int32} {x2 : Int32} {x3 : Int32} {x4 : Int32} {y0 : Int32} {out : Int32 × S_Mo} (X : Cx p s m args meth c prog_11_method_13_code 7 ws_Mo_spelled R_Mo (some .boolean) D g) (hl : lv_has ls 7 [(0, .ref (a0 0)), (1, .int x1), (2, .int x2), (3, .int x3), (4, .int x4)]) (hI : Iw D A (w_Mo g a0 s0 ++ (rest)) H) (hS : va_S A s.heap H locs) (h : B_Mo_spelled_60  s0 x1 x2 x3 x4 y0 = some out) : W p l e (headSpec ws_Mo_spelled { frames := 1, cells := 0, slots := 0, locals := 22 }).room s m args below meth c H locs 0 0 (MQ below (QcI D A g out.1 (fun (_ : Unit) => w_Mo g a0 out.2 ++ (rest))) args s 0 0 A) (F0 m 60 ls [.int y0]) := by
  have X1 := X
  obtain ⟨hx, hb, hml, hown, hts, hr, hlocks, hKK⟩ := X1
  have ht : ∀ w ∈ TB, w.before args s = true := fun w h => hts w (List.mem_cons_of_mem _ h)
  have hK := hKK.1
  unfold B_Mo_spelled_60 at h
  refine lv_istore hx hb d_Mo_spelled_60 hl (Nat.le_of_ble_eq_true rfl) rfl (fun ls hl => ?_)
  have hl : lv_has ls 7 [(5, .int y0), (0, .ref (a0 0)), (1, .int x1), (2, .int x2), (3, .int x3), (4, .int x4)] := hl
  refine lv_iload hx hb d_Mo_spelled_62 (lv_at hl 0 rfl) ?_
  refine lv_if_eq (tgt := 80) hx hb d_Mo_spelled_64 (by decide) (fun hc => ?_) (fun hc => ?_)
  · have h := it_t h hc
    exact t_Mo_spelled_80 X (lv_sub hl [1, 2, 3, 4, 5] rfl) hI hS h
  · have h := it_f h hc
    exact t_Mo_spelled_67 X (lv_sub hl [1, 2, 3, 4, 5] rfl) hI hS h
set_option maxRecDepth 100000 in
set_option maxHeartbeats 4000000 in
theorem t_Mo_spelled_55 {p : Program} {l : Launch} {e : Env} {s : State} {m : MethodId} {args : Array Value} {below : List Frame} {meth : Method} {c : Code} {D : va_G} {A : Nat → Prop} {g : Nat → ClassId} {rest : va_W} {a0 : Nat → Nat} {ls : Array Slot} {H : Heap} {locs : List Loc} {s0 : S_Mo} {x1 : Int32} {x2 : Int32} {x3 : Int32} {x4 : Int32} {out : Int32 × S_Mo} (X : Cx p s m args meth c prog_11_method_13_code 7 ws_Mo_spelled R_Mo (some .boolean) D g) (hl : lv_has ls 7 [(0, .ref (a0 0)), (1, .int x1), (2, .int x2), (3, .int x3), (4, .int x4)]) (hI : Iw D A (w_Mo g a0 s0 ++ (rest)) H) (hS : va_S A s.heap H locs) (h : B_Mo_spelled_55  s0 x1 x2 x3 x4 = some out) : W p l e (headSpec ws_Mo_spelled { frames := 1, cells := 0, slots := 0, locals := 22 }).room s m args below meth c H locs 0 0 (MQ below (QcI D A g out.1 (fun (_ : Unit) => w_Mo g a0 out.2 ++ (rest))) args s 0 0 A) (F0 m 55 ls []) := by
  have X1 := X
  obtain ⟨hx, hb, hml, hown, hts, hr, hlocks, hKK⟩ := X1
  have ht : ∀ w ∈ TB, w.before args s = true := fun w h => hts w (List.mem_cons_of_mem _ h)
  have hK := hKK.1
  unfold B_Mo_spelled_55 at h
  refine lv_iconst (v := 1) hx hb d_Mo_spelled_55 (by decide) ?_
  refine lv_goto (tgt := 60) hx hb d_Mo_spelled_56 (by decide) ?_
  exact t_Mo_spelled_60 X (lv_sub hl [0, 1, 2, 3, 4] rfl) hI hS h
set_option maxRecDepth 100000 in
set_option maxHeartbeats 4000000 in
theorem t_Mo_spelled_59 {p : Program} {l : Launch} {e : Env} {s : State} {m : MethodId} {args : Array Value} {below : List Frame} {meth : Method} {c : Code} {D : va_G} {A : Nat → Prop} {g : Nat → ClassId} {rest : va_W} {a0 : Nat → Nat} {ls : Array Slot} {H : Heap} {locs : List Loc} {s0 : S_Mo} {x1 : Int32} {x2 : Int32} {x3 : Int32} {x4 : Int32} {out : Int32 × S_Mo} (X : Cx p s m args meth c prog_11_method_13_code 7 ws_Mo_spelled R_Mo (some .boolean) D g) (hl : lv_has ls 7 [(0, .ref (a0 0)), (1, .int x1), (2, .int x2), (3, .int x3), (4, .int x4)]) (hI : Iw D A (w_Mo g a0 s0 ++ (rest)) H) (hS : va_S A s.heap H locs) (h : B_Mo_spelled_59  s0 x1 x2 x3 x4 = some out) : W p l e (headSpec ws_Mo_spelled { frames := 1, cells := 0, slots := 0, locals := 22 }).room s m args below meth c H locs 0 0 (MQ below (QcI D A g out.1 (fun (_ : Unit) => w_Mo g a0 out.2 ++ (rest))) args s 0 0 A) (F0 m 59 ls []) := by
  have X1 := X
  obtain ⟨hx, hb, hml, hown, hts, hr, hlocks, hKK⟩ := X1
  have ht : ∀ w ∈ TB, w.before args s = true := fun w h => hts w (List.mem_cons_of_mem _ h)
  have hK := hKK.1
  unfold B_Mo_spelled_59 at h
  refine lv_iconst (v := 0) hx hb d_Mo_spelled_59 (by decide) ?_
  exact t_Mo_spelled_60 X (lv_sub hl [0, 1, 2, 3, 4] rfl) hI hS h
set_option maxRecDepth 100000 in
set_option maxHeartbeats 4000000 in
theorem t_Mo_spelled_36 {p : Program} {l : Launch} {e : Env} {s : State} {m : MethodId} {args : Array Value} {below : List Frame} {meth : Method} {c : Code} {D : va_G} {A : Nat → Prop} {g : Nat → ClassId} {rest : va_W} {a0 : Nat → Nat} {ls : Array Slot} {H : Heap} {locs : List Loc} {s0 : S_Mo} {x1 : Int32} {x2 : Int32} {x3 : Int32} {x4 : Int32} {out : Int32 × S_Mo} (X : Cx p s m args meth c prog_11_method_13_code 7 ws_Mo_spelled R_Mo (some .boolean) D g) (hl : lv_has ls 7 [(0, .ref (a0 0)), (1, .int x1), (2, .int x2), (3, .int x3), (4, .int x4)]) (hI : Iw D A (w_Mo g a0 s0 ++ (rest)) H) (hS : va_S A s.heap H locs) (h : B_Mo_spelled_36  s0 x1 x2 x3 x4 = some out) : W p l e (headSpec ws_Mo_spelled { frames := 1, cells := 0, slots := 0, locals := 22 }).room s m args below meth c H locs 0 0 (MQ below (QcI D A g out.1 (fun (_ : Unit) => w_Mo g a0 out.2 ++ (rest))) args s 0 0 A) (F0 m 36 ls []) := by
  have X1 := X
  obtain ⟨hx, hb, hml, hown, hts, hr, hlocks, hKK⟩ := X1
  have ht : ∀ w ∈ TB, w.before args s = true := fun w h => hts w (List.mem_cons_of_mem _ h)
  have hK := hKK.1
  unfold B_Mo_spelled_36 at h
  refine lv_aload_n hx hb d_Mo_spelled_36 rfl (lv_at hl 0 rfl) ?_
  refine gt_Mo_source hx hb ht hown hK hI (ht _ m_820) d_Mo_spelled_37 ?_
  refine lv_aload_n hx hb d_Mo_spelled_40 rfl (lv_at hl 0 rfl) ?_
  refine gt_Mo_at hx hb ht hown hK hI (ht _ m_841) d_Mo_spelled_41 ?_
  refine lv_iload hx hb d_Mo_spelled_44 (lv_at hl 4 rfl) ?_
  refine lv_iadd hx hb d_Mo_spelled_46 ?_
  refine lv_iconst (v := 1) hx hb d_Mo_spelled_47 (by decide) ?_
  refine lv_isub hx hb d_Mo_spelled_48 ?_
  by_cases hc1 : ((((Mo_at s0) + x4) - (1 : Int32)) < 0 ∨ 240 ≤ (((Mo_at s0) + x4) - (1 : Int32)).toNatClampNeg)
  · exact no_s (it_t h hc1)
  have h := it_f h hc1
  refine al_Mo_source hx hb hK hI hc1 d_Mo_spelled_49 ?_
  refine lv_bipush (v := 32) hx hb d_Mo_spelled_50 (by decide) ?_
  refine lv_icmp_eq (tgt := 59) hx hb d_Mo_spelled_52 (by decide) (fun hc => ?_) (fun hc => ?_)
  · have h := it_t h hc
    exact t_Mo_spelled_59 X (lv_sub hl [0, 1, 2, 3, 4] rfl) hI hS h
  · have h := it_f h hc
    exact t_Mo_spelled_55 X (lv_sub hl [0, 1, 2, 3, 4] rfl) hI hS h
set_option maxRecDepth 100000 in
set_option maxHeartbeats 4000000 in
theorem t_Mo_spelled_29 {p : Program} {l : Launch} {e : Env} {s : State} {m : MethodId} {args : Array Value} {below : List Frame} {meth : Method} {c : Code} {D : va_G} {A : Nat → Prop} {g : Nat → ClassId} {rest : va_W} {a0 : Nat → Nat} {ls : Array Slot} {H : Heap} {locs : List Loc} {s0 : S_Mo} {x1 : Int32} {x2 : Int32} {x3 : Int32} {y0 : Int32} {out : Int32 × S_Mo} (X : Cx p s m args meth c prog_11_method_13_code 7 ws_Mo_spelled R_Mo (some .boolean) D g) (hl : lv_has ls 7 [(0, .ref (a0 0)), (1, .int x1), (2, .int x2), (3, .int x3)]) (hI : Iw D A (w_Mo g a0 s0 ++ (rest)) H) (hS : va_S A s.heap H locs) (h : B_Mo_spelled_29  s0 x1 x2 x3 y0 = some out) : W p l e (headSpec ws_Mo_spelled { frames := 1, cells := 0, slots := 0, locals := 22 }).room s m args below meth c H locs 0 0 (MQ below (QcI D A g out.1 (fun (_ : Unit) => w_Mo g a0 out.2 ++ (rest))) args s 0 0 A) (F0 m 29 ls [.int y0]) := by
  have X1 := X
  obtain ⟨hx, hb, hml, hown, hts, hr, hlocks, hKK⟩ := X1
  have ht : ∀ w ∈ TB, w.before args s = true := fun w h => hts w (List.mem_cons_of_mem _ h)
  have hK := hKK.1
  unfold B_Mo_spelled_29 at h
  refine lv_istore hx hb d_Mo_spelled_29 hl (Nat.le_of_ble_eq_true rfl) rfl (fun ls hl => ?_)
  have hl : lv_has ls 7 [(4, .int y0), (0, .ref (a0 0)), (1, .int x1), (2, .int x2), (3, .int x3)] := hl
  refine lv_iload hx hb d_Mo_spelled_31 (lv_at hl 0 rfl) ?_
  refine lv_if_eq (tgt := 55) hx hb d_Mo_spelled_33 (by decide) (fun hc => ?_) (fun hc => ?_)
  · have h := it_t h hc
    exact t_Mo_spelled_55 X (lv_sub hl [1, 2, 3, 4, 0] rfl) hI hS h
  · have h := it_f h hc
    exact t_Mo_spelled_36 X (lv_sub hl [1, 2, 3, 4, 0] rfl) hI hS h
set_option maxRecDepth 100000 in
set_option maxHeartbeats 4000000 in
theorem t_Mo_spelled_28 {p : Program} {l : Launch} {e : Env} {s : State} {m : MethodId} {args : Array Value} {below : List Frame} {meth : Method} {c : Code} {D : va_G} {A : Nat → Prop} {g : Nat → ClassId} {rest : va_W} {a0 : Nat → Nat} {ls : Array Slot} {H : Heap} {locs : List Loc} {s0 : S_Mo} {x1 : Int32} {x2 : Int32} {x3 : Int32} {out : Int32 × S_Mo} (X : Cx p s m args meth c prog_11_method_13_code 7 ws_Mo_spelled R_Mo (some .boolean) D g) (hl : lv_has ls 7 [(0, .ref (a0 0)), (1, .int x1), (2, .int x2), (3, .int x3)]) (hI : Iw D A (w_Mo g a0 s0 ++ (rest)) H) (hS : va_S A s.heap H locs) (h : B_Mo_spelled_28  s0 x1 x2 x3 = some out) : W p l e (headSpec ws_Mo_spelled { frames := 1, cells := 0, slots := 0, locals := 22 }).room s m args below meth c H locs 0 0 (MQ below (QcI D A g out.1 (fun (_ : Unit) => w_Mo g a0 out.2 ++ (rest))) args s 0 0 A) (F0 m 28 ls []) := by
  have X1 := X
  obtain ⟨hx, hb, hml, hown, hts, hr, hlocks, hKK⟩ := X1
  have ht : ∀ w ∈ TB, w.before args s = true := fun w h => hts w (List.mem_cons_of_mem _ h)
  have hK := hKK.1
  unfold B_Mo_spelled_28 at h
  refine lv_iload_n hx hb d_Mo_spelled_28 rfl (lv_at hl 3 rfl) ?_
  exact t_Mo_spelled_29 X (lv_sub hl [0, 1, 2, 3] rfl) hI hS h
set_option maxRecDepth 100000 in
set_option maxHeartbeats 4000000 in
theorem t_Mo_spelled_22 {p : Program} {l : Launch} {e : Env} {s : State} {m : MethodId} {args : Array Value} {below : List Frame} {meth : Method} {c : Code} {D : va_G} {A : Nat → Prop} {g : Nat → ClassId} {rest : va_W} {a0 : Nat → Nat} {ls : Array Slot} {H : Heap} {locs : List Loc} {s0 : S_Mo} {x1 : Int32} {x2 : Int32} {x3 : Int32} {out : Int32 × S_Mo} (X : Cx p s m args meth c prog_11_method_13_code 7 ws_Mo_spelled R_Mo (some .boolean) D g) (hl : lv_has ls 7 [(0, .ref (a0 0)), (1, .int x1), (2, .int x2), (3, .int x3)]) (hI : Iw D A (w_Mo g a0 s0 ++ (rest)) H) (hS : va_S A s.heap H locs) (h : B_Mo_spelled_22  s0 x1 x2 x3 = some out) : W p l e (headSpec ws_Mo_spelled { frames := 1, cells := 0, slots := 0, locals := 22 }).room s m args below meth c H locs 0 0 (MQ below (QcI D A g out.1 (fun (_ : Unit) => w_Mo g a0 out.2 ++ (rest))) args s 0 0 A) (F0 m 22 ls []) := by
  have X1 := X
  obtain ⟨hx, hb, hml, hown, hts, hr, hlocks, hKK⟩ := X1
  have ht : ∀ w ∈ TB, w.before args s = true := fun w h => hts w (List.mem_cons_of_mem _ h)
  have hK := hKK.1
  unfold B_Mo_spelled_22 at h
  refine lv_iload_n hx hb d_Mo_spelled_22 rfl (lv_at hl 3 rfl) ?_
  refine lv_iconst (v := 1) hx hb d_Mo_spelled_23 (by decide) ?_
  refine lv_isub hx hb d_Mo_spelled_24 ?_
  refine lv_goto (tgt := 29) hx hb d_Mo_spelled_25 (by decide) ?_
  exact t_Mo_spelled_29 X (lv_sub hl [0, 1, 2, 3] rfl) hI hS h
set_option maxRecDepth 100000 in
set_option maxHeartbeats 4000000 in
theorem t_Mo_spelled_4 {p : Program} {l : Launch} {e : Env} {s : State} {m : MethodId} {args : Array Value} {below : List Frame} {meth : Method} {c : Code} {D : va_G} {A : Nat → Prop} {g : Nat → ClassId} {rest : va_W} {a0 : Nat → Nat} {ls : Array Slot} {H : Heap} {locs : List Loc} {s0 : S_Mo} {x1 : Int32} {x2 : Int32} {x3 : Int32} {out : Int32 × S_Mo} (X : Cx p s m args meth c prog_11_method_13_code 7 ws_Mo_spelled R_Mo (some .boolean) D g) (hl : lv_has ls 7 [(0, .ref (a0 0)), (1, .int x1), (2, .int x2), (3, .int x3)]) (hI : Iw D A (w_Mo g a0 s0 ++ (rest)) H) (hS : va_S A s.heap H locs) (h : B_Mo_spelled_4  s0 x1 x2 x3 = some out) : W p l e (headSpec ws_Mo_spelled { frames := 1, cells := 0, slots := 0, locals := 22 }).room s m args below meth c H locs 0 0 (MQ below (QcI D A g out.1 (fun (_ : Unit) => w_Mo g a0 out.2 ++ (rest))) args s 0 0 A) (F0 m 4 ls []) := by
  have X1 := X
  obtain ⟨hx, hb, hml, hown, hts, hr, hlocks, hKK⟩ := X1
  have ht : ∀ w ∈ TB, w.before args s = true := fun w h => hts w (List.mem_cons_of_mem _ h)
  have hK := hKK.1
  unfold B_Mo_spelled_4 at h
  refine lv_aload_n hx hb d_Mo_spelled_4 rfl (lv_at hl 0 rfl) ?_
  refine gt_Mo_source hx hb ht hown hK hI (ht _ m_820) d_Mo_spelled_5 ?_
  refine lv_aload_n hx hb d_Mo_spelled_8 rfl (lv_at hl 0 rfl) ?_
  refine gt_Mo_at hx hb ht hown hK hI (ht _ m_841) d_Mo_spelled_9 ?_
  refine lv_iload_n hx hb d_Mo_spelled_12 rfl (lv_at hl 3 rfl) ?_
  refine lv_iadd hx hb d_Mo_spelled_13 ?_
  refine lv_iconst (v := 1) hx hb d_Mo_spelled_14 (by decide) ?_
  refine lv_isub hx hb d_Mo_spelled_15 ?_
  by_cases hc1 : ((((Mo_at s0) + x3) - (1 : Int32)) < 0 ∨ 240 ≤ (((Mo_at s0) + x3) - (1 : Int32)).toNatClampNeg)
  · exact no_s (it_t h hc1)
  have h := it_f h hc1
  refine al_Mo_source hx hb hK hI hc1 d_Mo_spelled_16 ?_
  refine lv_bipush (v := 32) hx hb d_Mo_spelled_17 (by decide) ?_
  refine lv_icmp_ne (tgt := 28) hx hb d_Mo_spelled_19 (by decide) (fun hc => ?_) (fun hc => ?_)
  · have h := it_f h hc
    exact t_Mo_spelled_28 X (lv_sub hl [0, 1, 2, 3] rfl) hI hS h
  · have h := it_t h hc
    exact t_Mo_spelled_22 X (lv_sub hl [0, 1, 2, 3] rfl) hI hS h
set_option maxRecDepth 100000 in
set_option maxHeartbeats 4000000 in
theorem t_Mo_spelled_0 {p : Program} {l : Launch} {e : Env} {s : State} {m : MethodId} {args : Array Value} {below : List Frame} {meth : Method} {c : Code} {D : va_G} {A : Nat → Prop} {g : Nat → ClassId} {rest : va_W} {a0 : Nat → Nat} {ls : Array Slot} {H : Heap} {locs : List Loc} {s0 : S_Mo} {x1 : Int32} {x2 : Int32} {x3 : Int32} {out : Int32 × S_Mo} (X : Cx p s m args meth c prog_11_method_13_code 7 ws_Mo_spelled R_Mo (some .boolean) D g) (hl : lv_has ls 7 [(0, .ref (a0 0)), (1, .int x1), (2, .int x2), (3, .int x3)]) (hI : Iw D A (w_Mo g a0 s0 ++ (rest)) H) (hS : va_S A s.heap H locs) (h : B_Mo_spelled_0  s0 x1 x2 x3 = some out) : W p l e (headSpec ws_Mo_spelled { frames := 1, cells := 0, slots := 0, locals := 22 }).room s m args below meth c H locs 0 0 (MQ below (QcI D A g out.1 (fun (_ : Unit) => w_Mo g a0 out.2 ++ (rest))) args s 0 0 A) (F0 m 0 ls []) := by
  have X1 := X
  obtain ⟨hx, hb, hml, hown, hts, hr, hlocks, hKK⟩ := X1
  have ht : ∀ w ∈ TB, w.before args s = true := fun w h => hts w (List.mem_cons_of_mem _ h)
  have hK := hKK.1
  unfold B_Mo_spelled_0 at h
  refine lv_iload_n hx hb d_Mo_spelled_0 rfl (lv_at hl 3 rfl) ?_
  refine lv_if_le (tgt := 28) hx hb d_Mo_spelled_1 (by decide) (fun hc => ?_) (fun hc => ?_)
  · have h := it_t h hc
    exact t_Mo_spelled_28 X (lv_sub hl [0, 1, 2, 3] rfl) hI hS h
  · have h := it_f h hc
    exact t_Mo_spelled_4 X (lv_sub hl [0, 1, 2, 3] rfl) hI hS h
set_option maxRecDepth 100000 in
set_option maxHeartbeats 4000000 in
theorem c_Mo_spelled {l : Launch} {D : va_G} {A : Nat → Prop} {g : Nat → ClassId} {rest : va_W} {a0 : Nat → Nat} {s0 : S_Mo} {x1 : Int32} {x2 : Int32} {x3 : Int32} {out : Int32 × S_Mo} (h : F_Mo_spelled s0 x1 x2 x3 = some out) : Met l y_Mo_spelled ws_Mo_spelled { frames := 1, cells := 0, slots := 0, locals := 22 } (PcW D A g [.ref (a0 0), .int x1, .int x2, .int x3] (w_Mo g a0 s0 ++ (rest))) (QcI D A g out.1 (fun (_ : Unit) => w_Mo g a0 out.2 ++ (rest))) 0 0 A := by
  refine Met.ofW (cc := prog_11_method_13_code) (maxL := 7) (ret := (some .boolean)) (by decide) rfl ?_
  intro p e s m args below meth c s₁ B hml hv
  obtain ⟨rfl, hI, hK⟩ := hv
  have hl := lv_entry [.ref (a0 0), .int x1, .int x2, .int x3] (n := 7) (Nat.le_of_ble_eq_true rfl)
  rw [lg_entry_eq]
  generalize (lg_sl [.ref (a0 0), .int x1, .int x2, .int x3] ++ List.replicate (7 - (lg_sl [.ref (a0 0), .int x1, .int x2, .int x3]).length) Slot.unset).toArray = ls at hl ⊢
  have hl : lv_has ls 7 [(0, .ref (a0 0)), (1, .int x1), (2, .int x2), (3, .int x3)] := hl
  exact t_Mo_spelled_0 ⟨B.exec, B.bytes, hml, findClass_of_methodNamed B.named, atoms_spec (ws := ws_Mo_spelled) B.pre, B.returns, B.notSynchronized, hK⟩ (lv_sub hl [0, 1, 2, 3] rfl) hI va_S.rf h
def ws_Mo_whole : List Cond := .code y_Mo_whole prog_11_method_12_code 5 (some .boolean) :: TB
def B_Mo_whole_58 (s0 : S_Mo) (x1 : Int32) (x2 : Int32) (x3 : Int32) : Option (Int32 × S_Mo) :=
  (if (x1 < 0 ∨ 260 ≤ x1.toNatClampNeg) then none else some ((1 : Int32), (Mo_set_at (Mo_set_value s0 (upd (Mo_value s0) x1.toNatClampNeg x3)) ((Mo_at (Mo_set_value s0 (upd (Mo_value s0) x1.toNatClampNeg x3))) + x2))))
def B_Mo_whole_34 (k29 : S_Mo × Int32 × Int32 × Int32 × Int32 → Option (Int32 × S_Mo)) (s0 : S_Mo) (x1 : Int32) (x2 : Int32) (x3 : Int32) (x4 : Int32) : Option (Int32 × S_Mo) :=
  (if (((Mo_at s0) + x4) < 0 ∨ 240 ≤ ((Mo_at s0) + x4).toNatClampNeg) then none else (k29 (s0, x1, x2, ((x3 <<< ((8 : Int32) &&& 31)) ||| ((Mo_source s0) ((Mo_at s0) + x4).toNatClampNeg)), (x4 + (-1)))))
def B_Mo_whole_29 (k29 : S_Mo × Int32 × Int32 × Int32 × Int32 → Option (Int32 × S_Mo)) (s0 : S_Mo) (x1 : Int32) (x2 : Int32) (x3 : Int32) (x4 : Int32) : Option (Int32 × S_Mo) :=
  (if x4 < 0 then (B_Mo_whole_58 s0 x1 x2 x3) else (B_Mo_whole_34 k29 s0 x1 x2 x3 x4))
def L_Mo_whole_29 (v : S_Mo × Int32 × Int32 × Int32 × Int32) : Option (Int32 × S_Mo) := lp (fun k29 v => B_Mo_whole_29  k29  v.1 v.2.1 v.2.2.1 v.2.2.2.1 v.2.2.2.2) FU v
def B_Mo_whole_23 (s0 : S_Mo) (x1 : Int32) (x2 : Int32) (y0 : Int32) : Option (Int32 × S_Mo) :=
  (L_Mo_whole_29 (s0, x1, x2, y0, (x2 - (1 : Int32))))
def B_Mo_whole_22 (s0 : S_Mo) (x1 : Int32) (x2 : Int32) : Option (Int32 × S_Mo) :=
  (B_Mo_whole_23 s0 x1 x2 (0 : Int32))
def B_Mo_whole_18 (s0 : S_Mo) (x1 : Int32) (x2 : Int32) : Option (Int32 × S_Mo) :=
  (B_Mo_whole_23 s0 x1 x2 ((-1) : Int32))
def B_Mo_whole_0 (s0 : S_Mo) (x1 : Int32) (x2 : Int32) : Option (Int32 × S_Mo) :=
  (if ((((Mo_at s0) + x2) - (1 : Int32)) < 0 ∨ 240 ≤ (((Mo_at s0) + x2) - (1 : Int32)).toNatClampNeg) then none else (if ((Mo_source s0) (((Mo_at s0) + x2) - (1 : Int32)).toNatClampNeg) ≤ (127 : Int32) then (B_Mo_whole_22 s0 x1 x2) else (B_Mo_whole_18 s0 x1 x2)))
def F_Mo_whole (s0 : S_Mo) (x1 : Int32) (x2 : Int32) : Option (Int32 × S_Mo) := B_Mo_whole_0 s0 x1 x2
set_option maxRecDepth 100000 in
set_option maxHeartbeats 4000000 in
theorem t_Mo_whole_58 {p : Program} {l : Launch} {e : Env} {s : State} {m : MethodId} {args : Array Value} {below : List Frame} {meth : Method} {c : Code} {D : va_G} {A : Nat → Prop} {g : Nat → ClassId} {rest : va_W} {a0 : Nat → Nat} {ls : Array Slot} {H : Heap} {locs : List Loc} {s0 : S_Mo} {x1 : Int32} {x2 : Int32} {x3 : Int32} {out : Int32 × S_Mo} (X : Cx p s m args meth c prog_11_method_12_code 5 ws_Mo_whole R_Mo (some .boolean) D g) (hl : lv_has ls 5 [(0, .ref (a0 0)), (1, .int x1), (2, .int x2), (3, .int x3)]) (hI : Iw D A (w_Mo g a0 s0 ++ (rest)) H) (hS : va_S A s.heap H locs) (h : B_Mo_whole_58  s0 x1 x2 x3 = some out) : W p l e (headSpec ws_Mo_whole { frames := 0, cells := 0, slots := 0, locals := 0 }).room s m args below meth c H locs 0 0 (MQ below (QcI D A g out.1 (fun (_ : Unit) => w_Mo g a0 out.2 ++ (rest))) args s 0 0 A) (F0 m 58 ls []) := by
  have X1 := X
  obtain ⟨hx, hb, hml, hown, hts, hr, hlocks, hKK⟩ := X1
  have ht : ∀ w ∈ TB, w.before args s = true := fun w h => hts w (List.mem_cons_of_mem _ h)
  have hK := hKK.1
  unfold B_Mo_whole_58 at h
  refine lv_aload_n hx hb d_Mo_whole_58 rfl (lv_at hl 0 rfl) ?_
  refine gt_Mo_value hx hb ht hown hK hI (ht _ m_825) d_Mo_whole_59 ?_
  refine lv_iload_n hx hb d_Mo_whole_62 rfl (lv_at hl 1 rfl) ?_
  refine lv_iload_n hx hb d_Mo_whole_63 rfl (lv_at hl 3 rfl) ?_
  by_cases hc1 : (x1 < 0 ∨ 260 ≤ x1.toNatClampNeg)
  · exact no_s (it_t h hc1)
  have h := it_f h hc1
  refine as_Mo_value hx hb hK hI hS hc1 d_Mo_whole_64 (fun H locs hI hS => ?_)
  refine lv_aload_n hx hb d_Mo_whole_65 rfl (lv_at hl 0 rfl) ?_
  refine lv_dup hx hb d_Mo_whole_66 rfl ?_
  refine gt_Mo_at hx hb ht hown hK hI (ht _ m_841) d_Mo_whole_67 ?_
  refine lv_iload_n hx hb d_Mo_whole_70 rfl (lv_at hl 2 rfl) ?_
  refine lv_iadd hx hb d_Mo_whole_71 ?_
  refine pt_Mo_at hx hb ht hown hK hI hS (ht _ m_841) d_Mo_whole_72 (fun H locs hI hS => ?_)
  refine lv_iconst (v := 1) hx hb d_Mo_whole_75 (by decide) ?_
  have h9 := Option.some.inj h
  subst h9
  exact W.zret (v := (1 : Int32)) hx hb hr rfl (fun t ht hW => ⟨⟨_, (), rfl, rfl, ⟨by rw [ht]; exact hI, hKK.moved hW⟩⟩, hS.F ht⟩) hS.2.2 d_Mo_whole_76
set_option maxRecDepth 100000 in
set_option maxHeartbeats 4000000 in
theorem t_Mo_whole_34 {p : Program} {l : Launch} {e : Env} {s : State} {m : MethodId} {args : Array Value} {below : List Frame} {meth : Method} {c : Code} {D : va_G} {A : Nat → Prop} {g : Nat → ClassId} {rest : va_W} {a0 : Nat → Nat} {ls : Array Slot} {H : Heap} {locs : List Loc} {k29 : S_Mo × Int32 × Int32 × Int32 × Int32 → Option (Int32 × S_Mo)} {s0 : S_Mo} {x1 : Int32} {x2 : Int32} {x3 : Int32} {x4 : Int32} {out : Int32 × S_Mo} (X : Cx p s m args meth c prog_11_method_12_code 5 ws_Mo_whole R_Mo (some .boolean) D g) (hk29 : ∀ (v : S_Mo × Int32 × Int32 × Int32 × Int32) (ls : Array Slot) (H : Heap) (locs : List Loc), lv_has ls 5 [(0, .ref (a0 0)), (1, .int v.2.1), (2, .int v.2.2.1), (3, .int v.2.2.2.1), (4, .int v.2.2.2.2)] → Iw D A (w_Mo g a0 v.1 ++ (rest)) H → va_S A s.heap H locs → k29 v = some out → W p l e (headSpec ws_Mo_whole { frames := 0, cells := 0, slots := 0, locals := 0 }).room s m args below meth c H locs 0 0 (MQ below (QcI D A g out.1 (fun (_ : Unit) => w_Mo g a0 out.2 ++ (rest))) args s 0 0 A) (F0 m 29 ls [])) (hl : lv_has ls 5 [(0, .ref (a0 0)), (1, .int x1), (2, .int x2), (3, .int x3), (4, .int x4)]) (hI : Iw D A (w_Mo g a0 s0 ++ (rest)) H) (hS : va_S A s.heap H locs) (h : B_Mo_whole_34 k29 s0 x1 x2 x3 x4 = some out) : W p l e (headSpec ws_Mo_whole { frames := 0, cells := 0, slots := 0, locals := 0 }).room s m args below meth c H locs 0 0 (MQ below (QcI D A g out.1 (fun (_ : Unit) => w_Mo g a0 out.2 ++ (rest))) args s 0 0 A) (F0 m 34 ls []) := by
  have X1 := X
  obtain ⟨hx, hb, hml, hown, hts, hr, hlocks, hKK⟩ := X1
  have ht : ∀ w ∈ TB, w.before args s = true := fun w h => hts w (List.mem_cons_of_mem _ h)
  have hK := hKK.1
  unfold B_Mo_whole_34 at h
  refine lv_iload_n hx hb d_Mo_whole_34 rfl (lv_at hl 3 rfl) ?_
  refine lv_bipush (v := 8) hx hb d_Mo_whole_35 (by decide) ?_
  refine lv_ishl hx hb d_Mo_whole_37 ?_
  refine lv_aload_n hx hb d_Mo_whole_38 rfl (lv_at hl 0 rfl) ?_
  refine gt_Mo_source hx hb ht hown hK hI (ht _ m_820) d_Mo_whole_39 ?_
  refine lv_aload_n hx hb d_Mo_whole_42 rfl (lv_at hl 0 rfl) ?_
  refine gt_Mo_at hx hb ht hown hK hI (ht _ m_841) d_Mo_whole_43 ?_
  refine lv_iload hx hb d_Mo_whole_46 (lv_at hl 4 rfl) ?_
  refine lv_iadd hx hb d_Mo_whole_48 ?_
  by_cases hc1 : (((Mo_at s0) + x4) < 0 ∨ 240 ≤ ((Mo_at s0) + x4).toNatClampNeg)
  · exact no_s (it_t h hc1)
  have h := it_f h hc1
  refine al_Mo_source hx hb hK hI hc1 d_Mo_whole_49 ?_
  refine lv_ior hx hb d_Mo_whole_50 ?_
  refine lv_istore_n hx hb d_Mo_whole_51 rfl hl (Nat.le_of_ble_eq_true rfl) rfl (fun ls hl => ?_)
  have hl : lv_has ls 5 [(3, .int ((x3 <<< ((8 : Int32) &&& 31)) ||| ((Mo_source s0) ((Mo_at s0) + x4).toNatClampNeg))), (0, .ref (a0 0)), (1, .int x1), (2, .int x2), (4, .int x4)] := hl
  refine lv_iinc (k := 4) (v := (x4 + (-1))) hx hb d_Mo_whole_52 hl rfl (congrArg (fun z => x4 + z) (by decide)) (Nat.le_of_ble_eq_true rfl) rfl (fun ls hl => ?_)
  have hl : lv_has ls 5 [(4, .int (x4 + (-1))), (3, .int ((x3 <<< ((8 : Int32) &&& 31)) ||| ((Mo_source s0) ((Mo_at s0) + x4).toNatClampNeg))), (0, .ref (a0 0)), (1, .int x1), (2, .int x2)] := hl
  refine lv_goto (tgt := 29) hx hb d_Mo_whole_55 (by decide) ?_
  exact hk29 (s0, x1, x2, ((x3 <<< ((8 : Int32) &&& 31)) ||| ((Mo_source s0) ((Mo_at s0) + x4).toNatClampNeg)), (x4 + (-1))) _ _ _ (lv_sub hl [2, 3, 4, 1, 0] rfl) hI hS h
set_option maxRecDepth 100000 in
set_option maxHeartbeats 4000000 in
theorem t_Mo_whole_29 {p : Program} {l : Launch} {e : Env} {s : State} {m : MethodId} {args : Array Value} {below : List Frame} {meth : Method} {c : Code} {D : va_G} {A : Nat → Prop} {g : Nat → ClassId} {rest : va_W} {a0 : Nat → Nat} {ls : Array Slot} {H : Heap} {locs : List Loc} {k29 : S_Mo × Int32 × Int32 × Int32 × Int32 → Option (Int32 × S_Mo)} {s0 : S_Mo} {x1 : Int32} {x2 : Int32} {x3 : Int32} {x4 : Int32} {out : Int32 × S_Mo} (X : Cx p s m args meth c prog_11_method_12_code 5 ws_Mo_whole R_Mo (some .boolean) D g) (hk29 : ∀ (v : S_Mo × Int32 × Int32 × Int32 × Int32) (ls : Array Slot) (H : Heap) (locs : List Loc), lv_has ls 5 [(0, .ref (a0 0)), (1, .int v.2.1), (2, .int v.2.2.1), (3, .int v.2.2.2.1), (4, .int v.2.2.2.2)] → Iw D A (w_Mo g a0 v.1 ++ (rest)) H → va_S A s.heap H locs → k29 v = some out → W p l e (headSpec ws_Mo_whole { frames := 0, cells := 0, slots := 0, locals := 0 }).room s m args below meth c H locs 0 0 (MQ below (QcI D A g out.1 (fun (_ : Unit) => w_Mo g a0 out.2 ++ (rest))) args s 0 0 A) (F0 m 29 ls [])) (hl : lv_has ls 5 [(0, .ref (a0 0)), (1, .int x1), (2, .int x2), (3, .int x3), (4, .int x4)]) (hI : Iw D A (w_Mo g a0 s0 ++ (rest)) H) (hS : va_S A s.heap H locs) (h : B_Mo_whole_29 k29 s0 x1 x2 x3 x4 = some out) : W p l e (headSpec ws_Mo_whole { frames := 0, cells := 0, slots := 0, locals := 0 }).room s m args below meth c H locs 0 0 (MQ below (QcI D A g out.1 (fun (_ : Unit) => w_Mo g a0 out.2 ++ (rest))) args s 0 0 A) (F0 m 29 ls []) := by
  have X1 := X
  obtain ⟨hx, hb, hml, hown, hts, hr, hlocks, hKK⟩ := X1
  have ht : ∀ w ∈ TB, w.before args s = true := fun w h => hts w (List.mem_cons_of_mem _ h)
  have hK := hKK.1
  unfold B_Mo_whole_29 at h
  refine lv_iload hx hb d_Mo_whole_29 (lv_at hl 4 rfl) ?_
  refine lv_if_lt (tgt := 58) hx hb d_Mo_whole_31 (by decide) (fun hc => ?_) (fun hc => ?_)
  · have h := it_t h hc
    exact t_Mo_whole_58 X (lv_sub hl [0, 1, 2, 3] rfl) hI hS h
  · have h := it_f h hc
    exact t_Mo_whole_34 X hk29 (lv_sub hl [0, 1, 2, 3, 4] rfl) hI hS h
set_option maxRecDepth 100000 in
set_option maxHeartbeats 4000000 in
theorem T_Mo_whole_29 {p : Program} {l : Launch} {e : Env} {s : State} {m : MethodId} {args : Array Value} {below : List Frame} {meth : Method} {c : Code} {D : va_G} {A : Nat → Prop} {g : Nat → ClassId} {rest : va_W} {a0 : Nat → Nat} {ls : Array Slot} {H : Heap} {locs : List Loc} {s0 : S_Mo} {x1 : Int32} {x2 : Int32} {x3 : Int32} {x4 : Int32} {out : Int32 × S_Mo} (X : Cx p s m args meth c prog_11_method_12_code 5 ws_Mo_whole R_Mo (some .boolean) D g) (hl : lv_has ls 5 [(0, .ref (a0 0)), (1, .int x1), (2, .int x2), (3, .int x3), (4, .int x4)]) (hI : Iw D A (w_Mo g a0 s0 ++ (rest)) H) (hS : va_S A s.heap H locs) (h : L_Mo_whole_29   (s0, x1, x2, x3, x4) = some out) : W p l e (headSpec ws_Mo_whole { frames := 0, cells := 0, slots := 0, locals := 0 }).room s m args below meth c H locs 0 0 (MQ below (QcI D A g out.1 (fun (_ : Unit) => w_Mo g a0 out.2 ++ (rest))) args s 0 0 A) (F0 m 29 ls []) := by
  unfold L_Mo_whole_29 at h
  exact lp_ind (P := fun v => ∀ (ls : Array Slot) (H : Heap) (locs : List Loc), lv_has ls 5 [(0, .ref (a0 0)), (1, .int v.2.1), (2, .int v.2.2.1), (3, .int v.2.2.2.1), (4, .int v.2.2.2.2)] → Iw D A (w_Mo g a0 v.1 ++ (rest)) H → va_S A s.heap H locs → W p l e (headSpec ws_Mo_whole { frames := 0, cells := 0, slots := 0, locals := 0 }).room s m args below meth c H locs 0 0 (MQ below (QcI D A g out.1 (fun (_ : Unit) => w_Mo g a0 out.2 ++ (rest))) args s 0 0 A) (F0 m 29 ls [])) (fun k v ih hb ls H locs  hl hI hS => t_Mo_whole_29 X  (fun v' ls H locs  hl hI hS h' => ih v' h' ls H locs  hl hI hS) hl hI hS hb) FU _ h ls H locs  hl hI hS
set_option maxRecDepth 100000 in
set_option maxHeartbeats 4000000 in
theorem t_Mo_whole_23 {p : Program} {l : Launch} {e : Env} {s : State} {m : MethodId} {args : Array Value} {below : List Frame} {meth : Method} {c : Code} {D : va_G} {A : Nat → Prop} {g : Nat → ClassId} {rest : va_W} {a0 : Nat → Nat} {ls : Array Slot} {H : Heap} {locs : List Loc} {s0 : S_Mo} {x1 : Int32} {x2 : Int32} {y0 : Int32} {out : Int32 × S_Mo} (X : Cx p s m args meth c prog_11_method_12_code 5 ws_Mo_whole R_Mo (some .boolean) D g) (hl : lv_has ls 5 [(0, .ref (a0 0)), (1, .int x1), (2, .int x2)]) (hI : Iw D A (w_Mo g a0 s0 ++ (rest)) H) (hS : va_S A s.heap H locs) (h : B_Mo_whole_23  s0 x1 x2 y0 = some out) : W p l e (headSpec ws_Mo_whole { frames := 0, cells := 0, slots := 0, locals := 0 }).room s m args below meth c H locs 0 0 (MQ below (QcI D A g out.1 (fun (_ : Unit) => w_Mo g a0 out.2 ++ (rest))) args s 0 0 A) (F0 m 23 ls [.int y0]) := by
  have X1 := X
  obtain ⟨hx, hb, hml, hown, hts, hr, hlocks, hKK⟩ := X1
  have ht : ∀ w ∈ TB, w.before args s = true := fun w h => hts w (List.mem_cons_of_mem _ h)
  have hK := hKK.1
  unfold B_Mo_whole_23 at h
  refine lv_istore_n hx hb d_Mo_whole_23 rfl hl (Nat.le_of_ble_eq_true rfl) rfl (fun ls hl => ?_)
  have hl : lv_has ls 5 [(3, .int y0), (0, .ref (a0 0)), (1, .int x1), (2, .int x2)] := hl
  refine lv_iload_n hx hb d_Mo_whole_24 rfl (lv_at hl 3 rfl) ?_
  refine lv_iconst (v := 1) hx hb d_Mo_whole_25 (by decide) ?_
  refine lv_isub hx hb d_Mo_whole_26 ?_
  refine lv_istore hx hb d_Mo_whole_27 hl (Nat.le_of_ble_eq_true rfl) rfl (fun ls hl => ?_)
  have hl : lv_has ls 5 [(4, .int (x2 - (1 : Int32))), (3, .int y0), (0, .ref (a0 0)), (1, .int x1), (2, .int x2)] := hl
  exact T_Mo_whole_29 X (lv_sub hl [2, 3, 4, 1, 0] rfl) hI hS h
set_option maxRecDepth 100000 in
set_option maxHeartbeats 4000000 in
theorem t_Mo_whole_22 {p : Program} {l : Launch} {e : Env} {s : State} {m : MethodId} {args : Array Value} {below : List Frame} {meth : Method} {c : Code} {D : va_G} {A : Nat → Prop} {g : Nat → ClassId} {rest : va_W} {a0 : Nat → Nat} {ls : Array Slot} {H : Heap} {locs : List Loc} {s0 : S_Mo} {x1 : Int32} {x2 : Int32} {out : Int32 × S_Mo} (X : Cx p s m args meth c prog_11_method_12_code 5 ws_Mo_whole R_Mo (some .boolean) D g) (hl : lv_has ls 5 [(0, .ref (a0 0)), (1, .int x1), (2, .int x2)]) (hI : Iw D A (w_Mo g a0 s0 ++ (rest)) H) (hS : va_S A s.heap H locs) (h : B_Mo_whole_22  s0 x1 x2 = some out) : W p l e (headSpec ws_Mo_whole { frames := 0, cells := 0, slots := 0, locals := 0 }).room s m args below meth c H locs 0 0 (MQ below (QcI D A g out.1 (fun (_ : Unit) => w_Mo g a0 out.2 ++ (rest))) args s 0 0 A) (F0 m 22 ls []) := by
  have X1 := X
  obtain ⟨hx, hb, hml, hown, hts, hr, hlocks, hKK⟩ := X1
  have ht : ∀ w ∈ TB, w.before args s = true := fun w h => hts w (List.mem_cons_of_mem _ h)
  have hK := hKK.1
  unfold B_Mo_whole_22 at h
  refine lv_iconst (v := 0) hx hb d_Mo_whole_22 (by decide) ?_
  exact t_Mo_whole_23 X (lv_sub hl [0, 1, 2] rfl) hI hS h
set_option maxRecDepth 100000 in
set_option maxHeartbeats 4000000 in
theorem t_Mo_whole_18 {p : Program} {l : Launch} {e : Env} {s : State} {m : MethodId} {args : Array Value} {below : List Frame} {meth : Method} {c : Code} {D : va_G} {A : Nat → Prop} {g : Nat → ClassId} {rest : va_W} {a0 : Nat → Nat} {ls : Array Slot} {H : Heap} {locs : List Loc} {s0 : S_Mo} {x1 : Int32} {x2 : Int32} {out : Int32 × S_Mo} (X : Cx p s m args meth c prog_11_method_12_code 5 ws_Mo_whole R_Mo (some .boolean) D g) (hl : lv_has ls 5 [(0, .ref (a0 0)), (1, .int x1), (2, .int x2)]) (hI : Iw D A (w_Mo g a0 s0 ++ (rest)) H) (hS : va_S A s.heap H locs) (h : B_Mo_whole_18  s0 x1 x2 = some out) : W p l e (headSpec ws_Mo_whole { frames := 0, cells := 0, slots := 0, locals := 0 }).room s m args below meth c H locs 0 0 (MQ below (QcI D A g out.1 (fun (_ : Unit) => w_Mo g a0 out.2 ++ (rest))) args s 0 0 A) (F0 m 18 ls []) := by
  have X1 := X
  obtain ⟨hx, hb, hml, hown, hts, hr, hlocks, hKK⟩ := X1
  have ht : ∀ w ∈ TB, w.before args s = true := fun w h => hts w (List.mem_cons_of_mem _ h)
  have hK := hKK.1
  unfold B_Mo_whole_18 at h
  refine lv_iconst (v := (-1)) hx hb d_Mo_whole_18 (by decide) ?_
  refine lv_goto (tgt := 23) hx hb d_Mo_whole_19 (by decide) ?_
  exact t_Mo_whole_23 X (lv_sub hl [0, 1, 2] rfl) hI hS h
set_option maxRecDepth 100000 in
set_option maxHeartbeats 4000000 in
theorem t_Mo_whole_0 {p : Program} {l : Launch} {e : Env} {s : State} {m : MethodId} {args : Array Value} {below : List Frame} {meth : Method} {c : Code} {D : va_G} {A : Nat → Prop} {g : Nat → ClassId} {rest : va_W} {a0 : Nat → Nat} {ls : Array Slot} {H : Heap} {locs : List Loc} {s0 : S_Mo} {x1 : Int32} {x2 : Int32} {out : Int32 × S_Mo} (X : Cx p s m args meth c prog_11_method_12_code 5 ws_Mo_whole R_Mo (some .boolean) D g) (hl : lv_has ls 5 [(0, .ref (a0 0)), (1, .int x1), (2, .int x2)]) (hI : Iw D A (w_Mo g a0 s0 ++ (rest)) H) (hS : va_S A s.heap H locs) (h : B_Mo_whole_0  s0 x1 x2 = some out) : W p l e (headSpec ws_Mo_whole { frames := 0, cells := 0, slots := 0, locals := 0 }).room s m args below meth c H locs 0 0 (MQ below (QcI D A g out.1 (fun (_ : Unit) => w_Mo g a0 out.2 ++ (rest))) args s 0 0 A) (F0 m 0 ls []) := by
  have X1 := X
  obtain ⟨hx, hb, hml, hown, hts, hr, hlocks, hKK⟩ := X1
  have ht : ∀ w ∈ TB, w.before args s = true := fun w h => hts w (List.mem_cons_of_mem _ h)
  have hK := hKK.1
  unfold B_Mo_whole_0 at h
  refine lv_aload_n hx hb d_Mo_whole_0 rfl (lv_at hl 0 rfl) ?_
  refine gt_Mo_source hx hb ht hown hK hI (ht _ m_820) d_Mo_whole_1 ?_
  refine lv_aload_n hx hb d_Mo_whole_4 rfl (lv_at hl 0 rfl) ?_
  refine gt_Mo_at hx hb ht hown hK hI (ht _ m_841) d_Mo_whole_5 ?_
  refine lv_iload_n hx hb d_Mo_whole_8 rfl (lv_at hl 2 rfl) ?_
  refine lv_iadd hx hb d_Mo_whole_9 ?_
  refine lv_iconst (v := 1) hx hb d_Mo_whole_10 (by decide) ?_
  refine lv_isub hx hb d_Mo_whole_11 ?_
  by_cases hc1 : ((((Mo_at s0) + x2) - (1 : Int32)) < 0 ∨ 240 ≤ (((Mo_at s0) + x2) - (1 : Int32)).toNatClampNeg)
  · exact no_s (it_t h hc1)
  have h := it_f h hc1
  refine al_Mo_source hx hb hK hI hc1 d_Mo_whole_12 ?_
  refine lv_bipush (v := 127) hx hb d_Mo_whole_13 (by decide) ?_
  refine lv_icmp_le (tgt := 22) hx hb d_Mo_whole_15 (by decide) (fun hc => ?_) (fun hc => ?_)
  · have h := it_t h hc
    exact t_Mo_whole_22 X (lv_sub hl [0, 1, 2] rfl) hI hS h
  · have h := it_f h hc
    exact t_Mo_whole_18 X (lv_sub hl [0, 1, 2] rfl) hI hS h
set_option maxRecDepth 100000 in
set_option maxHeartbeats 4000000 in
theorem c_Mo_whole {l : Launch} {D : va_G} {A : Nat → Prop} {g : Nat → ClassId} {rest : va_W} {a0 : Nat → Nat} {s0 : S_Mo} {x1 : Int32} {x2 : Int32} {out : Int32 × S_Mo} (h : F_Mo_whole s0 x1 x2 = some out) : Met l y_Mo_whole ws_Mo_whole { frames := 0, cells := 0, slots := 0, locals := 0 } (PcW D A g [.ref (a0 0), .int x1, .int x2] (w_Mo g a0 s0 ++ (rest))) (QcI D A g out.1 (fun (_ : Unit) => w_Mo g a0 out.2 ++ (rest))) 0 0 A := by
  refine Met.ofW (cc := prog_11_method_12_code) (maxL := 5) (ret := (some .boolean)) (by decide) rfl ?_
  intro p e s m args below meth c s₁ B hml hv
  obtain ⟨rfl, hI, hK⟩ := hv
  have hl := lv_entry [.ref (a0 0), .int x1, .int x2] (n := 5) (Nat.le_of_ble_eq_true rfl)
  rw [lg_entry_eq]
  generalize (lg_sl [.ref (a0 0), .int x1, .int x2] ++ List.replicate (5 - (lg_sl [.ref (a0 0), .int x1, .int x2]).length) Slot.unset).toArray = ls at hl ⊢
  have hl : lv_has ls 5 [(0, .ref (a0 0)), (1, .int x1), (2, .int x2)] := hl
  exact t_Mo_whole_0 ⟨B.exec, B.bytes, hml, findClass_of_methodNamed B.named, atoms_spec (ws := ws_Mo_whole) B.pre, B.returns, B.notSynchronized, hK⟩ (lv_sub hl [0, 1, 2] rfl) hI va_S.rf h
def ws_Mo_element : List Cond := .code y_Mo_element prog_11_method_11_code 12 (some .boolean) :: TB
def B_Mo_element_73 (s0 : S_Mo) : Option (Int32 × S_Mo) :=
  ((F_Mo_wrong s0 (2 : Int32) (Mo_at s0)).bind fun o1 => (if o1.1 = 0 ∨ o1.1 = 1 then some (o1.1, o1.2) else none))
def B_Mo_element_378 (s0 : S_Mo) : Option (Int32 × S_Mo) :=
  ((F_Mo_wrong s0 (4 : Int32) (Mo_at s0)).bind fun o1 => (if o1.1 = 0 ∨ o1.1 = 1 then some (o1.1, o1.2) else none))
def B_Mo_element_481 (s0 : S_Mo) (y0 : Int32) : Option (Int32 × S_Mo) :=
  (if y0 = 0 ∨ y0 = 1 then some (y0, s0) else none)
def B_Mo_element_472 (s0 : S_Mo) (x1 : Int32) (x8 : Int32) (x11 : Int32) : Option (Int32 × S_Mo) :=
  ((F_Mo_spelled s0 x1 x11 x8).bind fun o1 => (B_Mo_element_481 o1.2 o1.1))
def B_Mo_element_461 (s0 : S_Mo) (x8 : Int32) (x11 : Int32) : Option (Int32 × S_Mo) :=
  ((F_Mo_whole s0 x11 x8).bind fun o1 => (B_Mo_element_481 o1.2 o1.1))
def B_Mo_element_455 (s0 : S_Mo) (x1 : Int32) (x7 : Int32) (x8 : Int32) (x11 : Int32) : Option (Int32 × S_Mo) :=
  (if x7 = (1 : Int32) then (B_Mo_element_461 s0 x8 x11) else (B_Mo_element_472 s0 x1 x8 x11))
def B_Mo_element_448 (s0 : S_Mo) (x10 : Int32) (y0 : Int32) (y1 : Int32) : Option (Int32 × S_Mo) :=
  ((F_Mo_push s0 y1 y0 x10).bind fun o1 => some ((1 : Int32), o1))
def B_Mo_element_441 (s0 : S_Mo) (x8 : Int32) (x10 : Int32) (y0 : Int32) : Option (Int32 × S_Mo) :=
  (B_Mo_element_448 s0 x10 ((Mo_at s0) + x8) y0)
def B_Mo_element_432 (s0 : S_Mo) (x3 : Int32) (x10 : Int32) (y0 : Int32) : Option (Int32 × S_Mo) :=
  (if (x3 < 0 ∨ 6 ≤ x3.toNatClampNeg) then none else (B_Mo_element_448 s0 x10 ((Mo_end s0) x3.toNatClampNeg) y0))
def B_Mo_element_424 (s0 : S_Mo) (x3 : Int32) (x8 : Int32) (x10 : Int32) (x11 : Int32) : Option (Int32 × S_Mo) :=
  (if x10 = 0 then (B_Mo_element_441 s0 x8 x10 x11) else (B_Mo_element_432 s0 x3 x10 x11))
def B_Mo_element_388 (s0 : S_Mo) (x1 : Int32) (x3 : Int32) (x4 : Int32) (x5 : Int32) (x7 : Int32) (x8 : Int32) (x10 : Int32) : Option (Int32 × S_Mo) :=
  ((F_Mo_add (Mo_set_at s0 ((Mo_at s0) + (1 : Int32))) x1 x7 x4).bind fun o1 => (if (o1.1 < 0 ∨ 260 ≤ o1.1.toNatClampNeg) then none else (if x7 = (3 : Int32) then (B_Mo_element_424 (Mo_set_tag o1.2 (upd (Mo_tag o1.2) o1.1.toNatClampNeg x5)) x3 x8 x10 o1.1) else (B_Mo_element_455 (Mo_set_tag o1.2 (upd (Mo_tag o1.2) o1.1.toNatClampNeg x5)) x1 x7 x8 o1.1))))
def B_Mo_element_360 (s0 : S_Mo) (x1 : Int32) (x3 : Int32) (x4 : Int32) (x5 : Int32) (x7 : Int32) (x8 : Int32) (x10 : Int32) : Option (Int32 × S_Mo) :=
  (if (x3 < 0 ∨ 6 ≤ x3.toNatClampNeg) then none else (if (((Mo_at s0) + (1 : Int32)) + x8) ≤ ((Mo_end s0) x3.toNatClampNeg) then (B_Mo_element_388 s0 x1 x3 x4 x5 x7 x8 x10) else (B_Mo_element_378 s0)))
def B_Mo_element_355 (s0 : S_Mo) (x1 : Int32) (x3 : Int32) (x4 : Int32) (x5 : Int32) (x7 : Int32) (x8 : Int32) (x10 : Int32) : Option (Int32 × S_Mo) :=
  (if x10 = 0 then (B_Mo_element_360 s0 x1 x3 x4 x5 x7 x8 x10) else (B_Mo_element_388 s0 x1 x3 x4 x5 x7 x8 x10))
def B_Mo_element_348 (s0 : S_Mo) (x1 : Int32) (x3 : Int32) (x4 : Int32) (x5 : Int32) (x7 : Int32) (x8 : Int32) (x9 : Int32) (y0 : Int32) : Option (Int32 × S_Mo) :=
  (if x9 = 0 then (B_Mo_element_378 s0) else (B_Mo_element_355 s0 x1 x3 x4 x5 x7 x8 y0))
def B_Mo_element_347 (s0 : S_Mo) (x1 : Int32) (x3 : Int32) (x4 : Int32) (x5 : Int32) (x7 : Int32) (x8 : Int32) (x9 : Int32) : Option (Int32 × S_Mo) :=
  (B_Mo_element_348 s0 x1 x3 x4 x5 x7 x8 x9 (0 : Int32))
def B_Mo_element_343 (s0 : S_Mo) (x1 : Int32) (x3 : Int32) (x4 : Int32) (x5 : Int32) (x7 : Int32) (x8 : Int32) (x9 : Int32) : Option (Int32 × S_Mo) :=
  (B_Mo_element_348 s0 x1 x3 x4 x5 x7 x8 x9 (1 : Int32))
def B_Mo_element_335 (s0 : S_Mo) (x1 : Int32) (x3 : Int32) (x4 : Int32) (x5 : Int32) (x7 : Int32) (x8 : Int32) (x9 : Int32) : Option (Int32 × S_Mo) :=
  (if x8 = (255 : Int32) then (B_Mo_element_343 s0 x1 x3 x4 x5 x7 x8 x9) else (B_Mo_element_347 s0 x1 x3 x4 x5 x7 x8 x9))
def B_Mo_element_327 (s0 : S_Mo) (x1 : Int32) (x3 : Int32) (x4 : Int32) (x5 : Int32) (x7 : Int32) (x8 : Int32) (y0 : Int32) : Option (Int32 × S_Mo) :=
  (if x7 = (3 : Int32) then (B_Mo_element_335 s0 x1 x3 x4 x5 x7 x8 y0) else (B_Mo_element_347 s0 x1 x3 x4 x5 x7 x8 y0))
def B_Mo_element_322 (s0 : S_Mo) (x1 : Int32) (x3 : Int32) (x4 : Int32) (x5 : Int32) (x7 : Int32) (x8 : Int32) : Option (Int32 × S_Mo) :=
  (B_Mo_element_327 s0 x1 x3 x4 x5 x7 x8 (1 : Int32))
def B_Mo_element_326 (s0 : S_Mo) (x1 : Int32) (x3 : Int32) (x4 : Int32) (x5 : Int32) (x7 : Int32) (x8 : Int32) : Option (Int32 × S_Mo) :=
  (B_Mo_element_327 s0 x1 x3 x4 x5 x7 x8 (0 : Int32))
def B_Mo_element_314 (s0 : S_Mo) (x1 : Int32) (x3 : Int32) (x4 : Int32) (x5 : Int32) (x7 : Int32) (x8 : Int32) : Option (Int32 × S_Mo) :=
  (if x8 = (255 : Int32) then (B_Mo_element_322 s0 x1 x3 x4 x5 x7 x8) else (B_Mo_element_326 s0 x1 x3 x4 x5 x7 x8))
def B_Mo_element_306 (s0 : S_Mo) (x1 : Int32) (x3 : Int32) (x4 : Int32) (x5 : Int32) (x7 : Int32) (x8 : Int32) : Option (Int32 × S_Mo) :=
  (if x8 ≤ (240 : Int32) then (B_Mo_element_322 s0 x1 x3 x4 x5 x7 x8) else (B_Mo_element_314 s0 x1 x3 x4 x5 x7 x8))
def B_Mo_element_302 (s0 : S_Mo) (x1 : Int32) (x3 : Int32) (x4 : Int32) (x5 : Int32) (x7 : Int32) (x8 : Int32) : Option (Int32 × S_Mo) :=
  (B_Mo_element_327 s0 x1 x3 x4 x5 x7 x8 (0 : Int32))
def B_Mo_element_298 (s0 : S_Mo) (x1 : Int32) (x3 : Int32) (x4 : Int32) (x5 : Int32) (x7 : Int32) (x8 : Int32) : Option (Int32 × S_Mo) :=
  (B_Mo_element_327 s0 x1 x3 x4 x5 x7 x8 (1 : Int32))
def B_Mo_element_291 (s0 : S_Mo) (x1 : Int32) (x3 : Int32) (x4 : Int32) (x5 : Int32) (x7 : Int32) (x8 : Int32) : Option (Int32 × S_Mo) :=
  (if (x8 - x8 / (2 : Int32) * (2 : Int32)) = 0 then (B_Mo_element_298 s0 x1 x3 x4 x5 x7 x8) else (B_Mo_element_302 s0 x1 x3 x4 x5 x7 x8))
def B_Mo_element_284 (s0 : S_Mo) (x1 : Int32) (x3 : Int32) (x4 : Int32) (x5 : Int32) (x7 : Int32) (x8 : Int32) : Option (Int32 × S_Mo) :=
  (if (16 : Int32) < x8 then (B_Mo_element_302 s0 x1 x3 x4 x5 x7 x8) else (B_Mo_element_291 s0 x1 x3 x4 x5 x7 x8))
def B_Mo_element_278 (s0 : S_Mo) (x1 : Int32) (x3 : Int32) (x4 : Int32) (x5 : Int32) (x7 : Int32) (x8 : Int32) : Option (Int32 × S_Mo) :=
  (if x7 = (2 : Int32) then (B_Mo_element_284 s0 x1 x3 x4 x5 x7 x8) else (B_Mo_element_306 s0 x1 x3 x4 x5 x7 x8))
def B_Mo_element_268 (s0 : S_Mo) (x1 : Int32) (x3 : Int32) (x4 : Int32) (x5 : Int32) (x7 : Int32) (x8 : Int32) : Option (Int32 × S_Mo) :=
  ((F_Mo_in x8 (1 : Int32) (4 : Int32)).bind fun o1 => (B_Mo_element_327 s0 x1 x3 x4 x5 x7 x8 o1))
def B_Mo_element_251 (s0 : S_Mo) (x1 : Int32) (x3 : Int32) (x4 : Int32) (x5 : Int32) (x7 : Int32) : Option (Int32 × S_Mo) :=
  (if ((Mo_at s0) < 0 ∨ 240 ≤ (Mo_at s0).toNatClampNeg) then none else (if x7 = (1 : Int32) then (B_Mo_element_268 s0 x1 x3 x4 x5 x7 ((Mo_source s0) (Mo_at s0).toNatClampNeg)) else (B_Mo_element_278 s0 x1 x3 x4 x5 x7 ((Mo_source s0) (Mo_at s0).toNatClampNeg))))
def B_Mo_element_241 (s0 : S_Mo) : Option (Int32 × S_Mo) :=
  ((F_Mo_wrong s0 (1 : Int32) (Mo_at s0)).bind fun o1 => (if o1.1 = 0 ∨ o1.1 = 1 then some (o1.1, o1.2) else none))
def B_Mo_element_228 (s0 : S_Mo) (x1 : Int32) (x3 : Int32) (x4 : Int32) (x5 : Int32) (x7 : Int32) : Option (Int32 × S_Mo) :=
  (if (x3 < 0 ∨ 6 ≤ x3.toNatClampNeg) then none else (if (Mo_at s0) = ((Mo_end s0) x3.toNatClampNeg) then (B_Mo_element_241 s0) else (B_Mo_element_251 s0 x1 x3 x4 x5 x7)))
def B_Mo_element_218 (s0 : S_Mo) (x1 : Int32) (x3 : Int32) (x4 : Int32) (x5 : Int32) (x7 : Int32) : Option (Int32 × S_Mo) :=
  (B_Mo_element_228 (Mo_set_at s0 ((Mo_at s0) + (1 : Int32))) x1 x3 x4 x5 x7)
def B_Mo_element_208 (s0 : S_Mo) : Option (Int32 × S_Mo) :=
  ((F_Mo_wrong s0 (3 : Int32) (Mo_at s0)).bind fun o1 => (if o1.1 = 0 ∨ o1.1 = 1 then some (o1.1, o1.2) else none))
def B_Mo_element_194 (s0 : S_Mo) (x1 : Int32) (x3 : Int32) (x4 : Int32) (x5 : Int32) (x7 : Int32) : Option (Int32 × S_Mo) :=
  (if ((Mo_at s0) < 0 ∨ 240 ≤ (Mo_at s0).toNatClampNeg) then none else (if ((Mo_source s0) (Mo_at s0).toNatClampNeg) = x7 then (B_Mo_element_218 s0 x1 x3 x4 x5 x7) else (B_Mo_element_208 s0)))
def B_Mo_element_184 (s0 : S_Mo) : Option (Int32 × S_Mo) :=
  ((F_Mo_wrong s0 (1 : Int32) (Mo_at s0)).bind fun o1 => (if o1.1 = 0 ∨ o1.1 = 1 then some (o1.1, o1.2) else none))
def B_Mo_element_171 (s0 : S_Mo) (x1 : Int32) (x3 : Int32) (x4 : Int32) (x5 : Int32) (x7 : Int32) : Option (Int32 × S_Mo) :=
  (if (x3 < 0 ∨ 6 ≤ x3.toNatClampNeg) then none else (if (Mo_at s0) = ((Mo_end s0) x3.toNatClampNeg) then (B_Mo_element_184 s0) else (B_Mo_element_194 s0 x1 x3 x4 x5 x7)))
def B_Mo_element_157 (s0 : S_Mo) (x1 : Int32) (x2 : Int32) (x3 : Int32) (x4 : Int32) (x5 : Int32) (x7 : Int32) : Option (Int32 × S_Mo) :=
  (if x2 = 0 then (B_Mo_element_171 (Mo_set_at s0 ((Mo_at s0) + (1 : Int32))) x1 x3 x4 x5 x7) else (B_Mo_element_228 (Mo_set_at s0 ((Mo_at s0) + (1 : Int32))) x1 x3 x4 x5 x7))
def B_Mo_element_146 (s0 : S_Mo) : Option (Int32 × S_Mo) :=
  ((F_Mo_wrong s0 (8 : Int32) (Mo_at s0)).bind fun o1 => (if o1.1 = 0 ∨ o1.1 = 1 then some (o1.1, o1.2) else none))
def B_Mo_element_138 (s0 : S_Mo) (x1 : Int32) (x2 : Int32) (x3 : Int32) (x4 : Int32) (x5 : Int32) (x7 : Int32) : Option (Int32 × S_Mo) :=
  (if (Mo_depth s0) = (5 : Int32) then (B_Mo_element_146 s0) else (B_Mo_element_157 s0 x1 x2 x3 x4 x5 x7))
def B_Mo_element_130 (s0 : S_Mo) (x1 : Int32) (x2 : Int32) (x3 : Int32) (x4 : Int32) (x5 : Int32) (y0 : Int32) : Option (Int32 × S_Mo) :=
  (if y0 = (3 : Int32) then (B_Mo_element_138 s0 x1 x2 x3 x4 x5 y0) else (B_Mo_element_157 s0 x1 x2 x3 x4 x5 y0))
def B_Mo_element_129 (s0 : S_Mo) (x1 : Int32) (x2 : Int32) (x3 : Int32) (x4 : Int32) (x5 : Int32) : Option (Int32 × S_Mo) :=
  (B_Mo_element_130 s0 x1 x2 x3 x4 x5 (3 : Int32))
def B_Mo_element_125 (s0 : S_Mo) (x1 : Int32) (x2 : Int32) (x3 : Int32) (x4 : Int32) (x5 : Int32) : Option (Int32 × S_Mo) :=
  (B_Mo_element_130 s0 x1 x2 x3 x4 x5 (2 : Int32))
def B_Mo_element_117 (s0 : S_Mo) (x1 : Int32) (x2 : Int32) (x3 : Int32) (x4 : Int32) (x5 : Int32) : Option (Int32 × S_Mo) :=
  (if (160 : Int32) ≤ x5 then (B_Mo_element_129 s0 x1 x2 x3 x4 x5) else (B_Mo_element_125 s0 x1 x2 x3 x4 x5))
def B_Mo_element_113 (s0 : S_Mo) (x1 : Int32) (x2 : Int32) (x3 : Int32) (x4 : Int32) (x5 : Int32) : Option (Int32 × S_Mo) :=
  (B_Mo_element_130 s0 x1 x2 x3 x4 x5 (1 : Int32))
def B_Mo_element_106 (s0 : S_Mo) (x1 : Int32) (x2 : Int32) (x3 : Int32) (x4 : Int32) (x5 : Int32) : Option (Int32 × S_Mo) :=
  (if (80 : Int32) ≤ x5 then (B_Mo_element_117 s0 x1 x2 x3 x4 x5) else (B_Mo_element_113 s0 x1 x2 x3 x4 x5))
def B_Mo_element_95 (s0 : S_Mo) : Option (Int32 × S_Mo) :=
  ((F_Mo_wrong s0 (7 : Int32) (Mo_at s0)).bind fun o1 => (if o1.1 = 0 ∨ o1.1 = 1 then some (o1.1, o1.2) else none))
def B_Mo_element_83 (s0 : S_Mo) (x1 : Int32) (x2 : Int32) (x3 : Int32) (x4 : Int32) (x5 : Int32) : Option (Int32 × S_Mo) :=
  (if (x4 < 0 ∨ 260 ≤ x4.toNatClampNeg) then none else (if ((Mo_many s0) x4.toNatClampNeg) = (10 : Int32) then (B_Mo_element_95 s0) else (B_Mo_element_106 s0 x1 x2 x3 x4 x5)))
def B_Mo_element_66 (s0 : S_Mo) (x1 : Int32) (x2 : Int32) (x3 : Int32) (x4 : Int32) (x5 : Int32) (x6 : Int32) : Option (Int32 × S_Mo) :=
  (if x6 < x5 then (B_Mo_element_83 s0 x1 x2 x3 x4 x5) else (B_Mo_element_73 s0))
def B_Mo_element_52 (s0 : S_Mo) (x1 : Int32) (x2 : Int32) (x3 : Int32) (x4 : Int32) (x5 : Int32) (y0 : Int32) : Option (Int32 × S_Mo) :=
  ((F_Mo_in x5 (1 : Int32) (200 : Int32)).bind fun o1 => (if o1 = 0 then (B_Mo_element_73 s0) else (B_Mo_element_66 s0 x1 x2 x3 x4 x5 y0)))
def B_Mo_element_40 (s0 : S_Mo) (x1 : Int32) (x2 : Int32) (x3 : Int32) (x4 : Int32) (x5 : Int32) : Option (Int32 × S_Mo) :=
  (if (x4 < 0 ∨ 260 ≤ x4.toNatClampNeg) then none else (if (((Mo_last s0) x4.toNatClampNeg) < 0 ∨ 260 ≤ ((Mo_last s0) x4.toNatClampNeg).toNatClampNeg) then none else (B_Mo_element_52 s0 x1 x2 x3 x4 x5 ((Mo_tag s0) ((Mo_last s0) x4.toNatClampNeg).toNatClampNeg))))
def B_Mo_element_36 (s0 : S_Mo) (x1 : Int32) (x2 : Int32) (x3 : Int32) (x4 : Int32) (x5 : Int32) : Option (Int32 × S_Mo) :=
  (B_Mo_element_52 s0 x1 x2 x3 x4 x5 (0 : Int32))
def B_Mo_element_0 (s0 : S_Mo) (x1 : Int32) (x2 : Int32) : Option (Int32 × S_Mo) :=
  (if (((Mo_depth s0) - (1 : Int32)) < 0 ∨ 6 ≤ ((Mo_depth s0) - (1 : Int32)).toNatClampNeg) then none else (if ((Mo_at s0) < 0 ∨ 240 ≤ (Mo_at s0).toNatClampNeg) then none else (if (((Mo_node s0) ((Mo_depth s0) - (1 : Int32)).toNatClampNeg) < 0 ∨ 260 ≤ ((Mo_node s0) ((Mo_depth s0) - (1 : Int32)).toNatClampNeg).toNatClampNeg) then none else (if ((Mo_many s0) ((Mo_node s0) ((Mo_depth s0) - (1 : Int32)).toNatClampNeg).toNatClampNeg) = 0 then (B_Mo_element_36 s0 x1 x2 ((Mo_depth s0) - (1 : Int32)) ((Mo_node s0) ((Mo_depth s0) - (1 : Int32)).toNatClampNeg) ((Mo_source s0) (Mo_at s0).toNatClampNeg)) else (B_Mo_element_40 s0 x1 x2 ((Mo_depth s0) - (1 : Int32)) ((Mo_node s0) ((Mo_depth s0) - (1 : Int32)).toNatClampNeg) ((Mo_source s0) (Mo_at s0).toNatClampNeg))))))
def F_Mo_element (s0 : S_Mo) (x1 : Int32) (x2 : Int32) : Option (Int32 × S_Mo) := B_Mo_element_0 s0 x1 x2
set_option maxRecDepth 100000 in
set_option maxHeartbeats 4000000 in
theorem t_Mo_element_73 {p : Program} {l : Launch} {e : Env} {s : State} {m : MethodId} {args : Array Value} {below : List Frame} {meth : Method} {c : Code} {D : va_G} {A : Nat → Prop} {g : Nat → ClassId} {rest : va_W} {a0 : Nat → Nat} {ls : Array Slot} {H : Heap} {locs : List Loc} {s0 : S_Mo} {out : Int32 × S_Mo} (X : Cx p s m args meth c prog_11_method_11_code 12 ws_Mo_element R_Mo (some .boolean) D g) (hl : lv_has ls 12 [(0, .ref (a0 0))]) (hI : Iw D A (w_Mo g a0 s0 ++ (rest)) H) (hS : va_S A s.heap H locs) (h : B_Mo_element_73  s0 = some out) : W p l e (headSpec ws_Mo_element { frames := 2, cells := 0, slots := 0, locals := 48 }).room s m args below meth c H locs 0 0 (MQ below (QcI D A g out.1 (fun (_ : Unit) => w_Mo g a0 out.2 ++ (rest))) args s 0 0 A) (F0 m 73 ls []) := by
  have X1 := X
  obtain ⟨hx, hb, hml, hown, hts, hr, hlocks, hKK⟩ := X1
  have ht : ∀ w ∈ TB, w.before args s = true := fun w h => hts w (List.mem_cons_of_mem _ h)
  have hK := hKK.1
  unfold B_Mo_element_73 at h
  refine lv_aload_n hx hb d_Mo_element_73 rfl (lv_at hl 0 rfl) ?_
  refine lv_iconst (v := 2) hx hb d_Mo_element_74 (by decide) ?_
  refine lv_aload_n hx hb d_Mo_element_75 rfl (lv_at hl 0 rfl) ?_
  refine gt_Mo_at hx hb ht hown hK hI (ht _ m_841) d_Mo_element_76 ?_
  obtain ⟨o1, ho2, h⟩ := bd_s h
  refine cl_i (W1 := fun (_ : Unit) => w_Mo g a0 o1.2 ++ (rest)) (va_runV (As := [.int (2 : Int32), .int (Mo_at s0)]) (rest := []) ⟨hx, hb, hml, hown, ht⟩ (c_Mo_wrong (l := l) (D := D) (A := A) (g := g) (rest := rest) (a0 := a0) ho2) (cwV 2 ht (gd_V m_1007 m_1009 mp_42 m_11 m_1010) rfl rfl rfl (by decide +kernel) ⟨(Nat.le_of_ble_eq_true rfl), (Nat.le_of_ble_eq_true rfl)⟩) (prV (ci := 9) (q0 := 0) hKK hI (List.Perm.refl _) rfl rfl rfl) rfl rfl hl.1 rfl (lv_room (Nat.le_of_ble_eq_true rfl)) d_Mo_element_79 ⟨(Nat.le_of_ble_eq_true rfl), (Nat.le_of_ble_eq_true rfl)⟩) hS (fun _ => ((List.Perm.refl _)).symm) (fun _ H locs hI hS => ?_)
  have hI : Iw D A (w_Mo g a0 o1.2 ++ (rest)) H := hI
  have hc3 : o1.1 = 0 ∨ o1.1 = 1 := by
    by_cases z : o1.1 = 0 ∨ o1.1 = 1
    · exact z
    · exact no_s (it_f h z)
  have h := it_t h hc3
  have h9 := Option.some.inj h
  subst h9
  exact W.zret (v := o1.1) hx hb hr (by rcases hc3 with z | z <;> rw [z] <;> rfl) (fun t ht hW => ⟨⟨_, (), rfl, rfl, ⟨by rw [ht]; exact hI, hKK.moved hW⟩⟩, hS.F ht⟩) hS.2.2 d_Mo_element_82
set_option maxRecDepth 100000 in
set_option maxHeartbeats 4000000 in
theorem t_Mo_element_378 {p : Program} {l : Launch} {e : Env} {s : State} {m : MethodId} {args : Array Value} {below : List Frame} {meth : Method} {c : Code} {D : va_G} {A : Nat → Prop} {g : Nat → ClassId} {rest : va_W} {a0 : Nat → Nat} {ls : Array Slot} {H : Heap} {locs : List Loc} {s0 : S_Mo} {out : Int32 × S_Mo} (X : Cx p s m args meth c prog_11_method_11_code 12 ws_Mo_element R_Mo (some .boolean) D g) (hl : lv_has ls 12 [(0, .ref (a0 0))]) (hI : Iw D A (w_Mo g a0 s0 ++ (rest)) H) (hS : va_S A s.heap H locs) (h : B_Mo_element_378  s0 = some out) : W p l e (headSpec ws_Mo_element { frames := 2, cells := 0, slots := 0, locals := 48 }).room s m args below meth c H locs 0 0 (MQ below (QcI D A g out.1 (fun (_ : Unit) => w_Mo g a0 out.2 ++ (rest))) args s 0 0 A) (F0 m 378 ls []) := by
  have X1 := X
  obtain ⟨hx, hb, hml, hown, hts, hr, hlocks, hKK⟩ := X1
  have ht : ∀ w ∈ TB, w.before args s = true := fun w h => hts w (List.mem_cons_of_mem _ h)
  have hK := hKK.1
  unfold B_Mo_element_378 at h
  refine lv_aload_n hx hb d_Mo_element_378 rfl (lv_at hl 0 rfl) ?_
  refine lv_iconst (v := 4) hx hb d_Mo_element_379 (by decide) ?_
  refine lv_aload_n hx hb d_Mo_element_380 rfl (lv_at hl 0 rfl) ?_
  refine gt_Mo_at hx hb ht hown hK hI (ht _ m_841) d_Mo_element_381 ?_
  obtain ⟨o1, ho2, h⟩ := bd_s h
  refine cl_i (W1 := fun (_ : Unit) => w_Mo g a0 o1.2 ++ (rest)) (va_runV (As := [.int (4 : Int32), .int (Mo_at s0)]) (rest := []) ⟨hx, hb, hml, hown, ht⟩ (c_Mo_wrong (l := l) (D := D) (A := A) (g := g) (rest := rest) (a0 := a0) ho2) (cwV 2 ht (gd_V m_1007 m_1009 mp_42 m_11 m_1010) rfl rfl rfl (by decide +kernel) ⟨(Nat.le_of_ble_eq_true rfl), (Nat.le_of_ble_eq_true rfl)⟩) (prV (ci := 9) (q0 := 0) hKK hI (List.Perm.refl _) rfl rfl rfl) rfl rfl hl.1 rfl (lv_room (Nat.le_of_ble_eq_true rfl)) d_Mo_element_384 ⟨(Nat.le_of_ble_eq_true rfl), (Nat.le_of_ble_eq_true rfl)⟩) hS (fun _ => ((List.Perm.refl _)).symm) (fun _ H locs hI hS => ?_)
  have hI : Iw D A (w_Mo g a0 o1.2 ++ (rest)) H := hI
  have hc3 : o1.1 = 0 ∨ o1.1 = 1 := by
    by_cases z : o1.1 = 0 ∨ o1.1 = 1
    · exact z
    · exact no_s (it_f h z)
  have h := it_t h hc3
  have h9 := Option.some.inj h
  subst h9
  exact W.zret (v := o1.1) hx hb hr (by rcases hc3 with z | z <;> rw [z] <;> rfl) (fun t ht hW => ⟨⟨_, (), rfl, rfl, ⟨by rw [ht]; exact hI, hKK.moved hW⟩⟩, hS.F ht⟩) hS.2.2 d_Mo_element_387
set_option maxRecDepth 100000 in
set_option maxHeartbeats 4000000 in
theorem t_Mo_element_481 {p : Program} {l : Launch} {e : Env} {s : State} {m : MethodId} {args : Array Value} {below : List Frame} {meth : Method} {c : Code} {D : va_G} {A : Nat → Prop} {g : Nat → ClassId} {rest : va_W} {a0 : Nat → Nat} {ls : Array Slot} {H : Heap} {locs : List Loc} {s0 : S_Mo} {y0 : Int32} {out : Int32 × S_Mo} (X : Cx p s m args meth c prog_11_method_11_code 12 ws_Mo_element R_Mo (some .boolean) D g) (hl : lv_has ls 12 []) (hI : Iw D A (w_Mo g a0 s0 ++ (rest)) H) (hS : va_S A s.heap H locs) (h : B_Mo_element_481  s0 y0 = some out) : W p l e (headSpec ws_Mo_element { frames := 2, cells := 0, slots := 0, locals := 48 }).room s m args below meth c H locs 0 0 (MQ below (QcI D A g out.1 (fun (_ : Unit) => w_Mo g a0 out.2 ++ (rest))) args s 0 0 A) (F0 m 481 ls [.int y0]) := by
  have X1 := X
  obtain ⟨hx, hb, hml, hown, hts, hr, hlocks, hKK⟩ := X1
  have ht : ∀ w ∈ TB, w.before args s = true := fun w h => hts w (List.mem_cons_of_mem _ h)
  have hK := hKK.1
  unfold B_Mo_element_481 at h
  have hc1 : y0 = 0 ∨ y0 = 1 := by
    by_cases z : y0 = 0 ∨ y0 = 1
    · exact z
    · exact no_s (it_f h z)
  have h := it_t h hc1
  have h9 := Option.some.inj h
  subst h9
  exact W.zret (v := y0) hx hb hr (by rcases hc1 with z | z <;> rw [z] <;> rfl) (fun t ht hW => ⟨⟨_, (), rfl, rfl, ⟨by rw [ht]; exact hI, hKK.moved hW⟩⟩, hS.F ht⟩) hS.2.2 d_Mo_element_481
set_option maxRecDepth 100000 in
set_option maxHeartbeats 4000000 in
theorem t_Mo_element_472 {p : Program} {l : Launch} {e : Env} {s : State} {m : MethodId} {args : Array Value} {below : List Frame} {meth : Method} {c : Code} {D : va_G} {A : Nat → Prop} {g : Nat → ClassId} {rest : va_W} {a0 : Nat → Nat} {ls : Array Slot} {H : Heap} {locs : List Loc} {s0 : S_Mo} {x1 : Int32} {x8 : Int32} {x11 : Int32} {out : Int32 × S_Mo} (X : Cx p s m args meth c prog_11_method_11_code 12 ws_Mo_element R_Mo (some .boolean) D g) (hl : lv_has ls 12 [(0, .ref (a0 0)), (1, .int x1), (8, .int x8), (11, .int x11)]) (hI : Iw D A (w_Mo g a0 s0 ++ (rest)) H) (hS : va_S A s.heap H locs) (h : B_Mo_element_472  s0 x1 x8 x11 = some out) : W p l e (headSpec ws_Mo_element { frames := 2, cells := 0, slots := 0, locals := 48 }).room s m args below meth c H locs 0 0 (MQ below (QcI D A g out.1 (fun (_ : Unit) => w_Mo g a0 out.2 ++ (rest))) args s 0 0 A) (F0 m 472 ls []) := by
  have X1 := X
  obtain ⟨hx, hb, hml, hown, hts, hr, hlocks, hKK⟩ := X1
  have ht : ∀ w ∈ TB, w.before args s = true := fun w h => hts w (List.mem_cons_of_mem _ h)
  have hK := hKK.1
  unfold B_Mo_element_472 at h
  refine lv_aload_n hx hb d_Mo_element_472 rfl (lv_at hl 0 rfl) ?_
  refine lv_iload_n hx hb d_Mo_element_473 rfl (lv_at hl 1 rfl) ?_
  refine lv_iload hx hb d_Mo_element_474 (lv_at hl 3 rfl) ?_
  refine lv_iload hx hb d_Mo_element_476 (lv_at hl 2 rfl) ?_
  obtain ⟨o1, ho2, h⟩ := bd_s h
  refine cl_i (W1 := fun (_ : Unit) => w_Mo g a0 o1.2 ++ (rest)) (va_runV (As := [.int x1, .int x11, .int x8]) (rest := []) ⟨hx, hb, hml, hown, ht⟩ (c_Mo_spelled (l := l) (D := D) (A := A) (g := g) (rest := rest) (a0 := a0) ho2) (cwV 3 ht (gd_V m_1019 m_1021 mp_45 m_11 m_1022) rfl rfl rfl (by decide +kernel) ⟨(Nat.le_of_ble_eq_true rfl), (Nat.le_of_ble_eq_true rfl)⟩) (prV (ci := 9) (q0 := 0) hKK hI (List.Perm.refl _) rfl rfl rfl) rfl rfl hl.1 rfl (lv_room (Nat.le_of_ble_eq_true rfl)) d_Mo_element_478 ⟨(Nat.le_of_ble_eq_true rfl), (Nat.le_of_ble_eq_true rfl)⟩) hS (fun _ => ((List.Perm.refl _)).symm) (fun _ H locs hI hS => ?_)
  have hI : Iw D A (w_Mo g a0 o1.2 ++ (rest)) H := hI
  exact t_Mo_element_481 X (lv_sub hl [] rfl) hI hS h
set_option maxRecDepth 100000 in
set_option maxHeartbeats 4000000 in
theorem t_Mo_element_461 {p : Program} {l : Launch} {e : Env} {s : State} {m : MethodId} {args : Array Value} {below : List Frame} {meth : Method} {c : Code} {D : va_G} {A : Nat → Prop} {g : Nat → ClassId} {rest : va_W} {a0 : Nat → Nat} {ls : Array Slot} {H : Heap} {locs : List Loc} {s0 : S_Mo} {x8 : Int32} {x11 : Int32} {out : Int32 × S_Mo} (X : Cx p s m args meth c prog_11_method_11_code 12 ws_Mo_element R_Mo (some .boolean) D g) (hl : lv_has ls 12 [(0, .ref (a0 0)), (8, .int x8), (11, .int x11)]) (hI : Iw D A (w_Mo g a0 s0 ++ (rest)) H) (hS : va_S A s.heap H locs) (h : B_Mo_element_461  s0 x8 x11 = some out) : W p l e (headSpec ws_Mo_element { frames := 2, cells := 0, slots := 0, locals := 48 }).room s m args below meth c H locs 0 0 (MQ below (QcI D A g out.1 (fun (_ : Unit) => w_Mo g a0 out.2 ++ (rest))) args s 0 0 A) (F0 m 461 ls []) := by
  have X1 := X
  obtain ⟨hx, hb, hml, hown, hts, hr, hlocks, hKK⟩ := X1
  have ht : ∀ w ∈ TB, w.before args s = true := fun w h => hts w (List.mem_cons_of_mem _ h)
  have hK := hKK.1
  unfold B_Mo_element_461 at h
  refine lv_aload_n hx hb d_Mo_element_461 rfl (lv_at hl 0 rfl) ?_
  refine lv_iload hx hb d_Mo_element_462 (lv_at hl 2 rfl) ?_
  refine lv_iload hx hb d_Mo_element_464 (lv_at hl 1 rfl) ?_
  obtain ⟨o1, ho2, h⟩ := bd_s h
  refine cl_i (W1 := fun (_ : Unit) => w_Mo g a0 o1.2 ++ (rest)) (va_runV (As := [.int x11, .int x8]) (rest := []) ⟨hx, hb, hml, hown, ht⟩ (c_Mo_whole (l := l) (D := D) (A := A) (g := g) (rest := rest) (a0 := a0) ho2) (cwV 2 ht (gd_V m_1015 m_1017 mp_44 m_11 m_1018) rfl rfl rfl (by decide +kernel) ⟨(Nat.le_of_ble_eq_true rfl), (Nat.le_of_ble_eq_true rfl)⟩) (prV (ci := 9) (q0 := 0) hKK hI (List.Perm.refl _) rfl rfl rfl) rfl rfl hl.1 rfl (lv_room (Nat.le_of_ble_eq_true rfl)) d_Mo_element_466 ⟨(Nat.le_of_ble_eq_true rfl), (Nat.le_of_ble_eq_true rfl)⟩) hS (fun _ => ((List.Perm.refl _)).symm) (fun _ H locs hI hS => ?_)
  have hI : Iw D A (w_Mo g a0 o1.2 ++ (rest)) H := hI
  refine lv_goto (tgt := 481) hx hb d_Mo_element_469 (by decide) ?_
  exact t_Mo_element_481 X (lv_sub hl [] rfl) hI hS h
set_option maxRecDepth 100000 in
set_option maxHeartbeats 4000000 in
theorem t_Mo_element_455 {p : Program} {l : Launch} {e : Env} {s : State} {m : MethodId} {args : Array Value} {below : List Frame} {meth : Method} {c : Code} {D : va_G} {A : Nat → Prop} {g : Nat → ClassId} {rest : va_W} {a0 : Nat → Nat} {ls : Array Slot} {H : Heap} {locs : List Loc} {s0 : S_Mo} {x1 : Int32} {x7 : Int32} {x8 : Int32} {x11 : Int32} {out : Int32 × S_Mo} (X : Cx p s m args meth c prog_11_method_11_code 12 ws_Mo_element R_Mo (some .boolean) D g) (hl : lv_has ls 12 [(0, .ref (a0 0)), (1, .int x1), (7, .int x7), (8, .int x8), (11, .int x11)]) (hI : Iw D A (w_Mo g a0 s0 ++ (rest)) H) (hS : va_S A s.heap H locs) (h : B_Mo_element_455  s0 x1 x7 x8 x11 = some out) : W p l e (headSpec ws_Mo_element { frames := 2, cells := 0, slots := 0, locals := 48 }).room s m args below meth c H locs 0 0 (MQ below (QcI D A g out.1 (fun (_ : Unit) => w_Mo g a0 out.2 ++ (rest))) args s 0 0 A) (F0 m 455 ls []) := by
  have X1 := X
  obtain ⟨hx, hb, hml, hown, hts, hr, hlocks, hKK⟩ := X1
  have ht : ∀ w ∈ TB, w.before args s = true := fun w h => hts w (List.mem_cons_of_mem _ h)
  have hK := hKK.1
  unfold B_Mo_element_455 at h
  refine lv_iload hx hb d_Mo_element_455 (lv_at hl 2 rfl) ?_
  refine lv_iconst (v := 1) hx hb d_Mo_element_457 (by decide) ?_
  refine lv_icmp_ne (tgt := 472) hx hb d_Mo_element_458 (by decide) (fun hc => ?_) (fun hc => ?_)
  · have h := it_f h hc
    exact t_Mo_element_472 X (lv_sub hl [0, 1, 3, 4] rfl) hI hS h
  · have h := it_t h hc
    exact t_Mo_element_461 X (lv_sub hl [0, 3, 4] rfl) hI hS h
set_option maxRecDepth 100000 in
set_option maxHeartbeats 4000000 in
theorem t_Mo_element_448 {p : Program} {l : Launch} {e : Env} {s : State} {m : MethodId} {args : Array Value} {below : List Frame} {meth : Method} {c : Code} {D : va_G} {A : Nat → Prop} {g : Nat → ClassId} {rest : va_W} {a0 : Nat → Nat} {ls : Array Slot} {H : Heap} {locs : List Loc} {s0 : S_Mo} {x10 : Int32} {y0 : Int32} {y1 : Int32} {out : Int32 × S_Mo} (X : Cx p s m args meth c prog_11_method_11_code 12 ws_Mo_element R_Mo (some .boolean) D g) (hl : lv_has ls 12 [(10, .int x10)]) (hI : Iw D A (w_Mo g a0 s0 ++ (rest)) H) (hS : va_S A s.heap H locs) (h : B_Mo_element_448  s0 x10 y0 y1 = some out) : W p l e (headSpec ws_Mo_element { frames := 2, cells := 0, slots := 0, locals := 48 }).room s m args below meth c H locs 0 0 (MQ below (QcI D A g out.1 (fun (_ : Unit) => w_Mo g a0 out.2 ++ (rest))) args s 0 0 A) (F0 m 448 ls [.int y0, .int y1, .ref (a0 0)]) := by
  have X1 := X
  obtain ⟨hx, hb, hml, hown, hts, hr, hlocks, hKK⟩ := X1
  have ht : ∀ w ∈ TB, w.before args s = true := fun w h => hts w (List.mem_cons_of_mem _ h)
  have hK := hKK.1
  unfold B_Mo_element_448 at h
  refine lv_iload hx hb d_Mo_element_448 (lv_at hl 0 rfl) ?_
  obtain ⟨o1, ho2, h⟩ := bd_s h
  refine cl_v (W1 := fun (_ : Unit) => w_Mo g a0 o1 ++ (rest)) (va_runV (As := [.int y1, .int y0, .int x10]) (rest := []) ⟨hx, hb, hml, hown, ht⟩ (c_Mo_push (l := l) (D := D) (A := A) (g := g) (rest := rest) (a0 := a0) ho2) (cwV 3 ht (gd_V m_999 m_1001 mp_40 m_11 m_1002) rfl rfl rfl (by decide +kernel) ⟨(Nat.le_of_ble_eq_true rfl), (Nat.le_of_ble_eq_true rfl)⟩) (prV (ci := 9) (q0 := 0) hKK hI (List.Perm.refl _) rfl rfl rfl) rfl rfl hl.1 rfl (lv_room (Nat.le_of_ble_eq_true rfl)) d_Mo_element_450 ⟨(Nat.le_of_ble_eq_true rfl), (Nat.le_of_ble_eq_true rfl)⟩) hS (fun _ => ((List.Perm.refl _)).symm) (fun _ H locs hI hS => ?_)
  have hI : Iw D A (w_Mo g a0 o1 ++ (rest)) H := hI
  refine lv_iconst (v := 1) hx hb d_Mo_element_453 (by decide) ?_
  have h9 := Option.some.inj h
  subst h9
  exact W.zret (v := (1 : Int32)) hx hb hr rfl (fun t ht hW => ⟨⟨_, (), rfl, rfl, ⟨by rw [ht]; exact hI, hKK.moved hW⟩⟩, hS.F ht⟩) hS.2.2 d_Mo_element_454
set_option maxRecDepth 100000 in
set_option maxHeartbeats 4000000 in
theorem t_Mo_element_441 {p : Program} {l : Launch} {e : Env} {s : State} {m : MethodId} {args : Array Value} {below : List Frame} {meth : Method} {c : Code} {D : va_G} {A : Nat → Prop} {g : Nat → ClassId} {rest : va_W} {a0 : Nat → Nat} {ls : Array Slot} {H : Heap} {locs : List Loc} {s0 : S_Mo} {x8 : Int32} {x10 : Int32} {y0 : Int32} {out : Int32 × S_Mo} (X : Cx p s m args meth c prog_11_method_11_code 12 ws_Mo_element R_Mo (some .boolean) D g) (hl : lv_has ls 12 [(0, .ref (a0 0)), (8, .int x8), (10, .int x10)]) (hI : Iw D A (w_Mo g a0 s0 ++ (rest)) H) (hS : va_S A s.heap H locs) (h : B_Mo_element_441  s0 x8 x10 y0 = some out) : W p l e (headSpec ws_Mo_element { frames := 2, cells := 0, slots := 0, locals := 48 }).room s m args below meth c H locs 0 0 (MQ below (QcI D A g out.1 (fun (_ : Unit) => w_Mo g a0 out.2 ++ (rest))) args s 0 0 A) (F0 m 441 ls [.int y0, .ref (a0 0)]) := by
  have X1 := X
  obtain ⟨hx, hb, hml, hown, hts, hr, hlocks, hKK⟩ := X1
  have ht : ∀ w ∈ TB, w.before args s = true := fun w h => hts w (List.mem_cons_of_mem _ h)
  have hK := hKK.1
  unfold B_Mo_element_441 at h
  refine lv_aload_n hx hb d_Mo_element_441 rfl (lv_at hl 0 rfl) ?_
  refine gt_Mo_at hx hb ht hown hK hI (ht _ m_841) d_Mo_element_442 ?_
  refine lv_iload hx hb d_Mo_element_445 (lv_at hl 1 rfl) ?_
  refine lv_iadd hx hb d_Mo_element_447 ?_
  exact t_Mo_element_448 X (lv_sub hl [2] rfl) hI hS h
set_option maxRecDepth 100000 in
set_option maxHeartbeats 4000000 in
theorem t_Mo_element_432 {p : Program} {l : Launch} {e : Env} {s : State} {m : MethodId} {args : Array Value} {below : List Frame} {meth : Method} {c : Code} {D : va_G} {A : Nat → Prop} {g : Nat → ClassId} {rest : va_W} {a0 : Nat → Nat} {ls : Array Slot} {H : Heap} {locs : List Loc} {s0 : S_Mo} {x3 : Int32} {x10 : Int32} {y0 : Int32} {out : Int32 × S_Mo} (X : Cx p s m args meth c prog_11_method_11_code 12 ws_Mo_element R_Mo (some .boolean) D g) (hl : lv_has ls 12 [(0, .ref (a0 0)), (3, .int x3), (10, .int x10)]) (hI : Iw D A (w_Mo g a0 s0 ++ (rest)) H) (hS : va_S A s.heap H locs) (h : B_Mo_element_432  s0 x3 x10 y0 = some out) : W p l e (headSpec ws_Mo_element { frames := 2, cells := 0, slots := 0, locals := 48 }).room s m args below meth c H locs 0 0 (MQ below (QcI D A g out.1 (fun (_ : Unit) => w_Mo g a0 out.2 ++ (rest))) args s 0 0 A) (F0 m 432 ls [.int y0, .ref (a0 0)]) := by
  have X1 := X
  obtain ⟨hx, hb, hml, hown, hts, hr, hlocks, hKK⟩ := X1
  have ht : ∀ w ∈ TB, w.before args s = true := fun w h => hts w (List.mem_cons_of_mem _ h)
  have hK := hKK.1
  unfold B_Mo_element_432 at h
  refine lv_aload_n hx hb d_Mo_element_432 rfl (lv_at hl 0 rfl) ?_
  refine gt_Mo_end hx hb ht hown hK hI (ht _ m_839) d_Mo_element_433 ?_
  refine lv_iload_n hx hb d_Mo_element_436 rfl (lv_at hl 1 rfl) ?_
  by_cases hc1 : (x3 < 0 ∨ 6 ≤ x3.toNatClampNeg)
  · exact no_s (it_t h hc1)
  have h := it_f h hc1
  refine al_Mo_end hx hb hK hI hc1 d_Mo_element_437 ?_
  refine lv_goto (tgt := 448) hx hb d_Mo_element_438 (by decide) ?_
  exact t_Mo_element_448 X (lv_sub hl [2] rfl) hI hS h
set_option maxRecDepth 100000 in
set_option maxHeartbeats 4000000 in
theorem t_Mo_element_424 {p : Program} {l : Launch} {e : Env} {s : State} {m : MethodId} {args : Array Value} {below : List Frame} {meth : Method} {c : Code} {D : va_G} {A : Nat → Prop} {g : Nat → ClassId} {rest : va_W} {a0 : Nat → Nat} {ls : Array Slot} {H : Heap} {locs : List Loc} {s0 : S_Mo} {x3 : Int32} {x8 : Int32} {x10 : Int32} {x11 : Int32} {out : Int32 × S_Mo} (X : Cx p s m args meth c prog_11_method_11_code 12 ws_Mo_element R_Mo (some .boolean) D g) (hl : lv_has ls 12 [(0, .ref (a0 0)), (3, .int x3), (8, .int x8), (10, .int x10), (11, .int x11)]) (hI : Iw D A (w_Mo g a0 s0 ++ (rest)) H) (hS : va_S A s.heap H locs) (h : B_Mo_element_424  s0 x3 x8 x10 x11 = some out) : W p l e (headSpec ws_Mo_element { frames := 2, cells := 0, slots := 0, locals := 48 }).room s m args below meth c H locs 0 0 (MQ below (QcI D A g out.1 (fun (_ : Unit) => w_Mo g a0 out.2 ++ (rest))) args s 0 0 A) (F0 m 424 ls []) := by
  have X1 := X
  obtain ⟨hx, hb, hml, hown, hts, hr, hlocks, hKK⟩ := X1
  have ht : ∀ w ∈ TB, w.before args s = true := fun w h => hts w (List.mem_cons_of_mem _ h)
  have hK := hKK.1
  unfold B_Mo_element_424 at h
  refine lv_aload_n hx hb d_Mo_element_424 rfl (lv_at hl 0 rfl) ?_
  refine lv_iload hx hb d_Mo_element_425 (lv_at hl 4 rfl) ?_
  refine lv_iload hx hb d_Mo_element_427 (lv_at hl 3 rfl) ?_
  refine lv_if_eq (tgt := 441) hx hb d_Mo_element_429 (by decide) (fun hc => ?_) (fun hc => ?_)
  · have h := it_t h hc
    exact t_Mo_element_441 X (lv_sub hl [0, 2, 3] rfl) hI hS h
  · have h := it_f h hc
    exact t_Mo_element_432 X (lv_sub hl [0, 1, 3] rfl) hI hS h
set_option maxRecDepth 100000 in
set_option maxHeartbeats 4000000 in
theorem t_Mo_element_388 {p : Program} {l : Launch} {e : Env} {s : State} {m : MethodId} {args : Array Value} {below : List Frame} {meth : Method} {c : Code} {D : va_G} {A : Nat → Prop} {g : Nat → ClassId} {rest : va_W} {a0 : Nat → Nat} {ls : Array Slot} {H : Heap} {locs : List Loc} {s0 : S_Mo} {x1 : Int32} {x3 : Int32} {x4 : Int32} {x5 : Int32} {x7 : Int32} {x8 : Int32} {x10 : Int32} {out : Int32 × S_Mo} (X : Cx p s m args meth c prog_11_method_11_code 12 ws_Mo_element R_Mo (some .boolean) D g) (hl : lv_has ls 12 [(0, .ref (a0 0)), (1, .int x1), (3, .int x3), (4, .int x4), (5, .int x5), (7, .int x7), (8, .int x8), (10, .int x10)]) (hI : Iw D A (w_Mo g a0 s0 ++ (rest)) H) (hS : va_S A s.heap H locs) (h : B_Mo_element_388  s0 x1 x3 x4 x5 x7 x8 x10 = some out) : W p l e (headSpec ws_Mo_element { frames := 2, cells := 0, slots := 0, locals := 48 }).room s m args below meth c H locs 0 0 (MQ below (QcI D A g out.1 (fun (_ : Unit) => w_Mo g a0 out.2 ++ (rest))) args s 0 0 A) (F0 m 388 ls []) := by
  have X1 := X
  obtain ⟨hx, hb, hml, hown, hts, hr, hlocks, hKK⟩ := X1
  have ht : ∀ w ∈ TB, w.before args s = true := fun w h => hts w (List.mem_cons_of_mem _ h)
  have hK := hKK.1
  unfold B_Mo_element_388 at h
  refine lv_aload_n hx hb d_Mo_element_388 rfl (lv_at hl 0 rfl) ?_
  refine lv_dup hx hb d_Mo_element_389 rfl ?_
  refine gt_Mo_at hx hb ht hown hK hI (ht _ m_841) d_Mo_element_390 ?_
  refine lv_iconst (v := 1) hx hb d_Mo_element_393 (by decide) ?_
  refine lv_iadd hx hb d_Mo_element_394 ?_
  refine pt_Mo_at hx hb ht hown hK hI hS (ht _ m_841) d_Mo_element_395 (fun H locs hI hS => ?_)
  refine lv_aload_n hx hb d_Mo_element_398 rfl (lv_at hl 0 rfl) ?_
  refine lv_iload_n hx hb d_Mo_element_399 rfl (lv_at hl 1 rfl) ?_
  refine lv_iload hx hb d_Mo_element_400 (lv_at hl 5 rfl) ?_
  refine lv_iload hx hb d_Mo_element_402 (lv_at hl 3 rfl) ?_
  obtain ⟨o1, ho2, h⟩ := bd_s h
  refine cl_i (W1 := fun (_ : Unit) => w_Mo g a0 o1.2 ++ (rest)) (va_runV (As := [.int x1, .int x7, .int x4]) (rest := []) ⟨hx, hb, hml, hown, ht⟩ (c_Mo_add (l := l) (D := D) (A := A) (g := g) (rest := rest) (a0 := a0) ho2) (cwV 3 ht (gd_V m_995 m_997 mp_39 m_11 m_998) rfl rfl rfl (by decide +kernel) ⟨(Nat.le_of_ble_eq_true rfl), (Nat.le_of_ble_eq_true rfl)⟩) (prV (ci := 9) (q0 := 0) hKK hI (List.Perm.refl _) rfl rfl rfl) rfl rfl hl.1 rfl (lv_room (Nat.le_of_ble_eq_true rfl)) d_Mo_element_404 ⟨(Nat.le_of_ble_eq_true rfl), (Nat.le_of_ble_eq_true rfl)⟩) hS (fun _ => ((List.Perm.refl _)).symm) (fun _ H locs hI hS => ?_)
  have hI : Iw D A (w_Mo g a0 o1.2 ++ (rest)) H := hI
  refine lv_istore hx hb d_Mo_element_407 hl (Nat.le_of_ble_eq_true rfl) rfl (fun ls hl => ?_)
  have hl : lv_has ls 12 [(11, .int o1.1), (0, .ref (a0 0)), (1, .int x1), (3, .int x3), (4, .int x4), (5, .int x5), (7, .int x7), (8, .int x8), (10, .int x10)] := hl
  refine lv_aload_n hx hb d_Mo_element_409 rfl (lv_at hl 1 rfl) ?_
  refine gt_Mo_tag hx hb ht hown hK hI (ht _ m_824) d_Mo_element_410 ?_
  refine lv_iload hx hb d_Mo_element_413 (lv_at hl 0 rfl) ?_
  refine lv_iload hx hb d_Mo_element_415 (lv_at hl 5 rfl) ?_
  by_cases hc3 : (o1.1 < 0 ∨ 260 ≤ o1.1.toNatClampNeg)
  · exact no_s (it_t h hc3)
  have h := it_f h hc3
  refine as_Mo_tag hx hb hK hI hS hc3 d_Mo_element_417 (fun H locs hI hS => ?_)
  refine lv_iload hx hb d_Mo_element_418 (lv_at hl 6 rfl) ?_
  refine lv_iconst (v := 3) hx hb d_Mo_element_420 (by decide) ?_
  refine lv_icmp_ne (tgt := 455) hx hb d_Mo_element_421 (by decide) (fun hc => ?_) (fun hc => ?_)
  · have h := it_f h hc
    exact t_Mo_element_455 X (lv_sub hl [1, 2, 6, 7, 0] rfl) hI hS h
  · have h := it_t h hc
    exact t_Mo_element_424 X (lv_sub hl [1, 3, 7, 8, 0] rfl) hI hS h
set_option maxRecDepth 100000 in
set_option maxHeartbeats 4000000 in
theorem t_Mo_element_360 {p : Program} {l : Launch} {e : Env} {s : State} {m : MethodId} {args : Array Value} {below : List Frame} {meth : Method} {c : Code} {D : va_G} {A : Nat → Prop} {g : Nat → ClassId} {rest : va_W} {a0 : Nat → Nat} {ls : Array Slot} {H : Heap} {locs : List Loc} {s0 : S_Mo} {x1 : Int32} {x3 : Int32} {x4 : Int32} {x5 : Int32} {x7 : Int32} {x8 : Int32} {x10 : Int32} {out : Int32 × S_Mo} (X : Cx p s m args meth c prog_11_method_11_code 12 ws_Mo_element R_Mo (some .boolean) D g) (hl : lv_has ls 12 [(0, .ref (a0 0)), (1, .int x1), (3, .int x3), (4, .int x4), (5, .int x5), (7, .int x7), (8, .int x8), (10, .int x10)]) (hI : Iw D A (w_Mo g a0 s0 ++ (rest)) H) (hS : va_S A s.heap H locs) (h : B_Mo_element_360  s0 x1 x3 x4 x5 x7 x8 x10 = some out) : W p l e (headSpec ws_Mo_element { frames := 2, cells := 0, slots := 0, locals := 48 }).room s m args below meth c H locs 0 0 (MQ below (QcI D A g out.1 (fun (_ : Unit) => w_Mo g a0 out.2 ++ (rest))) args s 0 0 A) (F0 m 360 ls []) := by
  have X1 := X
  obtain ⟨hx, hb, hml, hown, hts, hr, hlocks, hKK⟩ := X1
  have ht : ∀ w ∈ TB, w.before args s = true := fun w h => hts w (List.mem_cons_of_mem _ h)
  have hK := hKK.1
  unfold B_Mo_element_360 at h
  refine lv_aload_n hx hb d_Mo_element_360 rfl (lv_at hl 0 rfl) ?_
  refine gt_Mo_at hx hb ht hown hK hI (ht _ m_841) d_Mo_element_361 ?_
  refine lv_iconst (v := 1) hx hb d_Mo_element_364 (by decide) ?_
  refine lv_iadd hx hb d_Mo_element_365 ?_
  refine lv_iload hx hb d_Mo_element_366 (lv_at hl 6 rfl) ?_
  refine lv_iadd hx hb d_Mo_element_368 ?_
  refine lv_aload_n hx hb d_Mo_element_369 rfl (lv_at hl 0 rfl) ?_
  refine gt_Mo_end hx hb ht hown hK hI (ht _ m_839) d_Mo_element_370 ?_
  refine lv_iload_n hx hb d_Mo_element_373 rfl (lv_at hl 2 rfl) ?_
  by_cases hc1 : (x3 < 0 ∨ 6 ≤ x3.toNatClampNeg)
  · exact no_s (it_t h hc1)
  have h := it_f h hc1
  refine al_Mo_end hx hb hK hI hc1 d_Mo_element_374 ?_
  refine lv_icmp_le (tgt := 388) hx hb d_Mo_element_375 (by decide) (fun hc => ?_) (fun hc => ?_)
  · have h := it_t h hc
    exact t_Mo_element_388 X (lv_sub hl [0, 1, 2, 3, 4, 5, 6, 7] rfl) hI hS h
  · have h := it_f h hc
    exact t_Mo_element_378 X (lv_sub hl [0] rfl) hI hS h
set_option maxRecDepth 100000 in
set_option maxHeartbeats 4000000 in
theorem t_Mo_element_355 {p : Program} {l : Launch} {e : Env} {s : State} {m : MethodId} {args : Array Value} {below : List Frame} {meth : Method} {c : Code} {D : va_G} {A : Nat → Prop} {g : Nat → ClassId} {rest : va_W} {a0 : Nat → Nat} {ls : Array Slot} {H : Heap} {locs : List Loc} {s0 : S_Mo} {x1 : Int32} {x3 : Int32} {x4 : Int32} {x5 : Int32} {x7 : Int32} {x8 : Int32} {x10 : Int32} {out : Int32 × S_Mo} (X : Cx p s m args meth c prog_11_method_11_code 12 ws_Mo_element R_Mo (some .boolean) D g) (hl : lv_has ls 12 [(0, .ref (a0 0)), (1, .int x1), (3, .int x3), (4, .int x4), (5, .int x5), (7, .int x7), (8, .int x8), (10, .int x10)]) (hI : Iw D A (w_Mo g a0 s0 ++ (rest)) H) (hS : va_S A s.heap H locs) (h : B_Mo_element_355  s0 x1 x3 x4 x5 x7 x8 x10 = some out) : W p l e (headSpec ws_Mo_element { frames := 2, cells := 0, slots := 0, locals := 48 }).room s m args below meth c H locs 0 0 (MQ below (QcI D A g out.1 (fun (_ : Unit) => w_Mo g a0 out.2 ++ (rest))) args s 0 0 A) (F0 m 355 ls []) := by
  have X1 := X
  obtain ⟨hx, hb, hml, hown, hts, hr, hlocks, hKK⟩ := X1
  have ht : ∀ w ∈ TB, w.before args s = true := fun w h => hts w (List.mem_cons_of_mem _ h)
  have hK := hKK.1
  unfold B_Mo_element_355 at h
  refine lv_iload hx hb d_Mo_element_355 (lv_at hl 7 rfl) ?_
  refine lv_if_ne (tgt := 388) hx hb d_Mo_element_357 (by decide) (fun hc => ?_) (fun hc => ?_)
  · have h := it_f h hc
    exact t_Mo_element_388 X (lv_sub hl [0, 1, 2, 3, 4, 5, 6, 7] rfl) hI hS h
  · have h := it_t h hc
    exact t_Mo_element_360 X (lv_sub hl [0, 1, 2, 3, 4, 5, 6, 7] rfl) hI hS h
set_option maxRecDepth 100000 in
set_option maxHeartbeats 4000000 in
theorem t_Mo_element_348 {p : Program} {l : Launch} {e : Env} {s : State} {m : MethodId} {args : Array Value} {below : List Frame} {meth : Method} {c : Code} {D : va_G} {A : Nat → Prop} {g : Nat → ClassId} {rest : va_W} {a0 : Nat → Nat} {ls : Array Slot} {H : Heap} {locs : List Loc} {s0 : S_Mo} {x1 : Int32} {x3 : Int32} {x4 : Int32} {x5 : Int32} {x7 : Int32} {x8 : Int32} {x9 : Int32} {y0 : Int32} {out : Int32 × S_Mo} (X : Cx p s m args meth c prog_11_method_11_code 12 ws_Mo_element R_Mo (some .boolean) D g) (hl : lv_has ls 12 [(0, .ref (a0 0)), (1, .int x1), (3, .int x3), (4, .int x4), (5, .int x5), (7, .int x7), (8, .int x8), (9, .int x9)]) (hI : Iw D A (w_Mo g a0 s0 ++ (rest)) H) (hS : va_S A s.heap H locs) (h : B_Mo_element_348  s0 x1 x3 x4 x5 x7 x8 x9 y0 = some out) : W p l e (headSpec ws_Mo_element { frames := 2, cells := 0, slots := 0, locals := 48 }).room s m args below meth c H locs 0 0 (MQ below (QcI D A g out.1 (fun (_ : Unit) => w_Mo g a0 out.2 ++ (rest))) args s 0 0 A) (F0 m 348 ls [.int y0]) := by
  have X1 := X
  obtain ⟨hx, hb, hml, hown, hts, hr, hlocks, hKK⟩ := X1
  have ht : ∀ w ∈ TB, w.before args s = true := fun w h => hts w (List.mem_cons_of_mem _ h)
  have hK := hKK.1
  unfold B_Mo_element_348 at h
  refine lv_istore hx hb d_Mo_element_348 hl (Nat.le_of_ble_eq_true rfl) rfl (fun ls hl => ?_)
  have hl : lv_has ls 12 [(10, .int y0), (0, .ref (a0 0)), (1, .int x1), (3, .int x3), (4, .int x4), (5, .int x5), (7, .int x7), (8, .int x8), (9, .int x9)] := hl
  refine lv_iload hx hb d_Mo_element_350 (lv_at hl 8 rfl) ?_
  refine lv_if_eq (tgt := 378) hx hb d_Mo_element_352 (by decide) (fun hc => ?_) (fun hc => ?_)
  · have h := it_t h hc
    exact t_Mo_element_378 X (lv_sub hl [1] rfl) hI hS h
  · have h := it_f h hc
    exact t_Mo_element_355 X (lv_sub hl [1, 2, 3, 4, 5, 6, 7, 0] rfl) hI hS h
set_option maxRecDepth 100000 in
set_option maxHeartbeats 4000000 in
theorem t_Mo_element_347 {p : Program} {l : Launch} {e : Env} {s : State} {m : MethodId} {args : Array Value} {below : List Frame} {meth : Method} {c : Code} {D : va_G} {A : Nat → Prop} {g : Nat → ClassId} {rest : va_W} {a0 : Nat → Nat} {ls : Array Slot} {H : Heap} {locs : List Loc} {s0 : S_Mo} {x1 : Int32} {x3 : Int32} {x4 : Int32} {x5 : Int32} {x7 : Int32} {x8 : Int32} {x9 : Int32} {out : Int32 × S_Mo} (X : Cx p s m args meth c prog_11_method_11_code 12 ws_Mo_element R_Mo (some .boolean) D g) (hl : lv_has ls 12 [(0, .ref (a0 0)), (1, .int x1), (3, .int x3), (4, .int x4), (5, .int x5), (7, .int x7), (8, .int x8), (9, .int x9)]) (hI : Iw D A (w_Mo g a0 s0 ++ (rest)) H) (hS : va_S A s.heap H locs) (h : B_Mo_element_347  s0 x1 x3 x4 x5 x7 x8 x9 = some out) : W p l e (headSpec ws_Mo_element { frames := 2, cells := 0, slots := 0, locals := 48 }).room s m args below meth c H locs 0 0 (MQ below (QcI D A g out.1 (fun (_ : Unit) => w_Mo g a0 out.2 ++ (rest))) args s 0 0 A) (F0 m 347 ls []) := by
  have X1 := X
  obtain ⟨hx, hb, hml, hown, hts, hr, hlocks, hKK⟩ := X1
  have ht : ∀ w ∈ TB, w.before args s = true := fun w h => hts w (List.mem_cons_of_mem _ h)
  have hK := hKK.1
  unfold B_Mo_element_347 at h
  refine lv_iconst (v := 0) hx hb d_Mo_element_347 (by decide) ?_
  exact t_Mo_element_348 X (lv_sub hl [0, 1, 2, 3, 4, 5, 6, 7] rfl) hI hS h
set_option maxRecDepth 100000 in
set_option maxHeartbeats 4000000 in
theorem t_Mo_element_343 {p : Program} {l : Launch} {e : Env} {s : State} {m : MethodId} {args : Array Value} {below : List Frame} {meth : Method} {c : Code} {D : va_G} {A : Nat → Prop} {g : Nat → ClassId} {rest : va_W} {a0 : Nat → Nat} {ls : Array Slot} {H : Heap} {locs : List Loc} {s0 : S_Mo} {x1 : Int32} {x3 : Int32} {x4 : Int32} {x5 : Int32} {x7 : Int32} {x8 : Int32} {x9 : Int32} {out : Int32 × S_Mo} (X : Cx p s m args meth c prog_11_method_11_code 12 ws_Mo_element R_Mo (some .boolean) D g) (hl : lv_has ls 12 [(0, .ref (a0 0)), (1, .int x1), (3, .int x3), (4, .int x4), (5, .int x5), (7, .int x7), (8, .int x8), (9, .int x9)]) (hI : Iw D A (w_Mo g a0 s0 ++ (rest)) H) (hS : va_S A s.heap H locs) (h : B_Mo_element_343  s0 x1 x3 x4 x5 x7 x8 x9 = some out) : W p l e (headSpec ws_Mo_element { frames := 2, cells := 0, slots := 0, locals := 48 }).room s m args below meth c H locs 0 0 (MQ below (QcI D A g out.1 (fun (_ : Unit) => w_Mo g a0 out.2 ++ (rest))) args s 0 0 A) (F0 m 343 ls []) := by
  have X1 := X
  obtain ⟨hx, hb, hml, hown, hts, hr, hlocks, hKK⟩ := X1
  have ht : ∀ w ∈ TB, w.before args s = true := fun w h => hts w (List.mem_cons_of_mem _ h)
  have hK := hKK.1
  unfold B_Mo_element_343 at h
  refine lv_iconst (v := 1) hx hb d_Mo_element_343 (by decide) ?_
  refine lv_goto (tgt := 348) hx hb d_Mo_element_344 (by decide) ?_
  exact t_Mo_element_348 X (lv_sub hl [0, 1, 2, 3, 4, 5, 6, 7] rfl) hI hS h
set_option maxRecDepth 100000 in
set_option maxHeartbeats 4000000 in
theorem t_Mo_element_335 {p : Program} {l : Launch} {e : Env} {s : State} {m : MethodId} {args : Array Value} {below : List Frame} {meth : Method} {c : Code} {D : va_G} {A : Nat → Prop} {g : Nat → ClassId} {rest : va_W} {a0 : Nat → Nat} {ls : Array Slot} {H : Heap} {locs : List Loc} {s0 : S_Mo} {x1 : Int32} {x3 : Int32} {x4 : Int32} {x5 : Int32} {x7 : Int32} {x8 : Int32} {x9 : Int32} {out : Int32 × S_Mo} (X : Cx p s m args meth c prog_11_method_11_code 12 ws_Mo_element R_Mo (some .boolean) D g) (hl : lv_has ls 12 [(0, .ref (a0 0)), (1, .int x1), (3, .int x3), (4, .int x4), (5, .int x5), (7, .int x7), (8, .int x8), (9, .int x9)]) (hI : Iw D A (w_Mo g a0 s0 ++ (rest)) H) (hS : va_S A s.heap H locs) (h : B_Mo_element_335  s0 x1 x3 x4 x5 x7 x8 x9 = some out) : W p l e (headSpec ws_Mo_element { frames := 2, cells := 0, slots := 0, locals := 48 }).room s m args below meth c H locs 0 0 (MQ below (QcI D A g out.1 (fun (_ : Unit) => w_Mo g a0 out.2 ++ (rest))) args s 0 0 A) (F0 m 335 ls []) := by
  have X1 := X
  obtain ⟨hx, hb, hml, hown, hts, hr, hlocks, hKK⟩ := X1
  have ht : ∀ w ∈ TB, w.before args s = true := fun w h => hts w (List.mem_cons_of_mem _ h)
  have hK := hKK.1
  unfold B_Mo_element_335 at h
  refine lv_iload hx hb d_Mo_element_335 (lv_at hl 6 rfl) ?_
  refine lv_sipush (v := 255) hx hb d_Mo_element_337 (by decide) ?_
  refine lv_icmp_ne (tgt := 347) hx hb d_Mo_element_340 (by decide) (fun hc => ?_) (fun hc => ?_)
  · have h := it_f h hc
    exact t_Mo_element_347 X (lv_sub hl [0, 1, 2, 3, 4, 5, 6, 7] rfl) hI hS h
  · have h := it_t h hc
    exact t_Mo_element_343 X (lv_sub hl [0, 1, 2, 3, 4, 5, 6, 7] rfl) hI hS h
set_option maxRecDepth 100000 in
set_option maxHeartbeats 4000000 in
theorem t_Mo_element_327 {p : Program} {l : Launch} {e : Env} {s : State} {m : MethodId} {args : Array Value} {below : List Frame} {meth : Method} {c : Code} {D : va_G} {A : Nat → Prop} {g : Nat → ClassId} {rest : va_W} {a0 : Nat → Nat} {ls : Array Slot} {H : Heap} {locs : List Loc} {s0 : S_Mo} {x1 : Int32} {x3 : Int32} {x4 : Int32} {x5 : Int32} {x7 : Int32} {x8 : Int32} {y0 : Int32} {out : Int32 × S_Mo} (X : Cx p s m args meth c prog_11_method_11_code 12 ws_Mo_element R_Mo (some .boolean) D g) (hl : lv_has ls 12 [(0, .ref (a0 0)), (1, .int x1), (3, .int x3), (4, .int x4), (5, .int x5), (7, .int x7), (8, .int x8)]) (hI : Iw D A (w_Mo g a0 s0 ++ (rest)) H) (hS : va_S A s.heap H locs) (h : B_Mo_element_327  s0 x1 x3 x4 x5 x7 x8 y0 = some out) : W p l e (headSpec ws_Mo_element { frames := 2, cells := 0, slots := 0, locals := 48 }).room s m args below meth c H locs 0 0 (MQ below (QcI D A g out.1 (fun (_ : Unit) => w_Mo g a0 out.2 ++ (rest))) args s 0 0 A) (F0 m 327 ls [.int y0]) := by
  have X1 := X
  obtain ⟨hx, hb, hml, hown, hts, hr, hlocks, hKK⟩ := X1
  have ht : ∀ w ∈ TB, w.before args s = true := fun w h => hts w (List.mem_cons_of_mem _ h)
  have hK := hKK.1
  unfold B_Mo_element_327 at h
  refine lv_istore hx hb d_Mo_element_327 hl (Nat.le_of_ble_eq_true rfl) rfl (fun ls hl => ?_)
  have hl : lv_has ls 12 [(9, .int y0), (0, .ref (a0 0)), (1, .int x1), (3, .int x3), (4, .int x4), (5, .int x5), (7, .int x7), (8, .int x8)] := hl
  refine lv_iload hx hb d_Mo_element_329 (lv_at hl 6 rfl) ?_
  refine lv_iconst (v := 3) hx hb d_Mo_element_331 (by decide) ?_
  refine lv_icmp_ne (tgt := 347) hx hb d_Mo_element_332 (by decide) (fun hc => ?_) (fun hc => ?_)
  · have h := it_f h hc
    exact t_Mo_element_347 X (lv_sub hl [1, 2, 3, 4, 5, 6, 7, 0] rfl) hI hS h
  · have h := it_t h hc
    exact t_Mo_element_335 X (lv_sub hl [1, 2, 3, 4, 5, 6, 7, 0] rfl) hI hS h
set_option maxRecDepth 100000 in
set_option maxHeartbeats 4000000 in
theorem t_Mo_element_322 {p : Program} {l : Launch} {e : Env} {s : State} {m : MethodId} {args : Array Value} {below : List Frame} {meth : Method} {c : Code} {D : va_G} {A : Nat → Prop} {g : Nat → ClassId} {rest : va_W} {a0 : Nat → Nat} {ls : Array Slot} {H : Heap} {locs : List Loc} {s0 : S_Mo} {x1 : Int32} {x3 : Int32} {x4 : Int32} {x5 : Int32} {x7 : Int32} {x8 : Int32} {out : Int32 × S_Mo} (X : Cx p s m args meth c prog_11_method_11_code 12 ws_Mo_element R_Mo (some .boolean) D g) (hl : lv_has ls 12 [(0, .ref (a0 0)), (1, .int x1), (3, .int x3), (4, .int x4), (5, .int x5), (7, .int x7), (8, .int x8)]) (hI : Iw D A (w_Mo g a0 s0 ++ (rest)) H) (hS : va_S A s.heap H locs) (h : B_Mo_element_322  s0 x1 x3 x4 x5 x7 x8 = some out) : W p l e (headSpec ws_Mo_element { frames := 2, cells := 0, slots := 0, locals := 48 }).room s m args below meth c H locs 0 0 (MQ below (QcI D A g out.1 (fun (_ : Unit) => w_Mo g a0 out.2 ++ (rest))) args s 0 0 A) (F0 m 322 ls []) := by
  have X1 := X
  obtain ⟨hx, hb, hml, hown, hts, hr, hlocks, hKK⟩ := X1
  have ht : ∀ w ∈ TB, w.before args s = true := fun w h => hts w (List.mem_cons_of_mem _ h)
  have hK := hKK.1
  unfold B_Mo_element_322 at h
  refine lv_iconst (v := 1) hx hb d_Mo_element_322 (by decide) ?_
  refine lv_goto (tgt := 327) hx hb d_Mo_element_323 (by decide) ?_
  exact t_Mo_element_327 X (lv_sub hl [0, 1, 2, 3, 4, 5, 6] rfl) hI hS h
set_option maxRecDepth 100000 in
set_option maxHeartbeats 4000000 in
theorem t_Mo_element_326 {p : Program} {l : Launch} {e : Env} {s : State} {m : MethodId} {args : Array Value} {below : List Frame} {meth : Method} {c : Code} {D : va_G} {A : Nat → Prop} {g : Nat → ClassId} {rest : va_W} {a0 : Nat → Nat} {ls : Array Slot} {H : Heap} {locs : List Loc} {s0 : S_Mo} {x1 : Int32} {x3 : Int32} {x4 : Int32} {x5 : Int32} {x7 : Int32} {x8 : Int32} {out : Int32 × S_Mo} (X : Cx p s m args meth c prog_11_method_11_code 12 ws_Mo_element R_Mo (some .boolean) D g) (hl : lv_has ls 12 [(0, .ref (a0 0)), (1, .int x1), (3, .int x3), (4, .int x4), (5, .int x5), (7, .int x7), (8, .int x8)]) (hI : Iw D A (w_Mo g a0 s0 ++ (rest)) H) (hS : va_S A s.heap H locs) (h : B_Mo_element_326  s0 x1 x3 x4 x5 x7 x8 = some out) : W p l e (headSpec ws_Mo_element { frames := 2, cells := 0, slots := 0, locals := 48 }).room s m args below meth c H locs 0 0 (MQ below (QcI D A g out.1 (fun (_ : Unit) => w_Mo g a0 out.2 ++ (rest))) args s 0 0 A) (F0 m 326 ls []) := by
  have X1 := X
  obtain ⟨hx, hb, hml, hown, hts, hr, hlocks, hKK⟩ := X1
  have ht : ∀ w ∈ TB, w.before args s = true := fun w h => hts w (List.mem_cons_of_mem _ h)
  have hK := hKK.1
  unfold B_Mo_element_326 at h
  refine lv_iconst (v := 0) hx hb d_Mo_element_326 (by decide) ?_
  exact t_Mo_element_327 X (lv_sub hl [0, 1, 2, 3, 4, 5, 6] rfl) hI hS h
set_option maxRecDepth 100000 in
set_option maxHeartbeats 4000000 in
theorem t_Mo_element_314 {p : Program} {l : Launch} {e : Env} {s : State} {m : MethodId} {args : Array Value} {below : List Frame} {meth : Method} {c : Code} {D : va_G} {A : Nat → Prop} {g : Nat → ClassId} {rest : va_W} {a0 : Nat → Nat} {ls : Array Slot} {H : Heap} {locs : List Loc} {s0 : S_Mo} {x1 : Int32} {x3 : Int32} {x4 : Int32} {x5 : Int32} {x7 : Int32} {x8 : Int32} {out : Int32 × S_Mo} (X : Cx p s m args meth c prog_11_method_11_code 12 ws_Mo_element R_Mo (some .boolean) D g) (hl : lv_has ls 12 [(0, .ref (a0 0)), (1, .int x1), (3, .int x3), (4, .int x4), (5, .int x5), (7, .int x7), (8, .int x8)]) (hI : Iw D A (w_Mo g a0 s0 ++ (rest)) H) (hS : va_S A s.heap H locs) (h : B_Mo_element_314  s0 x1 x3 x4 x5 x7 x8 = some out) : W p l e (headSpec ws_Mo_element { frames := 2, cells := 0, slots := 0, locals := 48 }).room s m args below meth c H locs 0 0 (MQ below (QcI D A g out.1 (fun (_ : Unit) => w_Mo g a0 out.2 ++ (rest))) args s 0 0 A) (F0 m 314 ls []) := by
  have X1 := X
  obtain ⟨hx, hb, hml, hown, hts, hr, hlocks, hKK⟩ := X1
  have ht : ∀ w ∈ TB, w.before args s = true := fun w h => hts w (List.mem_cons_of_mem _ h)
  have hK := hKK.1
  unfold B_Mo_element_314 at h
  refine lv_iload hx hb d_Mo_element_314 (lv_at hl 6 rfl) ?_
  refine lv_sipush (v := 255) hx hb d_Mo_element_316 (by decide) ?_
  refine lv_icmp_ne (tgt := 326) hx hb d_Mo_element_319 (by decide) (fun hc => ?_) (fun hc => ?_)
  · have h := it_f h hc
    exact t_Mo_element_326 X (lv_sub hl [0, 1, 2, 3, 4, 5, 6] rfl) hI hS h
  · have h := it_t h hc
    exact t_Mo_element_322 X (lv_sub hl [0, 1, 2, 3, 4, 5, 6] rfl) hI hS h
set_option maxRecDepth 100000 in
set_option maxHeartbeats 4000000 in
theorem t_Mo_element_306 {p : Program} {l : Launch} {e : Env} {s : State} {m : MethodId} {args : Array Value} {below : List Frame} {meth : Method} {c : Code} {D : va_G} {A : Nat → Prop} {g : Nat → ClassId} {rest : va_W} {a0 : Nat → Nat} {ls : Array Slot} {H : Heap} {locs : List Loc} {s0 : S_Mo} {x1 : Int32} {x3 : Int32} {x4 : Int32} {x5 : Int32} {x7 : Int32} {x8 : Int32} {out : Int32 × S_Mo} (X : Cx p s m args meth c prog_11_method_11_code 12 ws_Mo_element R_Mo (some .boolean) D g) (hl : lv_has ls 12 [(0, .ref (a0 0)), (1, .int x1), (3, .int x3), (4, .int x4), (5, .int x5), (7, .int x7), (8, .int x8)]) (hI : Iw D A (w_Mo g a0 s0 ++ (rest)) H) (hS : va_S A s.heap H locs) (h : B_Mo_element_306  s0 x1 x3 x4 x5 x7 x8 = some out) : W p l e (headSpec ws_Mo_element { frames := 2, cells := 0, slots := 0, locals := 48 }).room s m args below meth c H locs 0 0 (MQ below (QcI D A g out.1 (fun (_ : Unit) => w_Mo g a0 out.2 ++ (rest))) args s 0 0 A) (F0 m 306 ls []) := by
  have X1 := X
  obtain ⟨hx, hb, hml, hown, hts, hr, hlocks, hKK⟩ := X1
  have ht : ∀ w ∈ TB, w.before args s = true := fun w h => hts w (List.mem_cons_of_mem _ h)
  have hK := hKK.1
  unfold B_Mo_element_306 at h
  refine lv_iload hx hb d_Mo_element_306 (lv_at hl 6 rfl) ?_
  refine lv_sipush (v := 240) hx hb d_Mo_element_308 (by decide) ?_
  refine lv_icmp_le (tgt := 322) hx hb d_Mo_element_311 (by decide) (fun hc => ?_) (fun hc => ?_)
  · have h := it_t h hc
    exact t_Mo_element_322 X (lv_sub hl [0, 1, 2, 3, 4, 5, 6] rfl) hI hS h
  · have h := it_f h hc
    exact t_Mo_element_314 X (lv_sub hl [0, 1, 2, 3, 4, 5, 6] rfl) hI hS h
set_option maxRecDepth 100000 in
set_option maxHeartbeats 4000000 in
theorem t_Mo_element_302 {p : Program} {l : Launch} {e : Env} {s : State} {m : MethodId} {args : Array Value} {below : List Frame} {meth : Method} {c : Code} {D : va_G} {A : Nat → Prop} {g : Nat → ClassId} {rest : va_W} {a0 : Nat → Nat} {ls : Array Slot} {H : Heap} {locs : List Loc} {s0 : S_Mo} {x1 : Int32} {x3 : Int32} {x4 : Int32} {x5 : Int32} {x7 : Int32} {x8 : Int32} {out : Int32 × S_Mo} (X : Cx p s m args meth c prog_11_method_11_code 12 ws_Mo_element R_Mo (some .boolean) D g) (hl : lv_has ls 12 [(0, .ref (a0 0)), (1, .int x1), (3, .int x3), (4, .int x4), (5, .int x5), (7, .int x7), (8, .int x8)]) (hI : Iw D A (w_Mo g a0 s0 ++ (rest)) H) (hS : va_S A s.heap H locs) (h : B_Mo_element_302  s0 x1 x3 x4 x5 x7 x8 = some out) : W p l e (headSpec ws_Mo_element { frames := 2, cells := 0, slots := 0, locals := 48 }).room s m args below meth c H locs 0 0 (MQ below (QcI D A g out.1 (fun (_ : Unit) => w_Mo g a0 out.2 ++ (rest))) args s 0 0 A) (F0 m 302 ls []) := by
  have X1 := X
  obtain ⟨hx, hb, hml, hown, hts, hr, hlocks, hKK⟩ := X1
  have ht : ∀ w ∈ TB, w.before args s = true := fun w h => hts w (List.mem_cons_of_mem _ h)
  have hK := hKK.1
  unfold B_Mo_element_302 at h
  refine lv_iconst (v := 0) hx hb d_Mo_element_302 (by decide) ?_
  refine lv_goto (tgt := 327) hx hb d_Mo_element_303 (by decide) ?_
  exact t_Mo_element_327 X (lv_sub hl [0, 1, 2, 3, 4, 5, 6] rfl) hI hS h
set_option maxRecDepth 100000 in
set_option maxHeartbeats 4000000 in
theorem t_Mo_element_298 {p : Program} {l : Launch} {e : Env} {s : State} {m : MethodId} {args : Array Value} {below : List Frame} {meth : Method} {c : Code} {D : va_G} {A : Nat → Prop} {g : Nat → ClassId} {rest : va_W} {a0 : Nat → Nat} {ls : Array Slot} {H : Heap} {locs : List Loc} {s0 : S_Mo} {x1 : Int32} {x3 : Int32} {x4 : Int32} {x5 : Int32} {x7 : Int32} {x8 : Int32} {out : Int32 × S_Mo} (X : Cx p s m args meth c prog_11_method_11_code 12 ws_Mo_element R_Mo (some .boolean) D g) (hl : lv_has ls 12 [(0, .ref (a0 0)), (1, .int x1), (3, .int x3), (4, .int x4), (5, .int x5), (7, .int x7), (8, .int x8)]) (hI : Iw D A (w_Mo g a0 s0 ++ (rest)) H) (hS : va_S A s.heap H locs) (h : B_Mo_element_298  s0 x1 x3 x4 x5 x7 x8 = some out) : W p l e (headSpec ws_Mo_element { frames := 2, cells := 0, slots := 0, locals := 48 }).room s m args below meth c H locs 0 0 (MQ below (QcI D A g out.1 (fun (_ : Unit) => w_Mo g a0 out.2 ++ (rest))) args s 0 0 A) (F0 m 298 ls []) := by
  have X1 := X
  obtain ⟨hx, hb, hml, hown, hts, hr, hlocks, hKK⟩ := X1
  have ht : ∀ w ∈ TB, w.before args s = true := fun w h => hts w (List.mem_cons_of_mem _ h)
  have hK := hKK.1
  unfold B_Mo_element_298 at h
  refine lv_iconst (v := 1) hx hb d_Mo_element_298 (by decide) ?_
  refine lv_goto (tgt := 327) hx hb d_Mo_element_299 (by decide) ?_
  exact t_Mo_element_327 X (lv_sub hl [0, 1, 2, 3, 4, 5, 6] rfl) hI hS h
set_option maxRecDepth 100000 in
set_option maxHeartbeats 4000000 in
theorem t_Mo_element_291 {p : Program} {l : Launch} {e : Env} {s : State} {m : MethodId} {args : Array Value} {below : List Frame} {meth : Method} {c : Code} {D : va_G} {A : Nat → Prop} {g : Nat → ClassId} {rest : va_W} {a0 : Nat → Nat} {ls : Array Slot} {H : Heap} {locs : List Loc} {s0 : S_Mo} {x1 : Int32} {x3 : Int32} {x4 : Int32} {x5 : Int32} {x7 : Int32} {x8 : Int32} {out : Int32 × S_Mo} (X : Cx p s m args meth c prog_11_method_11_code 12 ws_Mo_element R_Mo (some .boolean) D g) (hl : lv_has ls 12 [(0, .ref (a0 0)), (1, .int x1), (3, .int x3), (4, .int x4), (5, .int x5), (7, .int x7), (8, .int x8)]) (hI : Iw D A (w_Mo g a0 s0 ++ (rest)) H) (hS : va_S A s.heap H locs) (h : B_Mo_element_291  s0 x1 x3 x4 x5 x7 x8 = some out) : W p l e (headSpec ws_Mo_element { frames := 2, cells := 0, slots := 0, locals := 48 }).room s m args below meth c H locs 0 0 (MQ below (QcI D A g out.1 (fun (_ : Unit) => w_Mo g a0 out.2 ++ (rest))) args s 0 0 A) (F0 m 291 ls []) := by
  have X1 := X
  obtain ⟨hx, hb, hml, hown, hts, hr, hlocks, hKK⟩ := X1
  have ht : ∀ w ∈ TB, w.before args s = true := fun w h => hts w (List.mem_cons_of_mem _ h)
  have hK := hKK.1
  unfold B_Mo_element_291 at h
  refine lv_iload hx hb d_Mo_element_291 (lv_at hl 6 rfl) ?_
  refine lv_iconst (v := 2) hx hb d_Mo_element_293 (by decide) ?_
  refine lv_irem hx hb d_Mo_element_294 (by decide) ?_
  refine lv_if_ne (tgt := 302) hx hb d_Mo_element_295 (by decide) (fun hc => ?_) (fun hc => ?_)
  · have h := it_f h hc
    exact t_Mo_element_302 X (lv_sub hl [0, 1, 2, 3, 4, 5, 6] rfl) hI hS h
  · have h := it_t h hc
    exact t_Mo_element_298 X (lv_sub hl [0, 1, 2, 3, 4, 5, 6] rfl) hI hS h
set_option maxRecDepth 100000 in
set_option maxHeartbeats 4000000 in
theorem t_Mo_element_284 {p : Program} {l : Launch} {e : Env} {s : State} {m : MethodId} {args : Array Value} {below : List Frame} {meth : Method} {c : Code} {D : va_G} {A : Nat → Prop} {g : Nat → ClassId} {rest : va_W} {a0 : Nat → Nat} {ls : Array Slot} {H : Heap} {locs : List Loc} {s0 : S_Mo} {x1 : Int32} {x3 : Int32} {x4 : Int32} {x5 : Int32} {x7 : Int32} {x8 : Int32} {out : Int32 × S_Mo} (X : Cx p s m args meth c prog_11_method_11_code 12 ws_Mo_element R_Mo (some .boolean) D g) (hl : lv_has ls 12 [(0, .ref (a0 0)), (1, .int x1), (3, .int x3), (4, .int x4), (5, .int x5), (7, .int x7), (8, .int x8)]) (hI : Iw D A (w_Mo g a0 s0 ++ (rest)) H) (hS : va_S A s.heap H locs) (h : B_Mo_element_284  s0 x1 x3 x4 x5 x7 x8 = some out) : W p l e (headSpec ws_Mo_element { frames := 2, cells := 0, slots := 0, locals := 48 }).room s m args below meth c H locs 0 0 (MQ below (QcI D A g out.1 (fun (_ : Unit) => w_Mo g a0 out.2 ++ (rest))) args s 0 0 A) (F0 m 284 ls []) := by
  have X1 := X
  obtain ⟨hx, hb, hml, hown, hts, hr, hlocks, hKK⟩ := X1
  have ht : ∀ w ∈ TB, w.before args s = true := fun w h => hts w (List.mem_cons_of_mem _ h)
  have hK := hKK.1
  unfold B_Mo_element_284 at h
  refine lv_iload hx hb d_Mo_element_284 (lv_at hl 6 rfl) ?_
  refine lv_bipush (v := 16) hx hb d_Mo_element_286 (by decide) ?_
  refine lv_icmp_gt (tgt := 302) hx hb d_Mo_element_288 (by decide) (fun hc => ?_) (fun hc => ?_)
  · have h := it_t h hc
    exact t_Mo_element_302 X (lv_sub hl [0, 1, 2, 3, 4, 5, 6] rfl) hI hS h
  · have h := it_f h hc
    exact t_Mo_element_291 X (lv_sub hl [0, 1, 2, 3, 4, 5, 6] rfl) hI hS h
set_option maxRecDepth 100000 in
set_option maxHeartbeats 4000000 in
theorem t_Mo_element_278 {p : Program} {l : Launch} {e : Env} {s : State} {m : MethodId} {args : Array Value} {below : List Frame} {meth : Method} {c : Code} {D : va_G} {A : Nat → Prop} {g : Nat → ClassId} {rest : va_W} {a0 : Nat → Nat} {ls : Array Slot} {H : Heap} {locs : List Loc} {s0 : S_Mo} {x1 : Int32} {x3 : Int32} {x4 : Int32} {x5 : Int32} {x7 : Int32} {x8 : Int32} {out : Int32 × S_Mo} (X : Cx p s m args meth c prog_11_method_11_code 12 ws_Mo_element R_Mo (some .boolean) D g) (hl : lv_has ls 12 [(0, .ref (a0 0)), (1, .int x1), (3, .int x3), (4, .int x4), (5, .int x5), (7, .int x7), (8, .int x8)]) (hI : Iw D A (w_Mo g a0 s0 ++ (rest)) H) (hS : va_S A s.heap H locs) (h : B_Mo_element_278  s0 x1 x3 x4 x5 x7 x8 = some out) : W p l e (headSpec ws_Mo_element { frames := 2, cells := 0, slots := 0, locals := 48 }).room s m args below meth c H locs 0 0 (MQ below (QcI D A g out.1 (fun (_ : Unit) => w_Mo g a0 out.2 ++ (rest))) args s 0 0 A) (F0 m 278 ls []) := by
  have X1 := X
  obtain ⟨hx, hb, hml, hown, hts, hr, hlocks, hKK⟩ := X1
  have ht : ∀ w ∈ TB, w.before args s = true := fun w h => hts w (List.mem_cons_of_mem _ h)
  have hK := hKK.1
  unfold B_Mo_element_278 at h
  refine lv_iload hx hb d_Mo_element_278 (lv_at hl 5 rfl) ?_
  refine lv_iconst (v := 2) hx hb d_Mo_element_280 (by decide) ?_
  refine lv_icmp_ne (tgt := 306) hx hb d_Mo_element_281 (by decide) (fun hc => ?_) (fun hc => ?_)
  · have h := it_f h hc
    exact t_Mo_element_306 X (lv_sub hl [0, 1, 2, 3, 4, 5, 6] rfl) hI hS h
  · have h := it_t h hc
    exact t_Mo_element_284 X (lv_sub hl [0, 1, 2, 3, 4, 5, 6] rfl) hI hS h
set_option maxRecDepth 100000 in
set_option maxHeartbeats 4000000 in
theorem t_Mo_element_268 {p : Program} {l : Launch} {e : Env} {s : State} {m : MethodId} {args : Array Value} {below : List Frame} {meth : Method} {c : Code} {D : va_G} {A : Nat → Prop} {g : Nat → ClassId} {rest : va_W} {a0 : Nat → Nat} {ls : Array Slot} {H : Heap} {locs : List Loc} {s0 : S_Mo} {x1 : Int32} {x3 : Int32} {x4 : Int32} {x5 : Int32} {x7 : Int32} {x8 : Int32} {out : Int32 × S_Mo} (X : Cx p s m args meth c prog_11_method_11_code 12 ws_Mo_element R_Mo (some .boolean) D g) (hl : lv_has ls 12 [(0, .ref (a0 0)), (1, .int x1), (3, .int x3), (4, .int x4), (5, .int x5), (7, .int x7), (8, .int x8)]) (hI : Iw D A (w_Mo g a0 s0 ++ (rest)) H) (hS : va_S A s.heap H locs) (h : B_Mo_element_268  s0 x1 x3 x4 x5 x7 x8 = some out) : W p l e (headSpec ws_Mo_element { frames := 2, cells := 0, slots := 0, locals := 48 }).room s m args below meth c H locs 0 0 (MQ below (QcI D A g out.1 (fun (_ : Unit) => w_Mo g a0 out.2 ++ (rest))) args s 0 0 A) (F0 m 268 ls []) := by
  have X1 := X
  obtain ⟨hx, hb, hml, hown, hts, hr, hlocks, hKK⟩ := X1
  have ht : ∀ w ∈ TB, w.before args s = true := fun w h => hts w (List.mem_cons_of_mem _ h)
  have hK := hKK.1
  unfold B_Mo_element_268 at h
  refine lv_iload hx hb d_Mo_element_268 (lv_at hl 6 rfl) ?_
  refine lv_iconst (v := 1) hx hb d_Mo_element_270 (by decide) ?_
  refine lv_iconst (v := 4) hx hb d_Mo_element_271 (by decide) ?_
  obtain ⟨o1, ho2, h⟩ := bd_s h
  refine cl_i (W1 := fun (_ : Unit) => w_Mo g a0 s0 ++ (rest)) (va_runS (As := [.int x8, .int (1 : Int32), .int (4 : Int32)]) (rest := []) ⟨hx, hb, hml, hown, ht⟩ (c_Mo_in (l := l) (D := D) (A := A) (g := g) (rest := w_Mo g a0 s0 ++ (rest))  ho2) (va_cwS 3 ht (gd_S m_975 m_976 m_11 m_977) rfl rfl rfl (by decide +kernel) ⟨(Nat.le_of_ble_eq_true rfl), (Nat.le_of_ble_eq_true rfl)⟩) (prS hKK hI (List.Perm.refl _)) rfl rfl hl.1 rfl (lv_room (Nat.le_of_ble_eq_true rfl)) d_Mo_element_272 ⟨(Nat.le_of_ble_eq_true rfl), (Nat.le_of_ble_eq_true rfl)⟩) hS (fun _ => ((List.Perm.refl _)).symm) (fun _ H locs hI hS => ?_)
  have hI : Iw D A (w_Mo g a0 s0 ++ (rest)) H := hI
  refine lv_goto (tgt := 327) hx hb d_Mo_element_275 (by decide) ?_
  exact t_Mo_element_327 X (lv_sub hl [0, 1, 2, 3, 4, 5, 6] rfl) hI hS h
set_option maxRecDepth 100000 in
set_option maxHeartbeats 4000000 in
theorem t_Mo_element_251 {p : Program} {l : Launch} {e : Env} {s : State} {m : MethodId} {args : Array Value} {below : List Frame} {meth : Method} {c : Code} {D : va_G} {A : Nat → Prop} {g : Nat → ClassId} {rest : va_W} {a0 : Nat → Nat} {ls : Array Slot} {H : Heap} {locs : List Loc} {s0 : S_Mo} {x1 : Int32} {x3 : Int32} {x4 : Int32} {x5 : Int32} {x7 : Int32} {out : Int32 × S_Mo} (X : Cx p s m args meth c prog_11_method_11_code 12 ws_Mo_element R_Mo (some .boolean) D g) (hl : lv_has ls 12 [(0, .ref (a0 0)), (1, .int x1), (3, .int x3), (4, .int x4), (5, .int x5), (7, .int x7)]) (hI : Iw D A (w_Mo g a0 s0 ++ (rest)) H) (hS : va_S A s.heap H locs) (h : B_Mo_element_251  s0 x1 x3 x4 x5 x7 = some out) : W p l e (headSpec ws_Mo_element { frames := 2, cells := 0, slots := 0, locals := 48 }).room s m args below meth c H locs 0 0 (MQ below (QcI D A g out.1 (fun (_ : Unit) => w_Mo g a0 out.2 ++ (rest))) args s 0 0 A) (F0 m 251 ls []) := by
  have X1 := X
  obtain ⟨hx, hb, hml, hown, hts, hr, hlocks, hKK⟩ := X1
  have ht : ∀ w ∈ TB, w.before args s = true := fun w h => hts w (List.mem_cons_of_mem _ h)
  have hK := hKK.1
  unfold B_Mo_element_251 at h
  refine lv_aload_n hx hb d_Mo_element_251 rfl (lv_at hl 0 rfl) ?_
  refine gt_Mo_source hx hb ht hown hK hI (ht _ m_820) d_Mo_element_252 ?_
  refine lv_aload_n hx hb d_Mo_element_255 rfl (lv_at hl 0 rfl) ?_
  refine gt_Mo_at hx hb ht hown hK hI (ht _ m_841) d_Mo_element_256 ?_
  by_cases hc1 : ((Mo_at s0) < 0 ∨ 240 ≤ (Mo_at s0).toNatClampNeg)
  · exact no_s (it_t h hc1)
  have h := it_f h hc1
  refine al_Mo_source hx hb hK hI hc1 d_Mo_element_259 ?_
  refine lv_istore hx hb d_Mo_element_260 hl (Nat.le_of_ble_eq_true rfl) rfl (fun ls hl => ?_)
  have hl : lv_has ls 12 [(8, .int ((Mo_source s0) (Mo_at s0).toNatClampNeg)), (0, .ref (a0 0)), (1, .int x1), (3, .int x3), (4, .int x4), (5, .int x5), (7, .int x7)] := hl
  refine lv_iload hx hb d_Mo_element_262 (lv_at hl 6 rfl) ?_
  refine lv_iconst (v := 1) hx hb d_Mo_element_264 (by decide) ?_
  refine lv_icmp_ne (tgt := 278) hx hb d_Mo_element_265 (by decide) (fun hc => ?_) (fun hc => ?_)
  · have h := it_f h hc
    exact t_Mo_element_278 X (lv_sub hl [1, 2, 3, 4, 5, 6, 0] rfl) hI hS h
  · have h := it_t h hc
    exact t_Mo_element_268 X (lv_sub hl [1, 2, 3, 4, 5, 6, 0] rfl) hI hS h
set_option maxRecDepth 100000 in
set_option maxHeartbeats 4000000 in
theorem t_Mo_element_241 {p : Program} {l : Launch} {e : Env} {s : State} {m : MethodId} {args : Array Value} {below : List Frame} {meth : Method} {c : Code} {D : va_G} {A : Nat → Prop} {g : Nat → ClassId} {rest : va_W} {a0 : Nat → Nat} {ls : Array Slot} {H : Heap} {locs : List Loc} {s0 : S_Mo} {out : Int32 × S_Mo} (X : Cx p s m args meth c prog_11_method_11_code 12 ws_Mo_element R_Mo (some .boolean) D g) (hl : lv_has ls 12 [(0, .ref (a0 0))]) (hI : Iw D A (w_Mo g a0 s0 ++ (rest)) H) (hS : va_S A s.heap H locs) (h : B_Mo_element_241  s0 = some out) : W p l e (headSpec ws_Mo_element { frames := 2, cells := 0, slots := 0, locals := 48 }).room s m args below meth c H locs 0 0 (MQ below (QcI D A g out.1 (fun (_ : Unit) => w_Mo g a0 out.2 ++ (rest))) args s 0 0 A) (F0 m 241 ls []) := by
  have X1 := X
  obtain ⟨hx, hb, hml, hown, hts, hr, hlocks, hKK⟩ := X1
  have ht : ∀ w ∈ TB, w.before args s = true := fun w h => hts w (List.mem_cons_of_mem _ h)
  have hK := hKK.1
  unfold B_Mo_element_241 at h
  refine lv_aload_n hx hb d_Mo_element_241 rfl (lv_at hl 0 rfl) ?_
  refine lv_iconst (v := 1) hx hb d_Mo_element_242 (by decide) ?_
  refine lv_aload_n hx hb d_Mo_element_243 rfl (lv_at hl 0 rfl) ?_
  refine gt_Mo_at hx hb ht hown hK hI (ht _ m_841) d_Mo_element_244 ?_
  obtain ⟨o1, ho2, h⟩ := bd_s h
  refine cl_i (W1 := fun (_ : Unit) => w_Mo g a0 o1.2 ++ (rest)) (va_runV (As := [.int (1 : Int32), .int (Mo_at s0)]) (rest := []) ⟨hx, hb, hml, hown, ht⟩ (c_Mo_wrong (l := l) (D := D) (A := A) (g := g) (rest := rest) (a0 := a0) ho2) (cwV 2 ht (gd_V m_1007 m_1009 mp_42 m_11 m_1010) rfl rfl rfl (by decide +kernel) ⟨(Nat.le_of_ble_eq_true rfl), (Nat.le_of_ble_eq_true rfl)⟩) (prV (ci := 9) (q0 := 0) hKK hI (List.Perm.refl _) rfl rfl rfl) rfl rfl hl.1 rfl (lv_room (Nat.le_of_ble_eq_true rfl)) d_Mo_element_247 ⟨(Nat.le_of_ble_eq_true rfl), (Nat.le_of_ble_eq_true rfl)⟩) hS (fun _ => ((List.Perm.refl _)).symm) (fun _ H locs hI hS => ?_)
  have hI : Iw D A (w_Mo g a0 o1.2 ++ (rest)) H := hI
  have hc3 : o1.1 = 0 ∨ o1.1 = 1 := by
    by_cases z : o1.1 = 0 ∨ o1.1 = 1
    · exact z
    · exact no_s (it_f h z)
  have h := it_t h hc3
  have h9 := Option.some.inj h
  subst h9
  exact W.zret (v := o1.1) hx hb hr (by rcases hc3 with z | z <;> rw [z] <;> rfl) (fun t ht hW => ⟨⟨_, (), rfl, rfl, ⟨by rw [ht]; exact hI, hKK.moved hW⟩⟩, hS.F ht⟩) hS.2.2 d_Mo_element_250
set_option maxRecDepth 100000 in
set_option maxHeartbeats 4000000 in
theorem t_Mo_element_228 {p : Program} {l : Launch} {e : Env} {s : State} {m : MethodId} {args : Array Value} {below : List Frame} {meth : Method} {c : Code} {D : va_G} {A : Nat → Prop} {g : Nat → ClassId} {rest : va_W} {a0 : Nat → Nat} {ls : Array Slot} {H : Heap} {locs : List Loc} {s0 : S_Mo} {x1 : Int32} {x3 : Int32} {x4 : Int32} {x5 : Int32} {x7 : Int32} {out : Int32 × S_Mo} (X : Cx p s m args meth c prog_11_method_11_code 12 ws_Mo_element R_Mo (some .boolean) D g) (hl : lv_has ls 12 [(0, .ref (a0 0)), (1, .int x1), (3, .int x3), (4, .int x4), (5, .int x5), (7, .int x7)]) (hI : Iw D A (w_Mo g a0 s0 ++ (rest)) H) (hS : va_S A s.heap H locs) (h : B_Mo_element_228  s0 x1 x3 x4 x5 x7 = some out) : W p l e (headSpec ws_Mo_element { frames := 2, cells := 0, slots := 0, locals := 48 }).room s m args below meth c H locs 0 0 (MQ below (QcI D A g out.1 (fun (_ : Unit) => w_Mo g a0 out.2 ++ (rest))) args s 0 0 A) (F0 m 228 ls []) := by
  have X1 := X
  obtain ⟨hx, hb, hml, hown, hts, hr, hlocks, hKK⟩ := X1
  have ht : ∀ w ∈ TB, w.before args s = true := fun w h => hts w (List.mem_cons_of_mem _ h)
  have hK := hKK.1
  unfold B_Mo_element_228 at h
  refine lv_aload_n hx hb d_Mo_element_228 rfl (lv_at hl 0 rfl) ?_
  refine gt_Mo_at hx hb ht hown hK hI (ht _ m_841) d_Mo_element_229 ?_
  refine lv_aload_n hx hb d_Mo_element_232 rfl (lv_at hl 0 rfl) ?_
  refine gt_Mo_end hx hb ht hown hK hI (ht _ m_839) d_Mo_element_233 ?_
  refine lv_iload_n hx hb d_Mo_element_236 rfl (lv_at hl 2 rfl) ?_
  by_cases hc1 : (x3 < 0 ∨ 6 ≤ x3.toNatClampNeg)
  · exact no_s (it_t h hc1)
  have h := it_f h hc1
  refine al_Mo_end hx hb hK hI hc1 d_Mo_element_237 ?_
  refine lv_icmp_ne (tgt := 251) hx hb d_Mo_element_238 (by decide) (fun hc => ?_) (fun hc => ?_)
  · have h := it_f h hc
    exact t_Mo_element_251 X (lv_sub hl [0, 1, 2, 3, 4, 5] rfl) hI hS h
  · have h := it_t h hc
    exact t_Mo_element_241 X (lv_sub hl [0] rfl) hI hS h
set_option maxRecDepth 100000 in
set_option maxHeartbeats 4000000 in
theorem t_Mo_element_218 {p : Program} {l : Launch} {e : Env} {s : State} {m : MethodId} {args : Array Value} {below : List Frame} {meth : Method} {c : Code} {D : va_G} {A : Nat → Prop} {g : Nat → ClassId} {rest : va_W} {a0 : Nat → Nat} {ls : Array Slot} {H : Heap} {locs : List Loc} {s0 : S_Mo} {x1 : Int32} {x3 : Int32} {x4 : Int32} {x5 : Int32} {x7 : Int32} {out : Int32 × S_Mo} (X : Cx p s m args meth c prog_11_method_11_code 12 ws_Mo_element R_Mo (some .boolean) D g) (hl : lv_has ls 12 [(0, .ref (a0 0)), (1, .int x1), (3, .int x3), (4, .int x4), (5, .int x5), (7, .int x7)]) (hI : Iw D A (w_Mo g a0 s0 ++ (rest)) H) (hS : va_S A s.heap H locs) (h : B_Mo_element_218  s0 x1 x3 x4 x5 x7 = some out) : W p l e (headSpec ws_Mo_element { frames := 2, cells := 0, slots := 0, locals := 48 }).room s m args below meth c H locs 0 0 (MQ below (QcI D A g out.1 (fun (_ : Unit) => w_Mo g a0 out.2 ++ (rest))) args s 0 0 A) (F0 m 218 ls []) := by
  have X1 := X
  obtain ⟨hx, hb, hml, hown, hts, hr, hlocks, hKK⟩ := X1
  have ht : ∀ w ∈ TB, w.before args s = true := fun w h => hts w (List.mem_cons_of_mem _ h)
  have hK := hKK.1
  unfold B_Mo_element_218 at h
  refine lv_aload_n hx hb d_Mo_element_218 rfl (lv_at hl 0 rfl) ?_
  refine lv_dup hx hb d_Mo_element_219 rfl ?_
  refine gt_Mo_at hx hb ht hown hK hI (ht _ m_841) d_Mo_element_220 ?_
  refine lv_iconst (v := 1) hx hb d_Mo_element_223 (by decide) ?_
  refine lv_iadd hx hb d_Mo_element_224 ?_
  refine pt_Mo_at hx hb ht hown hK hI hS (ht _ m_841) d_Mo_element_225 (fun H locs hI hS => ?_)
  exact t_Mo_element_228 X (lv_sub hl [0, 1, 2, 3, 4, 5] rfl) hI hS h
set_option maxRecDepth 100000 in
set_option maxHeartbeats 4000000 in
theorem t_Mo_element_208 {p : Program} {l : Launch} {e : Env} {s : State} {m : MethodId} {args : Array Value} {below : List Frame} {meth : Method} {c : Code} {D : va_G} {A : Nat → Prop} {g : Nat → ClassId} {rest : va_W} {a0 : Nat → Nat} {ls : Array Slot} {H : Heap} {locs : List Loc} {s0 : S_Mo} {out : Int32 × S_Mo} (X : Cx p s m args meth c prog_11_method_11_code 12 ws_Mo_element R_Mo (some .boolean) D g) (hl : lv_has ls 12 [(0, .ref (a0 0))]) (hI : Iw D A (w_Mo g a0 s0 ++ (rest)) H) (hS : va_S A s.heap H locs) (h : B_Mo_element_208  s0 = some out) : W p l e (headSpec ws_Mo_element { frames := 2, cells := 0, slots := 0, locals := 48 }).room s m args below meth c H locs 0 0 (MQ below (QcI D A g out.1 (fun (_ : Unit) => w_Mo g a0 out.2 ++ (rest))) args s 0 0 A) (F0 m 208 ls []) := by
  have X1 := X
  obtain ⟨hx, hb, hml, hown, hts, hr, hlocks, hKK⟩ := X1
  have ht : ∀ w ∈ TB, w.before args s = true := fun w h => hts w (List.mem_cons_of_mem _ h)
  have hK := hKK.1
  unfold B_Mo_element_208 at h
  refine lv_aload_n hx hb d_Mo_element_208 rfl (lv_at hl 0 rfl) ?_
  refine lv_iconst (v := 3) hx hb d_Mo_element_209 (by decide) ?_
  refine lv_aload_n hx hb d_Mo_element_210 rfl (lv_at hl 0 rfl) ?_
  refine gt_Mo_at hx hb ht hown hK hI (ht _ m_841) d_Mo_element_211 ?_
  obtain ⟨o1, ho2, h⟩ := bd_s h
  refine cl_i (W1 := fun (_ : Unit) => w_Mo g a0 o1.2 ++ (rest)) (va_runV (As := [.int (3 : Int32), .int (Mo_at s0)]) (rest := []) ⟨hx, hb, hml, hown, ht⟩ (c_Mo_wrong (l := l) (D := D) (A := A) (g := g) (rest := rest) (a0 := a0) ho2) (cwV 2 ht (gd_V m_1007 m_1009 mp_42 m_11 m_1010) rfl rfl rfl (by decide +kernel) ⟨(Nat.le_of_ble_eq_true rfl), (Nat.le_of_ble_eq_true rfl)⟩) (prV (ci := 9) (q0 := 0) hKK hI (List.Perm.refl _) rfl rfl rfl) rfl rfl hl.1 rfl (lv_room (Nat.le_of_ble_eq_true rfl)) d_Mo_element_214 ⟨(Nat.le_of_ble_eq_true rfl), (Nat.le_of_ble_eq_true rfl)⟩) hS (fun _ => ((List.Perm.refl _)).symm) (fun _ H locs hI hS => ?_)
  have hI : Iw D A (w_Mo g a0 o1.2 ++ (rest)) H := hI
  have hc3 : o1.1 = 0 ∨ o1.1 = 1 := by
    by_cases z : o1.1 = 0 ∨ o1.1 = 1
    · exact z
    · exact no_s (it_f h z)
  have h := it_t h hc3
  have h9 := Option.some.inj h
  subst h9
  exact W.zret (v := o1.1) hx hb hr (by rcases hc3 with z | z <;> rw [z] <;> rfl) (fun t ht hW => ⟨⟨_, (), rfl, rfl, ⟨by rw [ht]; exact hI, hKK.moved hW⟩⟩, hS.F ht⟩) hS.2.2 d_Mo_element_217
set_option maxRecDepth 100000 in
set_option maxHeartbeats 4000000 in
theorem t_Mo_element_194 {p : Program} {l : Launch} {e : Env} {s : State} {m : MethodId} {args : Array Value} {below : List Frame} {meth : Method} {c : Code} {D : va_G} {A : Nat → Prop} {g : Nat → ClassId} {rest : va_W} {a0 : Nat → Nat} {ls : Array Slot} {H : Heap} {locs : List Loc} {s0 : S_Mo} {x1 : Int32} {x3 : Int32} {x4 : Int32} {x5 : Int32} {x7 : Int32} {out : Int32 × S_Mo} (X : Cx p s m args meth c prog_11_method_11_code 12 ws_Mo_element R_Mo (some .boolean) D g) (hl : lv_has ls 12 [(0, .ref (a0 0)), (1, .int x1), (3, .int x3), (4, .int x4), (5, .int x5), (7, .int x7)]) (hI : Iw D A (w_Mo g a0 s0 ++ (rest)) H) (hS : va_S A s.heap H locs) (h : B_Mo_element_194  s0 x1 x3 x4 x5 x7 = some out) : W p l e (headSpec ws_Mo_element { frames := 2, cells := 0, slots := 0, locals := 48 }).room s m args below meth c H locs 0 0 (MQ below (QcI D A g out.1 (fun (_ : Unit) => w_Mo g a0 out.2 ++ (rest))) args s 0 0 A) (F0 m 194 ls []) := by
  have X1 := X
  obtain ⟨hx, hb, hml, hown, hts, hr, hlocks, hKK⟩ := X1
  have ht : ∀ w ∈ TB, w.before args s = true := fun w h => hts w (List.mem_cons_of_mem _ h)
  have hK := hKK.1
  unfold B_Mo_element_194 at h
  refine lv_aload_n hx hb d_Mo_element_194 rfl (lv_at hl 0 rfl) ?_
  refine gt_Mo_source hx hb ht hown hK hI (ht _ m_820) d_Mo_element_195 ?_
  refine lv_aload_n hx hb d_Mo_element_198 rfl (lv_at hl 0 rfl) ?_
  refine gt_Mo_at hx hb ht hown hK hI (ht _ m_841) d_Mo_element_199 ?_
  by_cases hc1 : ((Mo_at s0) < 0 ∨ 240 ≤ (Mo_at s0).toNatClampNeg)
  · exact no_s (it_t h hc1)
  have h := it_f h hc1
  refine al_Mo_source hx hb hK hI hc1 d_Mo_element_202 ?_
  refine lv_iload hx hb d_Mo_element_203 (lv_at hl 5 rfl) ?_
  refine lv_icmp_eq (tgt := 218) hx hb d_Mo_element_205 (by decide) (fun hc => ?_) (fun hc => ?_)
  · have h := it_t h hc
    exact t_Mo_element_218 X (lv_sub hl [0, 1, 2, 3, 4, 5] rfl) hI hS h
  · have h := it_f h hc
    exact t_Mo_element_208 X (lv_sub hl [0] rfl) hI hS h
set_option maxRecDepth 100000 in
set_option maxHeartbeats 4000000 in
theorem t_Mo_element_184 {p : Program} {l : Launch} {e : Env} {s : State} {m : MethodId} {args : Array Value} {below : List Frame} {meth : Method} {c : Code} {D : va_G} {A : Nat → Prop} {g : Nat → ClassId} {rest : va_W} {a0 : Nat → Nat} {ls : Array Slot} {H : Heap} {locs : List Loc} {s0 : S_Mo} {out : Int32 × S_Mo} (X : Cx p s m args meth c prog_11_method_11_code 12 ws_Mo_element R_Mo (some .boolean) D g) (hl : lv_has ls 12 [(0, .ref (a0 0))]) (hI : Iw D A (w_Mo g a0 s0 ++ (rest)) H) (hS : va_S A s.heap H locs) (h : B_Mo_element_184  s0 = some out) : W p l e (headSpec ws_Mo_element { frames := 2, cells := 0, slots := 0, locals := 48 }).room s m args below meth c H locs 0 0 (MQ below (QcI D A g out.1 (fun (_ : Unit) => w_Mo g a0 out.2 ++ (rest))) args s 0 0 A) (F0 m 184 ls []) := by
  have X1 := X
  obtain ⟨hx, hb, hml, hown, hts, hr, hlocks, hKK⟩ := X1
  have ht : ∀ w ∈ TB, w.before args s = true := fun w h => hts w (List.mem_cons_of_mem _ h)
  have hK := hKK.1
  unfold B_Mo_element_184 at h
  refine lv_aload_n hx hb d_Mo_element_184 rfl (lv_at hl 0 rfl) ?_
  refine lv_iconst (v := 1) hx hb d_Mo_element_185 (by decide) ?_
  refine lv_aload_n hx hb d_Mo_element_186 rfl (lv_at hl 0 rfl) ?_
  refine gt_Mo_at hx hb ht hown hK hI (ht _ m_841) d_Mo_element_187 ?_
  obtain ⟨o1, ho2, h⟩ := bd_s h
  refine cl_i (W1 := fun (_ : Unit) => w_Mo g a0 o1.2 ++ (rest)) (va_runV (As := [.int (1 : Int32), .int (Mo_at s0)]) (rest := []) ⟨hx, hb, hml, hown, ht⟩ (c_Mo_wrong (l := l) (D := D) (A := A) (g := g) (rest := rest) (a0 := a0) ho2) (cwV 2 ht (gd_V m_1007 m_1009 mp_42 m_11 m_1010) rfl rfl rfl (by decide +kernel) ⟨(Nat.le_of_ble_eq_true rfl), (Nat.le_of_ble_eq_true rfl)⟩) (prV (ci := 9) (q0 := 0) hKK hI (List.Perm.refl _) rfl rfl rfl) rfl rfl hl.1 rfl (lv_room (Nat.le_of_ble_eq_true rfl)) d_Mo_element_190 ⟨(Nat.le_of_ble_eq_true rfl), (Nat.le_of_ble_eq_true rfl)⟩) hS (fun _ => ((List.Perm.refl _)).symm) (fun _ H locs hI hS => ?_)
  have hI : Iw D A (w_Mo g a0 o1.2 ++ (rest)) H := hI
  have hc3 : o1.1 = 0 ∨ o1.1 = 1 := by
    by_cases z : o1.1 = 0 ∨ o1.1 = 1
    · exact z
    · exact no_s (it_f h z)
  have h := it_t h hc3
  have h9 := Option.some.inj h
  subst h9
  exact W.zret (v := o1.1) hx hb hr (by rcases hc3 with z | z <;> rw [z] <;> rfl) (fun t ht hW => ⟨⟨_, (), rfl, rfl, ⟨by rw [ht]; exact hI, hKK.moved hW⟩⟩, hS.F ht⟩) hS.2.2 d_Mo_element_193
set_option maxRecDepth 100000 in
set_option maxHeartbeats 4000000 in
theorem t_Mo_element_171 {p : Program} {l : Launch} {e : Env} {s : State} {m : MethodId} {args : Array Value} {below : List Frame} {meth : Method} {c : Code} {D : va_G} {A : Nat → Prop} {g : Nat → ClassId} {rest : va_W} {a0 : Nat → Nat} {ls : Array Slot} {H : Heap} {locs : List Loc} {s0 : S_Mo} {x1 : Int32} {x3 : Int32} {x4 : Int32} {x5 : Int32} {x7 : Int32} {out : Int32 × S_Mo} (X : Cx p s m args meth c prog_11_method_11_code 12 ws_Mo_element R_Mo (some .boolean) D g) (hl : lv_has ls 12 [(0, .ref (a0 0)), (1, .int x1), (3, .int x3), (4, .int x4), (5, .int x5), (7, .int x7)]) (hI : Iw D A (w_Mo g a0 s0 ++ (rest)) H) (hS : va_S A s.heap H locs) (h : B_Mo_element_171  s0 x1 x3 x4 x5 x7 = some out) : W p l e (headSpec ws_Mo_element { frames := 2, cells := 0, slots := 0, locals := 48 }).room s m args below meth c H locs 0 0 (MQ below (QcI D A g out.1 (fun (_ : Unit) => w_Mo g a0 out.2 ++ (rest))) args s 0 0 A) (F0 m 171 ls []) := by
  have X1 := X
  obtain ⟨hx, hb, hml, hown, hts, hr, hlocks, hKK⟩ := X1
  have ht : ∀ w ∈ TB, w.before args s = true := fun w h => hts w (List.mem_cons_of_mem _ h)
  have hK := hKK.1
  unfold B_Mo_element_171 at h
  refine lv_aload_n hx hb d_Mo_element_171 rfl (lv_at hl 0 rfl) ?_
  refine gt_Mo_at hx hb ht hown hK hI (ht _ m_841) d_Mo_element_172 ?_
  refine lv_aload_n hx hb d_Mo_element_175 rfl (lv_at hl 0 rfl) ?_
  refine gt_Mo_end hx hb ht hown hK hI (ht _ m_839) d_Mo_element_176 ?_
  refine lv_iload_n hx hb d_Mo_element_179 rfl (lv_at hl 2 rfl) ?_
  by_cases hc1 : (x3 < 0 ∨ 6 ≤ x3.toNatClampNeg)
  · exact no_s (it_t h hc1)
  have h := it_f h hc1
  refine al_Mo_end hx hb hK hI hc1 d_Mo_element_180 ?_
  refine lv_icmp_ne (tgt := 194) hx hb d_Mo_element_181 (by decide) (fun hc => ?_) (fun hc => ?_)
  · have h := it_f h hc
    exact t_Mo_element_194 X (lv_sub hl [0, 1, 2, 3, 4, 5] rfl) hI hS h
  · have h := it_t h hc
    exact t_Mo_element_184 X (lv_sub hl [0] rfl) hI hS h
set_option maxRecDepth 100000 in
set_option maxHeartbeats 4000000 in
theorem t_Mo_element_157 {p : Program} {l : Launch} {e : Env} {s : State} {m : MethodId} {args : Array Value} {below : List Frame} {meth : Method} {c : Code} {D : va_G} {A : Nat → Prop} {g : Nat → ClassId} {rest : va_W} {a0 : Nat → Nat} {ls : Array Slot} {H : Heap} {locs : List Loc} {s0 : S_Mo} {x1 : Int32} {x2 : Int32} {x3 : Int32} {x4 : Int32} {x5 : Int32} {x7 : Int32} {out : Int32 × S_Mo} (X : Cx p s m args meth c prog_11_method_11_code 12 ws_Mo_element R_Mo (some .boolean) D g) (hl : lv_has ls 12 [(0, .ref (a0 0)), (1, .int x1), (2, .int x2), (3, .int x3), (4, .int x4), (5, .int x5), (7, .int x7)]) (hI : Iw D A (w_Mo g a0 s0 ++ (rest)) H) (hS : va_S A s.heap H locs) (h : B_Mo_element_157  s0 x1 x2 x3 x4 x5 x7 = some out) : W p l e (headSpec ws_Mo_element { frames := 2, cells := 0, slots := 0, locals := 48 }).room s m args below meth c H locs 0 0 (MQ below (QcI D A g out.1 (fun (_ : Unit) => w_Mo g a0 out.2 ++ (rest))) args s 0 0 A) (F0 m 157 ls []) := by
  have X1 := X
  obtain ⟨hx, hb, hml, hown, hts, hr, hlocks, hKK⟩ := X1
  have ht : ∀ w ∈ TB, w.before args s = true := fun w h => hts w (List.mem_cons_of_mem _ h)
  have hK := hKK.1
  unfold B_Mo_element_157 at h
  refine lv_aload_n hx hb d_Mo_element_157 rfl (lv_at hl 0 rfl) ?_
  refine lv_dup hx hb d_Mo_element_158 rfl ?_
  refine gt_Mo_at hx hb ht hown hK hI (ht _ m_841) d_Mo_element_159 ?_
  refine lv_iconst (v := 1) hx hb d_Mo_element_162 (by decide) ?_
  refine lv_iadd hx hb d_Mo_element_163 ?_
  refine pt_Mo_at hx hb ht hown hK hI hS (ht _ m_841) d_Mo_element_164 (fun H locs hI hS => ?_)
  refine lv_iload_n hx hb d_Mo_element_167 rfl (lv_at hl 2 rfl) ?_
  refine lv_if_ne (tgt := 228) hx hb d_Mo_element_168 (by decide) (fun hc => ?_) (fun hc => ?_)
  · have h := it_f h hc
    exact t_Mo_element_228 X (lv_sub hl [0, 1, 3, 4, 5, 6] rfl) hI hS h
  · have h := it_t h hc
    exact t_Mo_element_171 X (lv_sub hl [0, 1, 3, 4, 5, 6] rfl) hI hS h
set_option maxRecDepth 100000 in
set_option maxHeartbeats 4000000 in
theorem t_Mo_element_146 {p : Program} {l : Launch} {e : Env} {s : State} {m : MethodId} {args : Array Value} {below : List Frame} {meth : Method} {c : Code} {D : va_G} {A : Nat → Prop} {g : Nat → ClassId} {rest : va_W} {a0 : Nat → Nat} {ls : Array Slot} {H : Heap} {locs : List Loc} {s0 : S_Mo} {out : Int32 × S_Mo} (X : Cx p s m args meth c prog_11_method_11_code 12 ws_Mo_element R_Mo (some .boolean) D g) (hl : lv_has ls 12 [(0, .ref (a0 0))]) (hI : Iw D A (w_Mo g a0 s0 ++ (rest)) H) (hS : va_S A s.heap H locs) (h : B_Mo_element_146  s0 = some out) : W p l e (headSpec ws_Mo_element { frames := 2, cells := 0, slots := 0, locals := 48 }).room s m args below meth c H locs 0 0 (MQ below (QcI D A g out.1 (fun (_ : Unit) => w_Mo g a0 out.2 ++ (rest))) args s 0 0 A) (F0 m 146 ls []) := by
  have X1 := X
  obtain ⟨hx, hb, hml, hown, hts, hr, hlocks, hKK⟩ := X1
  have ht : ∀ w ∈ TB, w.before args s = true := fun w h => hts w (List.mem_cons_of_mem _ h)
  have hK := hKK.1
  unfold B_Mo_element_146 at h
  refine lv_aload_n hx hb d_Mo_element_146 rfl (lv_at hl 0 rfl) ?_
  refine lv_bipush (v := 8) hx hb d_Mo_element_147 (by decide) ?_
  refine lv_aload_n hx hb d_Mo_element_149 rfl (lv_at hl 0 rfl) ?_
  refine gt_Mo_at hx hb ht hown hK hI (ht _ m_841) d_Mo_element_150 ?_
  obtain ⟨o1, ho2, h⟩ := bd_s h
  refine cl_i (W1 := fun (_ : Unit) => w_Mo g a0 o1.2 ++ (rest)) (va_runV (As := [.int (8 : Int32), .int (Mo_at s0)]) (rest := []) ⟨hx, hb, hml, hown, ht⟩ (c_Mo_wrong (l := l) (D := D) (A := A) (g := g) (rest := rest) (a0 := a0) ho2) (cwV 2 ht (gd_V m_1007 m_1009 mp_42 m_11 m_1010) rfl rfl rfl (by decide +kernel) ⟨(Nat.le_of_ble_eq_true rfl), (Nat.le_of_ble_eq_true rfl)⟩) (prV (ci := 9) (q0 := 0) hKK hI (List.Perm.refl _) rfl rfl rfl) rfl rfl hl.1 rfl (lv_room (Nat.le_of_ble_eq_true rfl)) d_Mo_element_153 ⟨(Nat.le_of_ble_eq_true rfl), (Nat.le_of_ble_eq_true rfl)⟩) hS (fun _ => ((List.Perm.refl _)).symm) (fun _ H locs hI hS => ?_)
  have hI : Iw D A (w_Mo g a0 o1.2 ++ (rest)) H := hI
  have hc3 : o1.1 = 0 ∨ o1.1 = 1 := by
    by_cases z : o1.1 = 0 ∨ o1.1 = 1
    · exact z
    · exact no_s (it_f h z)
  have h := it_t h hc3
  have h9 := Option.some.inj h
  subst h9
  exact W.zret (v := o1.1) hx hb hr (by rcases hc3 with z | z <;> rw [z] <;> rfl) (fun t ht hW => ⟨⟨_, (), rfl, rfl, ⟨by rw [ht]; exact hI, hKK.moved hW⟩⟩, hS.F ht⟩) hS.2.2 d_Mo_element_156
set_option maxRecDepth 100000 in
set_option maxHeartbeats 4000000 in
theorem t_Mo_element_138 {p : Program} {l : Launch} {e : Env} {s : State} {m : MethodId} {args : Array Value} {below : List Frame} {meth : Method} {c : Code} {D : va_G} {A : Nat → Prop} {g : Nat → ClassId} {rest : va_W} {a0 : Nat → Nat} {ls : Array Slot} {H : Heap} {locs : List Loc} {s0 : S_Mo} {x1 : Int32} {x2 : Int32} {x3 : Int32} {x4 : Int32} {x5 : Int32} {x7 : Int32} {out : Int32 × S_Mo} (X : Cx p s m args meth c prog_11_method_11_code 12 ws_Mo_element R_Mo (some .boolean) D g) (hl : lv_has ls 12 [(0, .ref (a0 0)), (1, .int x1), (2, .int x2), (3, .int x3), (4, .int x4), (5, .int x5), (7, .int x7)]) (hI : Iw D A (w_Mo g a0 s0 ++ (rest)) H) (hS : va_S A s.heap H locs) (h : B_Mo_element_138  s0 x1 x2 x3 x4 x5 x7 = some out) : W p l e (headSpec ws_Mo_element { frames := 2, cells := 0, slots := 0, locals := 48 }).room s m args below meth c H locs 0 0 (MQ below (QcI D A g out.1 (fun (_ : Unit) => w_Mo g a0 out.2 ++ (rest))) args s 0 0 A) (F0 m 138 ls []) := by
  have X1 := X
  obtain ⟨hx, hb, hml, hown, hts, hr, hlocks, hKK⟩ := X1
  have ht : ∀ w ∈ TB, w.before args s = true := fun w h => hts w (List.mem_cons_of_mem _ h)
  have hK := hKK.1
  unfold B_Mo_element_138 at h
  refine lv_aload_n hx hb d_Mo_element_138 rfl (lv_at hl 0 rfl) ?_
  refine gt_Mo_depth hx hb ht hown hK hI (ht _ m_837) d_Mo_element_139 ?_
  refine lv_iconst (v := 5) hx hb d_Mo_element_142 (by decide) ?_
  refine lv_icmp_ne (tgt := 157) hx hb d_Mo_element_143 (by decide) (fun hc => ?_) (fun hc => ?_)
  · have h := it_f h hc
    exact t_Mo_element_157 X (lv_sub hl [0, 1, 2, 3, 4, 5, 6] rfl) hI hS h
  · have h := it_t h hc
    exact t_Mo_element_146 X (lv_sub hl [0] rfl) hI hS h
set_option maxRecDepth 100000 in
set_option maxHeartbeats 4000000 in
theorem t_Mo_element_130 {p : Program} {l : Launch} {e : Env} {s : State} {m : MethodId} {args : Array Value} {below : List Frame} {meth : Method} {c : Code} {D : va_G} {A : Nat → Prop} {g : Nat → ClassId} {rest : va_W} {a0 : Nat → Nat} {ls : Array Slot} {H : Heap} {locs : List Loc} {s0 : S_Mo} {x1 : Int32} {x2 : Int32} {x3 : Int32} {x4 : Int32} {x5 : Int32} {y0 : Int32} {out : Int32 × S_Mo} (X : Cx p s m args meth c prog_11_method_11_code 12 ws_Mo_element R_Mo (some .boolean) D g) (hl : lv_has ls 12 [(0, .ref (a0 0)), (1, .int x1), (2, .int x2), (3, .int x3), (4, .int x4), (5, .int x5)]) (hI : Iw D A (w_Mo g a0 s0 ++ (rest)) H) (hS : va_S A s.heap H locs) (h : B_Mo_element_130  s0 x1 x2 x3 x4 x5 y0 = some out) : W p l e (headSpec ws_Mo_element { frames := 2, cells := 0, slots := 0, locals := 48 }).room s m args below meth c H locs 0 0 (MQ below (QcI D A g out.1 (fun (_ : Unit) => w_Mo g a0 out.2 ++ (rest))) args s 0 0 A) (F0 m 130 ls [.int y0]) := by
  have X1 := X
  obtain ⟨hx, hb, hml, hown, hts, hr, hlocks, hKK⟩ := X1
  have ht : ∀ w ∈ TB, w.before args s = true := fun w h => hts w (List.mem_cons_of_mem _ h)
  have hK := hKK.1
  unfold B_Mo_element_130 at h
  refine lv_istore hx hb d_Mo_element_130 hl (Nat.le_of_ble_eq_true rfl) rfl (fun ls hl => ?_)
  have hl : lv_has ls 12 [(7, .int y0), (0, .ref (a0 0)), (1, .int x1), (2, .int x2), (3, .int x3), (4, .int x4), (5, .int x5)] := hl
  refine lv_iload hx hb d_Mo_element_132 (lv_at hl 0 rfl) ?_
  refine lv_iconst (v := 3) hx hb d_Mo_element_134 (by decide) ?_
  refine lv_icmp_ne (tgt := 157) hx hb d_Mo_element_135 (by decide) (fun hc => ?_) (fun hc => ?_)
  · have h := it_f h hc
    exact t_Mo_element_157 X (lv_sub hl [1, 2, 3, 4, 5, 6, 0] rfl) hI hS h
  · have h := it_t h hc
    exact t_Mo_element_138 X (lv_sub hl [1, 2, 3, 4, 5, 6, 0] rfl) hI hS h
set_option maxRecDepth 100000 in
set_option maxHeartbeats 4000000 in
theorem t_Mo_element_129 {p : Program} {l : Launch} {e : Env} {s : State} {m : MethodId} {args : Array Value} {below : List Frame} {meth : Method} {c : Code} {D : va_G} {A : Nat → Prop} {g : Nat → ClassId} {rest : va_W} {a0 : Nat → Nat} {ls : Array Slot} {H : Heap} {locs : List Loc} {s0 : S_Mo} {x1 : Int32} {x2 : Int32} {x3 : Int32} {x4 : Int32} {x5 : Int32} {out : Int32 × S_Mo} (X : Cx p s m args meth c prog_11_method_11_code 12 ws_Mo_element R_Mo (some .boolean) D g) (hl : lv_has ls 12 [(0, .ref (a0 0)), (1, .int x1), (2, .int x2), (3, .int x3), (4, .int x4), (5, .int x5)]) (hI : Iw D A (w_Mo g a0 s0 ++ (rest)) H) (hS : va_S A s.heap H locs) (h : B_Mo_element_129  s0 x1 x2 x3 x4 x5 = some out) : W p l e (headSpec ws_Mo_element { frames := 2, cells := 0, slots := 0, locals := 48 }).room s m args below meth c H locs 0 0 (MQ below (QcI D A g out.1 (fun (_ : Unit) => w_Mo g a0 out.2 ++ (rest))) args s 0 0 A) (F0 m 129 ls []) := by
  have X1 := X
  obtain ⟨hx, hb, hml, hown, hts, hr, hlocks, hKK⟩ := X1
  have ht : ∀ w ∈ TB, w.before args s = true := fun w h => hts w (List.mem_cons_of_mem _ h)
  have hK := hKK.1
  unfold B_Mo_element_129 at h
  refine lv_iconst (v := 3) hx hb d_Mo_element_129 (by decide) ?_
  exact t_Mo_element_130 X (lv_sub hl [0, 1, 2, 3, 4, 5] rfl) hI hS h
set_option maxRecDepth 100000 in
set_option maxHeartbeats 4000000 in
theorem t_Mo_element_125 {p : Program} {l : Launch} {e : Env} {s : State} {m : MethodId} {args : Array Value} {below : List Frame} {meth : Method} {c : Code} {D : va_G} {A : Nat → Prop} {g : Nat → ClassId} {rest : va_W} {a0 : Nat → Nat} {ls : Array Slot} {H : Heap} {locs : List Loc} {s0 : S_Mo} {x1 : Int32} {x2 : Int32} {x3 : Int32} {x4 : Int32} {x5 : Int32} {out : Int32 × S_Mo} (X : Cx p s m args meth c prog_11_method_11_code 12 ws_Mo_element R_Mo (some .boolean) D g) (hl : lv_has ls 12 [(0, .ref (a0 0)), (1, .int x1), (2, .int x2), (3, .int x3), (4, .int x4), (5, .int x5)]) (hI : Iw D A (w_Mo g a0 s0 ++ (rest)) H) (hS : va_S A s.heap H locs) (h : B_Mo_element_125  s0 x1 x2 x3 x4 x5 = some out) : W p l e (headSpec ws_Mo_element { frames := 2, cells := 0, slots := 0, locals := 48 }).room s m args below meth c H locs 0 0 (MQ below (QcI D A g out.1 (fun (_ : Unit) => w_Mo g a0 out.2 ++ (rest))) args s 0 0 A) (F0 m 125 ls []) := by
  have X1 := X
  obtain ⟨hx, hb, hml, hown, hts, hr, hlocks, hKK⟩ := X1
  have ht : ∀ w ∈ TB, w.before args s = true := fun w h => hts w (List.mem_cons_of_mem _ h)
  have hK := hKK.1
  unfold B_Mo_element_125 at h
  refine lv_iconst (v := 2) hx hb d_Mo_element_125 (by decide) ?_
  refine lv_goto (tgt := 130) hx hb d_Mo_element_126 (by decide) ?_
  exact t_Mo_element_130 X (lv_sub hl [0, 1, 2, 3, 4, 5] rfl) hI hS h
set_option maxRecDepth 100000 in
set_option maxHeartbeats 4000000 in
theorem t_Mo_element_117 {p : Program} {l : Launch} {e : Env} {s : State} {m : MethodId} {args : Array Value} {below : List Frame} {meth : Method} {c : Code} {D : va_G} {A : Nat → Prop} {g : Nat → ClassId} {rest : va_W} {a0 : Nat → Nat} {ls : Array Slot} {H : Heap} {locs : List Loc} {s0 : S_Mo} {x1 : Int32} {x2 : Int32} {x3 : Int32} {x4 : Int32} {x5 : Int32} {out : Int32 × S_Mo} (X : Cx p s m args meth c prog_11_method_11_code 12 ws_Mo_element R_Mo (some .boolean) D g) (hl : lv_has ls 12 [(0, .ref (a0 0)), (1, .int x1), (2, .int x2), (3, .int x3), (4, .int x4), (5, .int x5)]) (hI : Iw D A (w_Mo g a0 s0 ++ (rest)) H) (hS : va_S A s.heap H locs) (h : B_Mo_element_117  s0 x1 x2 x3 x4 x5 = some out) : W p l e (headSpec ws_Mo_element { frames := 2, cells := 0, slots := 0, locals := 48 }).room s m args below meth c H locs 0 0 (MQ below (QcI D A g out.1 (fun (_ : Unit) => w_Mo g a0 out.2 ++ (rest))) args s 0 0 A) (F0 m 117 ls []) := by
  have X1 := X
  obtain ⟨hx, hb, hml, hown, hts, hr, hlocks, hKK⟩ := X1
  have ht : ∀ w ∈ TB, w.before args s = true := fun w h => hts w (List.mem_cons_of_mem _ h)
  have hK := hKK.1
  unfold B_Mo_element_117 at h
  refine lv_iload hx hb d_Mo_element_117 (lv_at hl 5 rfl) ?_
  refine lv_sipush (v := 160) hx hb d_Mo_element_119 (by decide) ?_
  refine lv_icmp_ge (tgt := 129) hx hb d_Mo_element_122 (by decide) (fun hc => ?_) (fun hc => ?_)
  · have h := it_t h hc
    exact t_Mo_element_129 X (lv_sub hl [0, 1, 2, 3, 4, 5] rfl) hI hS h
  · have h := it_f h hc
    exact t_Mo_element_125 X (lv_sub hl [0, 1, 2, 3, 4, 5] rfl) hI hS h
set_option maxRecDepth 100000 in
set_option maxHeartbeats 4000000 in
theorem t_Mo_element_113 {p : Program} {l : Launch} {e : Env} {s : State} {m : MethodId} {args : Array Value} {below : List Frame} {meth : Method} {c : Code} {D : va_G} {A : Nat → Prop} {g : Nat → ClassId} {rest : va_W} {a0 : Nat → Nat} {ls : Array Slot} {H : Heap} {locs : List Loc} {s0 : S_Mo} {x1 : Int32} {x2 : Int32} {x3 : Int32} {x4 : Int32} {x5 : Int32} {out : Int32 × S_Mo} (X : Cx p s m args meth c prog_11_method_11_code 12 ws_Mo_element R_Mo (some .boolean) D g) (hl : lv_has ls 12 [(0, .ref (a0 0)), (1, .int x1), (2, .int x2), (3, .int x3), (4, .int x4), (5, .int x5)]) (hI : Iw D A (w_Mo g a0 s0 ++ (rest)) H) (hS : va_S A s.heap H locs) (h : B_Mo_element_113  s0 x1 x2 x3 x4 x5 = some out) : W p l e (headSpec ws_Mo_element { frames := 2, cells := 0, slots := 0, locals := 48 }).room s m args below meth c H locs 0 0 (MQ below (QcI D A g out.1 (fun (_ : Unit) => w_Mo g a0 out.2 ++ (rest))) args s 0 0 A) (F0 m 113 ls []) := by
  have X1 := X
  obtain ⟨hx, hb, hml, hown, hts, hr, hlocks, hKK⟩ := X1
  have ht : ∀ w ∈ TB, w.before args s = true := fun w h => hts w (List.mem_cons_of_mem _ h)
  have hK := hKK.1
  unfold B_Mo_element_113 at h
  refine lv_iconst (v := 1) hx hb d_Mo_element_113 (by decide) ?_
  refine lv_goto (tgt := 130) hx hb d_Mo_element_114 (by decide) ?_
  exact t_Mo_element_130 X (lv_sub hl [0, 1, 2, 3, 4, 5] rfl) hI hS h
set_option maxRecDepth 100000 in
set_option maxHeartbeats 4000000 in
theorem t_Mo_element_106 {p : Program} {l : Launch} {e : Env} {s : State} {m : MethodId} {args : Array Value} {below : List Frame} {meth : Method} {c : Code} {D : va_G} {A : Nat → Prop} {g : Nat → ClassId} {rest : va_W} {a0 : Nat → Nat} {ls : Array Slot} {H : Heap} {locs : List Loc} {s0 : S_Mo} {x1 : Int32} {x2 : Int32} {x3 : Int32} {x4 : Int32} {x5 : Int32} {out : Int32 × S_Mo} (X : Cx p s m args meth c prog_11_method_11_code 12 ws_Mo_element R_Mo (some .boolean) D g) (hl : lv_has ls 12 [(0, .ref (a0 0)), (1, .int x1), (2, .int x2), (3, .int x3), (4, .int x4), (5, .int x5)]) (hI : Iw D A (w_Mo g a0 s0 ++ (rest)) H) (hS : va_S A s.heap H locs) (h : B_Mo_element_106  s0 x1 x2 x3 x4 x5 = some out) : W p l e (headSpec ws_Mo_element { frames := 2, cells := 0, slots := 0, locals := 48 }).room s m args below meth c H locs 0 0 (MQ below (QcI D A g out.1 (fun (_ : Unit) => w_Mo g a0 out.2 ++ (rest))) args s 0 0 A) (F0 m 106 ls []) := by
  have X1 := X
  obtain ⟨hx, hb, hml, hown, hts, hr, hlocks, hKK⟩ := X1
  have ht : ∀ w ∈ TB, w.before args s = true := fun w h => hts w (List.mem_cons_of_mem _ h)
  have hK := hKK.1
  unfold B_Mo_element_106 at h
  refine lv_iload hx hb d_Mo_element_106 (lv_at hl 5 rfl) ?_
  refine lv_bipush (v := 80) hx hb d_Mo_element_108 (by decide) ?_
  refine lv_icmp_ge (tgt := 117) hx hb d_Mo_element_110 (by decide) (fun hc => ?_) (fun hc => ?_)
  · have h := it_t h hc
    exact t_Mo_element_117 X (lv_sub hl [0, 1, 2, 3, 4, 5] rfl) hI hS h
  · have h := it_f h hc
    exact t_Mo_element_113 X (lv_sub hl [0, 1, 2, 3, 4, 5] rfl) hI hS h
set_option maxRecDepth 100000 in
set_option maxHeartbeats 4000000 in
theorem t_Mo_element_95 {p : Program} {l : Launch} {e : Env} {s : State} {m : MethodId} {args : Array Value} {below : List Frame} {meth : Method} {c : Code} {D : va_G} {A : Nat → Prop} {g : Nat → ClassId} {rest : va_W} {a0 : Nat → Nat} {ls : Array Slot} {H : Heap} {locs : List Loc} {s0 : S_Mo} {out : Int32 × S_Mo} (X : Cx p s m args meth c prog_11_method_11_code 12 ws_Mo_element R_Mo (some .boolean) D g) (hl : lv_has ls 12 [(0, .ref (a0 0))]) (hI : Iw D A (w_Mo g a0 s0 ++ (rest)) H) (hS : va_S A s.heap H locs) (h : B_Mo_element_95  s0 = some out) : W p l e (headSpec ws_Mo_element { frames := 2, cells := 0, slots := 0, locals := 48 }).room s m args below meth c H locs 0 0 (MQ below (QcI D A g out.1 (fun (_ : Unit) => w_Mo g a0 out.2 ++ (rest))) args s 0 0 A) (F0 m 95 ls []) := by
  have X1 := X
  obtain ⟨hx, hb, hml, hown, hts, hr, hlocks, hKK⟩ := X1
  have ht : ∀ w ∈ TB, w.before args s = true := fun w h => hts w (List.mem_cons_of_mem _ h)
  have hK := hKK.1
  unfold B_Mo_element_95 at h
  refine lv_aload_n hx hb d_Mo_element_95 rfl (lv_at hl 0 rfl) ?_
  refine lv_bipush (v := 7) hx hb d_Mo_element_96 (by decide) ?_
  refine lv_aload_n hx hb d_Mo_element_98 rfl (lv_at hl 0 rfl) ?_
  refine gt_Mo_at hx hb ht hown hK hI (ht _ m_841) d_Mo_element_99 ?_
  obtain ⟨o1, ho2, h⟩ := bd_s h
  refine cl_i (W1 := fun (_ : Unit) => w_Mo g a0 o1.2 ++ (rest)) (va_runV (As := [.int (7 : Int32), .int (Mo_at s0)]) (rest := []) ⟨hx, hb, hml, hown, ht⟩ (c_Mo_wrong (l := l) (D := D) (A := A) (g := g) (rest := rest) (a0 := a0) ho2) (cwV 2 ht (gd_V m_1007 m_1009 mp_42 m_11 m_1010) rfl rfl rfl (by decide +kernel) ⟨(Nat.le_of_ble_eq_true rfl), (Nat.le_of_ble_eq_true rfl)⟩) (prV (ci := 9) (q0 := 0) hKK hI (List.Perm.refl _) rfl rfl rfl) rfl rfl hl.1 rfl (lv_room (Nat.le_of_ble_eq_true rfl)) d_Mo_element_102 ⟨(Nat.le_of_ble_eq_true rfl), (Nat.le_of_ble_eq_true rfl)⟩) hS (fun _ => ((List.Perm.refl _)).symm) (fun _ H locs hI hS => ?_)
  have hI : Iw D A (w_Mo g a0 o1.2 ++ (rest)) H := hI
  have hc3 : o1.1 = 0 ∨ o1.1 = 1 := by
    by_cases z : o1.1 = 0 ∨ o1.1 = 1
    · exact z
    · exact no_s (it_f h z)
  have h := it_t h hc3
  have h9 := Option.some.inj h
  subst h9
  exact W.zret (v := o1.1) hx hb hr (by rcases hc3 with z | z <;> rw [z] <;> rfl) (fun t ht hW => ⟨⟨_, (), rfl, rfl, ⟨by rw [ht]; exact hI, hKK.moved hW⟩⟩, hS.F ht⟩) hS.2.2 d_Mo_element_105
set_option maxRecDepth 100000 in
set_option maxHeartbeats 4000000 in
theorem t_Mo_element_83 {p : Program} {l : Launch} {e : Env} {s : State} {m : MethodId} {args : Array Value} {below : List Frame} {meth : Method} {c : Code} {D : va_G} {A : Nat → Prop} {g : Nat → ClassId} {rest : va_W} {a0 : Nat → Nat} {ls : Array Slot} {H : Heap} {locs : List Loc} {s0 : S_Mo} {x1 : Int32} {x2 : Int32} {x3 : Int32} {x4 : Int32} {x5 : Int32} {out : Int32 × S_Mo} (X : Cx p s m args meth c prog_11_method_11_code 12 ws_Mo_element R_Mo (some .boolean) D g) (hl : lv_has ls 12 [(0, .ref (a0 0)), (1, .int x1), (2, .int x2), (3, .int x3), (4, .int x4), (5, .int x5)]) (hI : Iw D A (w_Mo g a0 s0 ++ (rest)) H) (hS : va_S A s.heap H locs) (h : B_Mo_element_83  s0 x1 x2 x3 x4 x5 = some out) : W p l e (headSpec ws_Mo_element { frames := 2, cells := 0, slots := 0, locals := 48 }).room s m args below meth c H locs 0 0 (MQ below (QcI D A g out.1 (fun (_ : Unit) => w_Mo g a0 out.2 ++ (rest))) args s 0 0 A) (F0 m 83 ls []) := by
  have X1 := X
  obtain ⟨hx, hb, hml, hown, hts, hr, hlocks, hKK⟩ := X1
  have ht : ∀ w ∈ TB, w.before args s = true := fun w h => hts w (List.mem_cons_of_mem _ h)
  have hK := hKK.1
  unfold B_Mo_element_83 at h
  refine lv_aload_n hx hb d_Mo_element_83 rfl (lv_at hl 0 rfl) ?_
  refine gt_Mo_many hx hb ht hown hK hI (ht _ m_831) d_Mo_element_84 ?_
  refine lv_iload hx hb d_Mo_element_87 (lv_at hl 4 rfl) ?_
  by_cases hc1 : (x4 < 0 ∨ 260 ≤ x4.toNatClampNeg)
  · exact no_s (it_t h hc1)
  have h := it_f h hc1
  refine al_Mo_many hx hb hK hI hc1 d_Mo_element_89 ?_
  refine lv_bipush (v := 10) hx hb d_Mo_element_90 (by decide) ?_
  refine lv_icmp_ne (tgt := 106) hx hb d_Mo_element_92 (by decide) (fun hc => ?_) (fun hc => ?_)
  · have h := it_f h hc
    exact t_Mo_element_106 X (lv_sub hl [0, 1, 2, 3, 4, 5] rfl) hI hS h
  · have h := it_t h hc
    exact t_Mo_element_95 X (lv_sub hl [0] rfl) hI hS h
set_option maxRecDepth 100000 in
set_option maxHeartbeats 4000000 in
theorem t_Mo_element_66 {p : Program} {l : Launch} {e : Env} {s : State} {m : MethodId} {args : Array Value} {below : List Frame} {meth : Method} {c : Code} {D : va_G} {A : Nat → Prop} {g : Nat → ClassId} {rest : va_W} {a0 : Nat → Nat} {ls : Array Slot} {H : Heap} {locs : List Loc} {s0 : S_Mo} {x1 : Int32} {x2 : Int32} {x3 : Int32} {x4 : Int32} {x5 : Int32} {x6 : Int32} {out : Int32 × S_Mo} (X : Cx p s m args meth c prog_11_method_11_code 12 ws_Mo_element R_Mo (some .boolean) D g) (hl : lv_has ls 12 [(0, .ref (a0 0)), (1, .int x1), (2, .int x2), (3, .int x3), (4, .int x4), (5, .int x5), (6, .int x6)]) (hI : Iw D A (w_Mo g a0 s0 ++ (rest)) H) (hS : va_S A s.heap H locs) (h : B_Mo_element_66  s0 x1 x2 x3 x4 x5 x6 = some out) : W p l e (headSpec ws_Mo_element { frames := 2, cells := 0, slots := 0, locals := 48 }).room s m args below meth c H locs 0 0 (MQ below (QcI D A g out.1 (fun (_ : Unit) => w_Mo g a0 out.2 ++ (rest))) args s 0 0 A) (F0 m 66 ls []) := by
  have X1 := X
  obtain ⟨hx, hb, hml, hown, hts, hr, hlocks, hKK⟩ := X1
  have ht : ∀ w ∈ TB, w.before args s = true := fun w h => hts w (List.mem_cons_of_mem _ h)
  have hK := hKK.1
  unfold B_Mo_element_66 at h
  refine lv_iload hx hb d_Mo_element_66 (lv_at hl 5 rfl) ?_
  refine lv_iload hx hb d_Mo_element_68 (lv_at hl 6 rfl) ?_
  refine lv_icmp_gt (tgt := 83) hx hb d_Mo_element_70 (by decide) (fun hc => ?_) (fun hc => ?_)
  · have h := it_t h hc
    exact t_Mo_element_83 X (lv_sub hl [0, 1, 2, 3, 4, 5] rfl) hI hS h
  · have h := it_f h hc
    exact t_Mo_element_73 X (lv_sub hl [0] rfl) hI hS h
set_option maxRecDepth 100000 in
set_option maxHeartbeats 4000000 in
theorem t_Mo_element_52 {p : Program} {l : Launch} {e : Env} {s : State} {m : MethodId} {args : Array Value} {below : List Frame} {meth : Method} {c : Code} {D : va_G} {A : Nat → Prop} {g : Nat → ClassId} {rest : va_W} {a0 : Nat → Nat} {ls : Array Slot} {H : Heap} {locs : List Loc} {s0 : S_Mo} {x1 : Int32} {x2 : Int32} {x3 : Int32} {x4 : Int32} {x5 : Int32} {y0 : Int32} {out : Int32 × S_Mo} (X : Cx p s m args meth c prog_11_method_11_code 12 ws_Mo_element R_Mo (some .boolean) D g) (hl : lv_has ls 12 [(0, .ref (a0 0)), (1, .int x1), (2, .int x2), (3, .int x3), (4, .int x4), (5, .int x5)]) (hI : Iw D A (w_Mo g a0 s0 ++ (rest)) H) (hS : va_S A s.heap H locs) (h : B_Mo_element_52  s0 x1 x2 x3 x4 x5 y0 = some out) : W p l e (headSpec ws_Mo_element { frames := 2, cells := 0, slots := 0, locals := 48 }).room s m args below meth c H locs 0 0 (MQ below (QcI D A g out.1 (fun (_ : Unit) => w_Mo g a0 out.2 ++ (rest))) args s 0 0 A) (F0 m 52 ls [.int y0]) := by
  have X1 := X
  obtain ⟨hx, hb, hml, hown, hts, hr, hlocks, hKK⟩ := X1
  have ht : ∀ w ∈ TB, w.before args s = true := fun w h => hts w (List.mem_cons_of_mem _ h)
  have hK := hKK.1
  unfold B_Mo_element_52 at h
  refine lv_istore hx hb d_Mo_element_52 hl (Nat.le_of_ble_eq_true rfl) rfl (fun ls hl => ?_)
  have hl : lv_has ls 12 [(6, .int y0), (0, .ref (a0 0)), (1, .int x1), (2, .int x2), (3, .int x3), (4, .int x4), (5, .int x5)] := hl
  refine lv_iload hx hb d_Mo_element_54 (lv_at hl 6 rfl) ?_
  refine lv_iconst (v := 1) hx hb d_Mo_element_56 (by decide) ?_
  refine lv_sipush (v := 200) hx hb d_Mo_element_57 (by decide) ?_
  obtain ⟨o1, ho2, h⟩ := bd_s h
  refine cl_i (W1 := fun (_ : Unit) => w_Mo g a0 s0 ++ (rest)) (va_runS (As := [.int x5, .int (1 : Int32), .int (200 : Int32)]) (rest := []) ⟨hx, hb, hml, hown, ht⟩ (c_Mo_in (l := l) (D := D) (A := A) (g := g) (rest := w_Mo g a0 s0 ++ (rest))  ho2) (va_cwS 3 ht (gd_S m_975 m_976 m_11 m_977) rfl rfl rfl (by decide +kernel) ⟨(Nat.le_of_ble_eq_true rfl), (Nat.le_of_ble_eq_true rfl)⟩) (prS hKK hI (List.Perm.refl _)) rfl rfl hl.1 rfl (lv_room (Nat.le_of_ble_eq_true rfl)) d_Mo_element_60 ⟨(Nat.le_of_ble_eq_true rfl), (Nat.le_of_ble_eq_true rfl)⟩) hS (fun _ => ((List.Perm.refl _)).symm) (fun _ H locs hI hS => ?_)
  have hI : Iw D A (w_Mo g a0 s0 ++ (rest)) H := hI
  refine lv_if_eq (tgt := 73) hx hb d_Mo_element_63 (by decide) (fun hc => ?_) (fun hc => ?_)
  · have h := it_t h hc
    exact t_Mo_element_73 X (lv_sub hl [1] rfl) hI hS h
  · have h := it_f h hc
    exact t_Mo_element_66 X (lv_sub hl [1, 2, 3, 4, 5, 6, 0] rfl) hI hS h
set_option maxRecDepth 100000 in
set_option maxHeartbeats 4000000 in
theorem t_Mo_element_40 {p : Program} {l : Launch} {e : Env} {s : State} {m : MethodId} {args : Array Value} {below : List Frame} {meth : Method} {c : Code} {D : va_G} {A : Nat → Prop} {g : Nat → ClassId} {rest : va_W} {a0 : Nat → Nat} {ls : Array Slot} {H : Heap} {locs : List Loc} {s0 : S_Mo} {x1 : Int32} {x2 : Int32} {x3 : Int32} {x4 : Int32} {x5 : Int32} {out : Int32 × S_Mo} (X : Cx p s m args meth c prog_11_method_11_code 12 ws_Mo_element R_Mo (some .boolean) D g) (hl : lv_has ls 12 [(0, .ref (a0 0)), (1, .int x1), (2, .int x2), (3, .int x3), (4, .int x4), (5, .int x5)]) (hI : Iw D A (w_Mo g a0 s0 ++ (rest)) H) (hS : va_S A s.heap H locs) (h : B_Mo_element_40  s0 x1 x2 x3 x4 x5 = some out) : W p l e (headSpec ws_Mo_element { frames := 2, cells := 0, slots := 0, locals := 48 }).room s m args below meth c H locs 0 0 (MQ below (QcI D A g out.1 (fun (_ : Unit) => w_Mo g a0 out.2 ++ (rest))) args s 0 0 A) (F0 m 40 ls []) := by
  have X1 := X
  obtain ⟨hx, hb, hml, hown, hts, hr, hlocks, hKK⟩ := X1
  have ht : ∀ w ∈ TB, w.before args s = true := fun w h => hts w (List.mem_cons_of_mem _ h)
  have hK := hKK.1
  unfold B_Mo_element_40 at h
  refine lv_aload_n hx hb d_Mo_element_40 rfl (lv_at hl 0 rfl) ?_
  refine gt_Mo_tag hx hb ht hown hK hI (ht _ m_824) d_Mo_element_41 ?_
  refine lv_aload_n hx hb d_Mo_element_44 rfl (lv_at hl 0 rfl) ?_
  refine gt_Mo_last hx hb ht hown hK hI (ht _ m_830) d_Mo_element_45 ?_
  refine lv_iload hx hb d_Mo_element_48 (lv_at hl 4 rfl) ?_
  by_cases hc1 : (x4 < 0 ∨ 260 ≤ x4.toNatClampNeg)
  · exact no_s (it_t h hc1)
  have h := it_f h hc1
  refine al_Mo_last hx hb hK hI hc1 d_Mo_element_50 ?_
  by_cases hc2 : (((Mo_last s0) x4.toNatClampNeg) < 0 ∨ 260 ≤ ((Mo_last s0) x4.toNatClampNeg).toNatClampNeg)
  · exact no_s (it_t h hc2)
  have h := it_f h hc2
  refine al_Mo_tag hx hb hK hI hc2 d_Mo_element_51 ?_
  exact t_Mo_element_52 X (lv_sub hl [0, 1, 2, 3, 4, 5] rfl) hI hS h
set_option maxRecDepth 100000 in
set_option maxHeartbeats 4000000 in
theorem t_Mo_element_36 {p : Program} {l : Launch} {e : Env} {s : State} {m : MethodId} {args : Array Value} {below : List Frame} {meth : Method} {c : Code} {D : va_G} {A : Nat → Prop} {g : Nat → ClassId} {rest : va_W} {a0 : Nat → Nat} {ls : Array Slot} {H : Heap} {locs : List Loc} {s0 : S_Mo} {x1 : Int32} {x2 : Int32} {x3 : Int32} {x4 : Int32} {x5 : Int32} {out : Int32 × S_Mo} (X : Cx p s m args meth c prog_11_method_11_code 12 ws_Mo_element R_Mo (some .boolean) D g) (hl : lv_has ls 12 [(0, .ref (a0 0)), (1, .int x1), (2, .int x2), (3, .int x3), (4, .int x4), (5, .int x5)]) (hI : Iw D A (w_Mo g a0 s0 ++ (rest)) H) (hS : va_S A s.heap H locs) (h : B_Mo_element_36  s0 x1 x2 x3 x4 x5 = some out) : W p l e (headSpec ws_Mo_element { frames := 2, cells := 0, slots := 0, locals := 48 }).room s m args below meth c H locs 0 0 (MQ below (QcI D A g out.1 (fun (_ : Unit) => w_Mo g a0 out.2 ++ (rest))) args s 0 0 A) (F0 m 36 ls []) := by
  have X1 := X
  obtain ⟨hx, hb, hml, hown, hts, hr, hlocks, hKK⟩ := X1
  have ht : ∀ w ∈ TB, w.before args s = true := fun w h => hts w (List.mem_cons_of_mem _ h)
  have hK := hKK.1
  unfold B_Mo_element_36 at h
  refine lv_iconst (v := 0) hx hb d_Mo_element_36 (by decide) ?_
  refine lv_goto (tgt := 52) hx hb d_Mo_element_37 (by decide) ?_
  exact t_Mo_element_52 X (lv_sub hl [0, 1, 2, 3, 4, 5] rfl) hI hS h
set_option maxRecDepth 100000 in
set_option maxHeartbeats 4000000 in
theorem t_Mo_element_0 {p : Program} {l : Launch} {e : Env} {s : State} {m : MethodId} {args : Array Value} {below : List Frame} {meth : Method} {c : Code} {D : va_G} {A : Nat → Prop} {g : Nat → ClassId} {rest : va_W} {a0 : Nat → Nat} {ls : Array Slot} {H : Heap} {locs : List Loc} {s0 : S_Mo} {x1 : Int32} {x2 : Int32} {out : Int32 × S_Mo} (X : Cx p s m args meth c prog_11_method_11_code 12 ws_Mo_element R_Mo (some .boolean) D g) (hl : lv_has ls 12 [(0, .ref (a0 0)), (1, .int x1), (2, .int x2)]) (hI : Iw D A (w_Mo g a0 s0 ++ (rest)) H) (hS : va_S A s.heap H locs) (h : B_Mo_element_0  s0 x1 x2 = some out) : W p l e (headSpec ws_Mo_element { frames := 2, cells := 0, slots := 0, locals := 48 }).room s m args below meth c H locs 0 0 (MQ below (QcI D A g out.1 (fun (_ : Unit) => w_Mo g a0 out.2 ++ (rest))) args s 0 0 A) (F0 m 0 ls []) := by
  have X1 := X
  obtain ⟨hx, hb, hml, hown, hts, hr, hlocks, hKK⟩ := X1
  have ht : ∀ w ∈ TB, w.before args s = true := fun w h => hts w (List.mem_cons_of_mem _ h)
  have hK := hKK.1
  unfold B_Mo_element_0 at h
  refine lv_aload_n hx hb d_Mo_element_0 rfl (lv_at hl 0 rfl) ?_
  refine gt_Mo_depth hx hb ht hown hK hI (ht _ m_837) d_Mo_element_1 ?_
  refine lv_iconst (v := 1) hx hb d_Mo_element_4 (by decide) ?_
  refine lv_isub hx hb d_Mo_element_5 ?_
  refine lv_istore_n hx hb d_Mo_element_6 rfl hl (Nat.le_of_ble_eq_true rfl) rfl (fun ls hl => ?_)
  have hl : lv_has ls 12 [(3, .int ((Mo_depth s0) - (1 : Int32))), (0, .ref (a0 0)), (1, .int x1), (2, .int x2)] := hl
  refine lv_aload_n hx hb d_Mo_element_7 rfl (lv_at hl 1 rfl) ?_
  refine gt_Mo_node hx hb ht hown hK hI (ht _ m_838) d_Mo_element_8 ?_
  refine lv_iload_n hx hb d_Mo_element_11 rfl (lv_at hl 0 rfl) ?_
  by_cases hc1 : (((Mo_depth s0) - (1 : Int32)) < 0 ∨ 6 ≤ ((Mo_depth s0) - (1 : Int32)).toNatClampNeg)
  · exact no_s (it_t h hc1)
  have h := it_f h hc1
  refine al_Mo_node hx hb hK hI hc1 d_Mo_element_12 ?_
  refine lv_istore hx hb d_Mo_element_13 hl (Nat.le_of_ble_eq_true rfl) rfl (fun ls hl => ?_)
  have hl : lv_has ls 12 [(4, .int ((Mo_node s0) ((Mo_depth s0) - (1 : Int32)).toNatClampNeg)), (3, .int ((Mo_depth s0) - (1 : Int32))), (0, .ref (a0 0)), (1, .int x1), (2, .int x2)] := hl
  refine lv_aload_n hx hb d_Mo_element_15 rfl (lv_at hl 2 rfl) ?_
  refine gt_Mo_source hx hb ht hown hK hI (ht _ m_820) d_Mo_element_16 ?_
  refine lv_aload_n hx hb d_Mo_element_19 rfl (lv_at hl 2 rfl) ?_
  refine gt_Mo_at hx hb ht hown hK hI (ht _ m_841) d_Mo_element_20 ?_
  by_cases hc2 : ((Mo_at s0) < 0 ∨ 240 ≤ (Mo_at s0).toNatClampNeg)
  · exact no_s (it_t h hc2)
  have h := it_f h hc2
  refine al_Mo_source hx hb hK hI hc2 d_Mo_element_23 ?_
  refine lv_istore hx hb d_Mo_element_24 hl (Nat.le_of_ble_eq_true rfl) rfl (fun ls hl => ?_)
  have hl : lv_has ls 12 [(5, .int ((Mo_source s0) (Mo_at s0).toNatClampNeg)), (4, .int ((Mo_node s0) ((Mo_depth s0) - (1 : Int32)).toNatClampNeg)), (3, .int ((Mo_depth s0) - (1 : Int32))), (0, .ref (a0 0)), (1, .int x1), (2, .int x2)] := hl
  refine lv_aload_n hx hb d_Mo_element_26 rfl (lv_at hl 3 rfl) ?_
  refine gt_Mo_many hx hb ht hown hK hI (ht _ m_831) d_Mo_element_27 ?_
  refine lv_iload hx hb d_Mo_element_30 (lv_at hl 1 rfl) ?_
  by_cases hc3 : (((Mo_node s0) ((Mo_depth s0) - (1 : Int32)).toNatClampNeg) < 0 ∨ 260 ≤ ((Mo_node s0) ((Mo_depth s0) - (1 : Int32)).toNatClampNeg).toNatClampNeg)
  · exact no_s (it_t h hc3)
  have h := it_f h hc3
  refine al_Mo_many hx hb hK hI hc3 d_Mo_element_32 ?_
  refine lv_if_ne (tgt := 40) hx hb d_Mo_element_33 (by decide) (fun hc => ?_) (fun hc => ?_)
  · have h := it_f h hc
    exact t_Mo_element_40 X (lv_sub hl [3, 4, 5, 2, 1, 0] rfl) hI hS h
  · have h := it_t h hc
    exact t_Mo_element_36 X (lv_sub hl [3, 4, 5, 2, 1, 0] rfl) hI hS h
set_option maxRecDepth 100000 in
set_option maxHeartbeats 4000000 in
theorem c_Mo_element {l : Launch} {D : va_G} {A : Nat → Prop} {g : Nat → ClassId} {rest : va_W} {a0 : Nat → Nat} {s0 : S_Mo} {x1 : Int32} {x2 : Int32} {out : Int32 × S_Mo} (h : F_Mo_element s0 x1 x2 = some out) : Met l y_Mo_element ws_Mo_element { frames := 2, cells := 0, slots := 0, locals := 48 } (PcW D A g [.ref (a0 0), .int x1, .int x2] (w_Mo g a0 s0 ++ (rest))) (QcI D A g out.1 (fun (_ : Unit) => w_Mo g a0 out.2 ++ (rest))) 0 0 A := by
  refine Met.ofW (cc := prog_11_method_11_code) (maxL := 12) (ret := (some .boolean)) (by decide) rfl ?_
  intro p e s m args below meth c s₁ B hml hv
  obtain ⟨rfl, hI, hK⟩ := hv
  have hl := lv_entry [.ref (a0 0), .int x1, .int x2] (n := 12) (Nat.le_of_ble_eq_true rfl)
  rw [lg_entry_eq]
  generalize (lg_sl [.ref (a0 0), .int x1, .int x2] ++ List.replicate (12 - (lg_sl [.ref (a0 0), .int x1, .int x2]).length) Slot.unset).toArray = ls at hl ⊢
  have hl : lv_has ls 12 [(0, .ref (a0 0)), (1, .int x1), (2, .int x2)] := hl
  exact t_Mo_element_0 ⟨B.exec, B.bytes, hml, findClass_of_methodNamed B.named, atoms_spec (ws := ws_Mo_element) B.pre, B.returns, B.notSynchronized, hK⟩ (lv_sub hl [0, 1, 2] rfl) hI va_S.rf h
