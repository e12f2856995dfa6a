theorem d_Mo_find_0 : decode prog_11_method_48_code 0 = .ok (.iconst 1, 1) := by decide +kernel
theorem d_Mo_find_1 : decode prog_11_method_48_code 1 = .ok (.istore_n 2, 1) := by decide +kernel
theorem d_Mo_find_2 : decode prog_11_method_48_code 2 = .ok (.iconst 0, 1) := by decide +kernel
theorem d_Mo_find_3 : decode prog_11_method_48_code 3 = .ok (.istore_n 3, 1) := by decide +kernel
theorem d_Mo_find_4 : decode prog_11_method_48_code 4 = .ok (.iload_n 3, 1) := by decide +kernel
theorem d_Mo_find_5 : decode prog_11_method_48_code 5 = .ok (.aload_n 0, 1) := by decide +kernel
theorem d_Mo_find_6 : decode prog_11_method_48_code 6 = .ok (.getfield 284, 3) := by decide +kernel
theorem d_Mo_find_9 : decode prog_11_method_48_code 9 = .ok (.if_icmp .ge 42, 3) := by decide +kernel
theorem d_Mo_find_12 : decode prog_11_method_48_code 12 = .ok (.iload_n 2, 1) := by decide +kernel
theorem d_Mo_find_13 : decode prog_11_method_48_code 13 = .ok (.ifCond .eq 38, 3) := by decide +kernel
theorem d_Mo_find_16 : decode prog_11_method_48_code 16 = .ok (.aload_n 0, 1) := by decide +kernel
theorem d_Mo_find_17 : decode prog_11_method_48_code 17 = .ok (.iload_n 3, 1) := by decide +kernel
theorem d_Mo_find_18 : decode prog_11_method_48_code 18 = .ok (.invokevirtual 287, 3) := by decide +kernel
theorem d_Mo_find_21 : decode prog_11_method_48_code 21 = .ok (.aload_n 0, 1) := by decide +kernel
theorem d_Mo_find_22 : decode prog_11_method_48_code 22 = .ok (.invokevirtual 290, 3) := by decide +kernel
theorem d_Mo_find_25 : decode prog_11_method_48_code 25 = .ok (.ifCond .eq 20, 3) := by decide +kernel
theorem d_Mo_find_28 : decode prog_11_method_48_code 28 = .ok (.aload_n 0, 1) := by decide +kernel
theorem d_Mo_find_29 : decode prog_11_method_48_code 29 = .ok (.iconst 1, 1) := by decide +kernel
theorem d_Mo_find_30 : decode prog_11_method_48_code 30 = .ok (.iconst 1, 1) := by decide +kernel
theorem d_Mo_find_31 : decode prog_11_method_48_code 31 = .ok (.invokevirtual 271, 3) := by decide +kernel
theorem d_Mo_find_34 : decode prog_11_method_48_code 34 = .ok (.istore_n 2, 1) := by decide +kernel
theorem d_Mo_find_35 : decode prog_11_method_48_code 35 = .ok (.iload_n 2, 1) := by decide +kernel
theorem d_Mo_find_36 : decode prog_11_method_48_code 36 = .ok (.ifCond .eq 9, 3) := by decide +kernel
theorem d_Mo_find_39 : decode prog_11_method_48_code 39 = .ok (.aload_n 0, 1) := by decide +kernel
theorem d_Mo_find_40 : decode prog_11_method_48_code 40 = .ok (.iload_n 1, 1) := by decide +kernel
theorem d_Mo_find_41 : decode prog_11_method_48_code 41 = .ok (.invokevirtual 293, 3) := by decide +kernel
theorem d_Mo_find_44 : decode prog_11_method_48_code 44 = .ok (.istore_n 2, 1) := by decide +kernel
theorem d_Mo_find_45 : decode prog_11_method_48_code 45 = .ok (.iinc 3 1, 3) := by decide +kernel
theorem d_Mo_find_48 : decode prog_11_method_48_code 48 = .ok (.goto (-44), 3) := by decide +kernel
theorem d_Mo_find_51 : decode prog_11_method_48_code 51 = .ok (.iload_n 2, 1) := by decide +kernel
theorem d_Mo_find_52 : decode prog_11_method_48_code 52 = .ok (.ifCond .eq 10, 3) := by decide +kernel
theorem d_Mo_find_55 : decode prog_11_method_48_code 55 = .ok (.aload_n 0, 1) := by decide +kernel
theorem d_Mo_find_56 : decode prog_11_method_48_code 56 = .ok (.iconst 0, 1) := by decide +kernel
theorem d_Mo_find_57 : decode prog_11_method_48_code 57 = .ok (.iconst 0, 1) := by decide +kernel
theorem d_Mo_find_58 : decode prog_11_method_48_code 58 = .ok (.invokevirtual 271, 3) := by decide +kernel
theorem d_Mo_find_61 : decode prog_11_method_48_code 61 = .ok (.pop, 1) := by decide +kernel
theorem d_Mo_find_62 : decode prog_11_method_48_code 62 = .ok (.return_, 1) := by decide +kernel
theorem d_Mo_placeOf_0 : decode prog_11_method_47_code 0 = .ok (.iconst 0, 1) := by decide +kernel
theorem d_Mo_placeOf_1 : decode prog_11_method_47_code 1 = .ok (.istore_n 2, 1) := by decide +kernel
theorem d_Mo_placeOf_2 : decode prog_11_method_47_code 2 = .ok (.iload_n 2, 1) := by decide +kernel
theorem d_Mo_placeOf_3 : decode prog_11_method_47_code 3 = .ok (.aload_n 0, 1) := by decide +kernel
theorem d_Mo_placeOf_4 : decode prog_11_method_47_code 4 = .ok (.getfield 284, 3) := by decide +kernel
theorem d_Mo_placeOf_7 : decode prog_11_method_47_code 7 = .ok (.if_icmp .ge 140, 3) := by decide +kernel
theorem d_Mo_placeOf_10 : decode prog_11_method_47_code 10 = .ok (.aload_n 0, 1) := by decide +kernel
theorem d_Mo_placeOf_11 : decode prog_11_method_47_code 11 = .ok (.iload_n 2, 1) := by decide +kernel
theorem d_Mo_placeOf_12 : decode prog_11_method_47_code 12 = .ok (.invokevirtual 287, 3) := by decide +kernel
theorem d_Mo_placeOf_15 : decode prog_11_method_47_code 15 = .ok (.aload_n 0, 1) := by decide +kernel
theorem d_Mo_placeOf_16 : decode prog_11_method_47_code 16 = .ok (.getfield 34, 3) := by decide +kernel
theorem d_Mo_placeOf_19 : decode prog_11_method_47_code 19 = .ok (.sipush 130, 3) := by decide +kernel
theorem d_Mo_placeOf_22 : decode prog_11_method_47_code 22 = .ok (.iaload, 1) := by decide +kernel
theorem d_Mo_placeOf_23 : decode prog_11_method_47_code 23 = .ok (.istore_n 3, 1) := by decide +kernel
theorem d_Mo_placeOf_24 : decode prog_11_method_47_code 24 = .ok (.iload_n 3, 1) := by decide +kernel
theorem d_Mo_placeOf_25 : decode prog_11_method_47_code 25 = .ok (.ifCond .lt 116, 3) := by decide +kernel
theorem d_Mo_placeOf_28 : decode prog_11_method_47_code 28 = .ok (.aload_n 0, 1) := by decide +kernel
theorem d_Mo_placeOf_29 : decode prog_11_method_47_code 29 = .ok (.getfield 22, 3) := by decide +kernel
theorem d_Mo_placeOf_32 : decode prog_11_method_47_code 32 = .ok (.iload_n 3, 1) := by decide +kernel
theorem d_Mo_placeOf_33 : decode prog_11_method_47_code 33 = .ok (.iaload, 1) := by decide +kernel
theorem d_Mo_placeOf_34 : decode prog_11_method_47_code 34 = .ok (.bipush 80, 2) := by decide +kernel
theorem d_Mo_placeOf_36 : decode prog_11_method_47_code 36 = .ok (.if_icmp .ne 22, 3) := by decide +kernel
theorem d_Mo_placeOf_39 : decode prog_11_method_47_code 39 = .ok (.aload_n 0, 1) := by decide +kernel
theorem d_Mo_placeOf_40 : decode prog_11_method_47_code 40 = .ok (.getfield 25, 3) := by decide +kernel
theorem d_Mo_placeOf_43 : decode prog_11_method_47_code 43 = .ok (.iload_n 3, 1) := by decide +kernel
theorem d_Mo_placeOf_44 : decode prog_11_method_47_code 44 = .ok (.iaload, 1) := by decide +kernel
theorem d_Mo_placeOf_45 : decode prog_11_method_47_code 45 = .ok (.aload_n 0, 1) := by decide +kernel
theorem d_Mo_placeOf_46 : decode prog_11_method_47_code 46 = .ok (.getfield 25, 3) := by decide +kernel
theorem d_Mo_placeOf_49 : decode prog_11_method_47_code 49 = .ok (.iload_n 1, 1) := by decide +kernel
theorem d_Mo_placeOf_50 : decode prog_11_method_47_code 50 = .ok (.iaload, 1) := by decide +kernel
theorem d_Mo_placeOf_51 : decode prog_11_method_47_code 51 = .ok (.if_icmp .ne 7, 3) := by decide +kernel
theorem d_Mo_placeOf_54 : decode prog_11_method_47_code 54 = .ok (.iconst 1, 1) := by decide +kernel
theorem d_Mo_placeOf_55 : decode prog_11_method_47_code 55 = .ok (.goto 4, 3) := by decide +kernel
theorem d_Mo_placeOf_58 : decode prog_11_method_47_code 58 = .ok (.iconst 0, 1) := by decide +kernel
theorem d_Mo_placeOf_59 : decode prog_11_method_47_code 59 = .ok (.istore 4, 2) := by decide +kernel
theorem d_Mo_placeOf_61 : decode prog_11_method_47_code 61 = .ok (.iconst 0, 1) := by decide +kernel
theorem d_Mo_placeOf_62 : decode prog_11_method_47_code 62 = .ok (.istore 5, 2) := by decide +kernel
theorem d_Mo_placeOf_64 : decode prog_11_method_47_code 64 = .ok (.iload 5, 2) := by decide +kernel
theorem d_Mo_placeOf_66 : decode prog_11_method_47_code 66 = .ok (.aload_n 0, 1) := by decide +kernel
theorem d_Mo_placeOf_67 : decode prog_11_method_47_code 67 = .ok (.getfield 25, 3) := by decide +kernel
theorem d_Mo_placeOf_70 : decode prog_11_method_47_code 70 = .ok (.iload_n 1, 1) := by decide +kernel
theorem d_Mo_placeOf_71 : decode prog_11_method_47_code 71 = .ok (.iaload, 1) := by decide +kernel
theorem d_Mo_placeOf_72 : decode prog_11_method_47_code 72 = .ok (.if_icmp .ge 52, 3) := by decide +kernel
theorem d_Mo_placeOf_75 : decode prog_11_method_47_code 75 = .ok (.iload 4, 2) := by decide +kernel
theorem d_Mo_placeOf_77 : decode prog_11_method_47_code 77 = .ok (.ifCond .eq 47, 3) := by decide +kernel
theorem d_Mo_placeOf_80 : decode prog_11_method_47_code 80 = .ok (.aload_n 0, 1) := by decide +kernel
theorem d_Mo_placeOf_81 : decode prog_11_method_47_code 81 = .ok (.getfield 52, 3) := by decide +kernel
theorem d_Mo_placeOf_84 : decode prog_11_method_47_code 84 = .ok (.aload_n 0, 1) := by decide +kernel
theorem d_Mo_placeOf_85 : decode prog_11_method_47_code 85 = .ok (.getfield 28, 3) := by decide +kernel
theorem d_Mo_placeOf_88 : decode prog_11_method_47_code 88 = .ok (.iload_n 3, 1) := by decide +kernel
theorem d_Mo_placeOf_89 : decode prog_11_method_47_code 89 = .ok (.iaload, 1) := by decide +kernel
theorem d_Mo_placeOf_90 : decode prog_11_method_47_code 90 = .ok (.iload 5, 2) := by decide +kernel
theorem d_Mo_placeOf_92 : decode prog_11_method_47_code 92 = .ok (.iadd, 1) := by decide +kernel
theorem d_Mo_placeOf_93 : decode prog_11_method_47_code 93 = .ok (.iaload, 1) := by decide +kernel
theorem d_Mo_placeOf_94 : decode prog_11_method_47_code 94 = .ok (.aload_n 0, 1) := by decide +kernel
theorem d_Mo_placeOf_95 : decode prog_11_method_47_code 95 = .ok (.getfield 52, 3) := by decide +kernel
theorem d_Mo_placeOf_98 : decode prog_11_method_47_code 98 = .ok (.aload_n 0, 1) := by decide +kernel
theorem d_Mo_placeOf_99 : decode prog_11_method_47_code 99 = .ok (.getfield 28, 3) := by decide +kernel
theorem d_Mo_placeOf_102 : decode prog_11_method_47_code 102 = .ok (.iload_n 1, 1) := by decide +kernel
theorem d_Mo_placeOf_103 : decode prog_11_method_47_code 103 = .ok (.iaload, 1) := by decide +kernel
theorem d_Mo_placeOf_104 : decode prog_11_method_47_code 104 = .ok (.iload 5, 2) := by decide +kernel
theorem d_Mo_placeOf_106 : decode prog_11_method_47_code 106 = .ok (.iadd, 1) := by decide +kernel
theorem d_Mo_placeOf_107 : decode prog_11_method_47_code 107 = .ok (.iaload, 1) := by decide +kernel
theorem d_Mo_placeOf_108 : decode prog_11_method_47_code 108 = .ok (.if_icmp .ne 7, 3) := by decide +kernel
theorem d_Mo_placeOf_111 : decode prog_11_method_47_code 111 = .ok (.iconst 1, 1) := by decide +kernel
theorem d_Mo_placeOf_112 : decode prog_11_method_47_code 112 = .ok (.goto 4, 3) := by decide +kernel
theorem d_Mo_placeOf_115 : decode prog_11_method_47_code 115 = .ok (.iconst 0, 1) := by decide +kernel
theorem d_Mo_placeOf_116 : decode prog_11_method_47_code 116 = .ok (.istore 4, 2) := by decide +kernel
theorem d_Mo_placeOf_118 : decode prog_11_method_47_code 118 = .ok (.iinc 5 1, 3) := by decide +kernel
theorem d_Mo_placeOf_121 : decode prog_11_method_47_code 121 = .ok (.goto (-57), 3) := by decide +kernel
theorem d_Mo_placeOf_124 : decode prog_11_method_47_code 124 = .ok (.iload 4, 2) := by decide +kernel
theorem d_Mo_placeOf_126 : decode prog_11_method_47_code 126 = .ok (.ifCond .eq 5, 3) := by decide +kernel
theorem d_Mo_placeOf_129 : decode prog_11_method_47_code 129 = .ok (.iload_n 2, 1) := by decide +kernel
theorem d_Mo_placeOf_130 : decode prog_11_method_47_code 130 = .ok (.ireturn, 1) := by decide +kernel
theorem d_Mo_placeOf_131 : decode prog_11_method_47_code 131 = .ok (.aload_n 0, 1) := by decide +kernel
theorem d_Mo_placeOf_132 : decode prog_11_method_47_code 132 = .ok (.getfield 37, 3) := by decide +kernel
theorem d_Mo_placeOf_135 : decode prog_11_method_47_code 135 = .ok (.iload_n 3, 1) := by decide +kernel
theorem d_Mo_placeOf_136 : decode prog_11_method_47_code 136 = .ok (.iaload, 1) := by decide +kernel
theorem d_Mo_placeOf_137 : decode prog_11_method_47_code 137 = .ok (.istore_n 3, 1) := by decide +kernel
theorem d_Mo_placeOf_138 : decode prog_11_method_47_code 138 = .ok (.goto (-114), 3) := by decide +kernel
theorem d_Mo_placeOf_141 : decode prog_11_method_47_code 141 = .ok (.iinc 2 1, 3) := by decide +kernel
theorem d_Mo_placeOf_144 : decode prog_11_method_47_code 144 = .ok (.goto (-142), 3) := by decide +kernel
theorem d_Mo_placeOf_147 : decode prog_11_method_47_code 147 = .ok (.aload_n 0, 1) := by decide +kernel
theorem d_Mo_placeOf_148 : decode prog_11_method_47_code 148 = .ok (.getfield 284, 3) := by decide +kernel
theorem d_Mo_placeOf_151 : decode prog_11_method_47_code 151 = .ok (.ireturn, 1) := by decide +kernel
theorem d_Mo_store_0 : decode prog_11_method_45_code 0 = .ok (.iload_n 1, 1) := by decide +kernel
theorem d_Mo_store_1 : decode prog_11_method_45_code 1 = .ok (.ifCond .eq 26, 3) := by decide +kernel
theorem d_Mo_store_4 : decode prog_11_method_45_code 4 = .ok (.aload_n 0, 1) := by decide +kernel
theorem d_Mo_store_5 : decode prog_11_method_45_code 5 = .ok (.iconst 0, 1) := by decide +kernel
theorem d_Mo_store_6 : decode prog_11_method_45_code 6 = .ok (.iconst 0, 1) := by decide +kernel
theorem d_Mo_store_7 : decode prog_11_method_45_code 7 = .ok (.invokevirtual 180, 3) := by decide +kernel
theorem d_Mo_store_10 : decode prog_11_method_45_code 10 = .ok (.ifCond .eq 17, 3) := by decide +kernel
theorem d_Mo_store_13 : decode prog_11_method_45_code 13 = .ok (.aload_n 0, 1) := by decide +kernel
theorem d_Mo_store_14 : decode prog_11_method_45_code 14 = .ok (.getfield 155, 3) := by decide +kernel
theorem d_Mo_store_17 : decode prog_11_method_45_code 17 = .ok (.sipush 198, 3) := by decide +kernel
theorem d_Mo_store_20 : decode prog_11_method_45_code 20 = .ok (.if_icmp .gt 7, 3) := by decide +kernel
theorem d_Mo_store_23 : decode prog_11_method_45_code 23 = .ok (.iconst 1, 1) := by decide +kernel
theorem d_Mo_store_24 : decode prog_11_method_45_code 24 = .ok (.goto 4, 3) := by decide +kernel
theorem d_Mo_store_27 : decode prog_11_method_45_code 27 = .ok (.iconst 0, 1) := by decide +kernel
theorem d_Mo_store_28 : decode prog_11_method_45_code 28 = .ok (.istore_n 2, 1) := by decide +kernel
theorem d_Mo_store_29 : decode prog_11_method_45_code 29 = .ok (.iload_n 2, 1) := by decide +kernel
theorem d_Mo_store_30 : decode prog_11_method_45_code 30 = .ok (.ifCond .ne 7, 3) := by decide +kernel
theorem d_Mo_store_33 : decode prog_11_method_45_code 33 = .ok (.iconst 3, 1) := by decide +kernel
theorem d_Mo_store_34 : decode prog_11_method_45_code 34 = .ok (.goto 4, 3) := by decide +kernel
theorem d_Mo_store_37 : decode prog_11_method_45_code 37 = .ok (.iconst 0, 1) := by decide +kernel
theorem d_Mo_store_38 : decode prog_11_method_45_code 38 = .ok (.istore_n 3, 1) := by decide +kernel
theorem d_Mo_store_39 : decode prog_11_method_45_code 39 = .ok (.iconst (-1), 1) := by decide +kernel
theorem d_Mo_store_40 : decode prog_11_method_45_code 40 = .ok (.istore 4, 2) := by decide +kernel
theorem d_Mo_store_42 : decode prog_11_method_45_code 42 = .ok (.aload_n 0, 1) := by decide +kernel
theorem d_Mo_store_43 : decode prog_11_method_45_code 43 = .ok (.getfield 34, 3) := by decide +kernel
theorem d_Mo_store_46 : decode prog_11_method_45_code 46 = .ok (.iconst 0, 1) := by decide +kernel
theorem d_Mo_store_47 : decode prog_11_method_45_code 47 = .ok (.iaload, 1) := by decide +kernel
theorem d_Mo_store_48 : decode prog_11_method_45_code 48 = .ok (.istore 5, 2) := by decide +kernel
theorem d_Mo_store_50 : decode prog_11_method_45_code 50 = .ok (.iload 5, 2) := by decide +kernel
theorem d_Mo_store_52 : decode prog_11_method_45_code 52 = .ok (.ifCond .lt 50, 3) := by decide +kernel
theorem d_Mo_store_55 : decode prog_11_method_45_code 55 = .ok (.iload_n 2, 1) := by decide +kernel
theorem d_Mo_store_56 : decode prog_11_method_45_code 56 = .ok (.ifCond .eq 46, 3) := by decide +kernel
theorem d_Mo_store_59 : decode prog_11_method_45_code 59 = .ok (.aload_n 0, 1) := by decide +kernel
theorem d_Mo_store_60 : decode prog_11_method_45_code 60 = .ok (.getfield 22, 3) := by decide +kernel
theorem d_Mo_store_63 : decode prog_11_method_45_code 63 = .ok (.iload 5, 2) := by decide +kernel
theorem d_Mo_store_65 : decode prog_11_method_45_code 65 = .ok (.iaload, 1) := by decide +kernel
theorem d_Mo_store_66 : decode prog_11_method_45_code 66 = .ok (.bipush 80, 2) := by decide +kernel
theorem d_Mo_store_68 : decode prog_11_method_45_code 68 = .ok (.if_icmp .ne 18, 3) := by decide +kernel
theorem d_Mo_store_71 : decode prog_11_method_45_code 71 = .ok (.aload_n 0, 1) := by decide +kernel
theorem d_Mo_store_72 : decode prog_11_method_45_code 72 = .ok (.getfield 25, 3) := by decide +kernel
theorem d_Mo_store_75 : decode prog_11_method_45_code 75 = .ok (.iload 5, 2) := by decide +kernel
theorem d_Mo_store_77 : decode prog_11_method_45_code 77 = .ok (.iaload, 1) := by decide +kernel
theorem d_Mo_store_78 : decode prog_11_method_45_code 78 = .ok (.ifCond .le 8, 3) := by decide +kernel
theorem d_Mo_store_81 : decode prog_11_method_45_code 81 = .ok (.iload 5, 2) := by decide +kernel
theorem d_Mo_store_83 : decode prog_11_method_45_code 83 = .ok (.goto 5, 3) := by decide +kernel
theorem d_Mo_store_86 : decode prog_11_method_45_code 86 = .ok (.iload 4, 2) := by decide +kernel
theorem d_Mo_store_88 : decode prog_11_method_45_code 88 = .ok (.istore 4, 2) := by decide +kernel
theorem d_Mo_store_90 : decode prog_11_method_45_code 90 = .ok (.aload_n 0, 1) := by decide +kernel
theorem d_Mo_store_91 : decode prog_11_method_45_code 91 = .ok (.getfield 37, 3) := by decide +kernel
theorem d_Mo_store_94 : decode prog_11_method_45_code 94 = .ok (.iload 5, 2) := by decide +kernel
theorem d_Mo_store_96 : decode prog_11_method_45_code 96 = .ok (.iaload, 1) := by decide +kernel
theorem d_Mo_store_97 : decode prog_11_method_45_code 97 = .ok (.istore 5, 2) := by decide +kernel
theorem d_Mo_store_99 : decode prog_11_method_45_code 99 = .ok (.goto (-49), 3) := by decide +kernel
theorem d_Mo_store_102 : decode prog_11_method_45_code 102 = .ok (.iload_n 2, 1) := by decide +kernel
theorem d_Mo_store_103 : decode prog_11_method_45_code 103 = .ok (.ifCond .eq 10, 3) := by decide +kernel
theorem d_Mo_store_106 : decode prog_11_method_45_code 106 = .ok (.iload 4, 2) := by decide +kernel
theorem d_Mo_store_108 : decode prog_11_method_45_code 108 = .ok (.ifCond .ge 5, 3) := by decide +kernel
theorem d_Mo_store_111 : decode prog_11_method_45_code 111 = .ok (.iconst 4, 1) := by decide +kernel
theorem d_Mo_store_112 : decode prog_11_method_45_code 112 = .ok (.istore_n 3, 1) := by decide +kernel
theorem d_Mo_store_113 : decode prog_11_method_45_code 113 = .ok (.iload_n 2, 1) := by decide +kernel
theorem d_Mo_store_114 : decode prog_11_method_45_code 114 = .ok (.ifCond .eq 113, 3) := by decide +kernel
theorem d_Mo_store_117 : decode prog_11_method_45_code 117 = .ok (.iload 4, 2) := by decide +kernel
theorem d_Mo_store_119 : decode prog_11_method_45_code 119 = .ok (.ifCond .lt 108, 3) := by decide +kernel
theorem d_Mo_store_122 : decode prog_11_method_45_code 122 = .ok (.aload_n 0, 1) := by decide +kernel
theorem d_Mo_store_123 : decode prog_11_method_45_code 123 = .ok (.iload 4, 2) := by decide +kernel
theorem d_Mo_store_125 : decode prog_11_method_45_code 125 = .ok (.invokevirtual 281, 3) := by decide +kernel
theorem d_Mo_store_128 : decode prog_11_method_45_code 128 = .ok (.istore 5, 2) := by decide +kernel
theorem d_Mo_store_130 : decode prog_11_method_45_code 130 = .ok (.iload 5, 2) := by decide +kernel
theorem d_Mo_store_132 : decode prog_11_method_45_code 132 = .ok (.aload_n 0, 1) := by decide +kernel
theorem d_Mo_store_133 : decode prog_11_method_45_code 133 = .ok (.getfield 101, 3) := by decide +kernel
theorem d_Mo_store_136 : decode prog_11_method_45_code 136 = .ok (.if_icmp .ne 8, 3) := by decide +kernel
theorem d_Mo_store_139 : decode prog_11_method_45_code 139 = .ok (.iconst 5, 1) := by decide +kernel
theorem d_Mo_store_140 : decode prog_11_method_45_code 140 = .ok (.istore_n 3, 1) := by decide +kernel
theorem d_Mo_store_141 : decode prog_11_method_45_code 141 = .ok (.goto 86, 3) := by decide +kernel
theorem d_Mo_store_144 : decode prog_11_method_45_code 144 = .ok (.aload_n 0, 1) := by decide +kernel
theorem d_Mo_store_145 : decode prog_11_method_45_code 145 = .ok (.iconst 0, 1) := by decide +kernel
theorem d_Mo_store_146 : decode prog_11_method_45_code 146 = .ok (.iconst 0, 1) := by decide +kernel
theorem d_Mo_store_147 : decode prog_11_method_45_code 147 = .ok (.invokevirtual 180, 3) := by decide +kernel
theorem d_Mo_store_150 : decode prog_11_method_45_code 150 = .ok (.pop, 1) := by decide +kernel
theorem d_Mo_store_151 : decode prog_11_method_45_code 151 = .ok (.iconst 0, 1) := by decide +kernel
theorem d_Mo_store_152 : decode prog_11_method_45_code 152 = .ok (.istore 6, 2) := by decide +kernel
theorem d_Mo_store_154 : decode prog_11_method_45_code 154 = .ok (.iload 6, 2) := by decide +kernel
theorem d_Mo_store_156 : decode prog_11_method_45_code 156 = .ok (.aload_n 0, 1) := by decide +kernel
theorem d_Mo_store_157 : decode prog_11_method_45_code 157 = .ok (.getfield 155, 3) := by decide +kernel
theorem d_Mo_store_160 : decode prog_11_method_45_code 160 = .ok (.if_icmp .ge 30, 3) := by decide +kernel
theorem d_Mo_store_163 : decode prog_11_method_45_code 163 = .ok (.aload_n 0, 1) := by decide +kernel
theorem d_Mo_store_164 : decode prog_11_method_45_code 164 = .ok (.getfield 95, 3) := by decide +kernel
theorem d_Mo_store_167 : decode prog_11_method_45_code 167 = .ok (.sipush 200, 3) := by decide +kernel
theorem d_Mo_store_170 : decode prog_11_method_45_code 170 = .ok (.iload 5, 2) := by decide +kernel
theorem d_Mo_store_172 : decode prog_11_method_45_code 172 = .ok (.imul, 1) := by decide +kernel
theorem d_Mo_store_173 : decode prog_11_method_45_code 173 = .ok (.iload 6, 2) := by decide +kernel
theorem d_Mo_store_175 : decode prog_11_method_45_code 175 = .ok (.iadd, 1) := by decide +kernel
theorem d_Mo_store_176 : decode prog_11_method_45_code 176 = .ok (.aload_n 0, 1) := by decide +kernel
theorem d_Mo_store_177 : decode prog_11_method_45_code 177 = .ok (.getfield 71, 3) := by decide +kernel
theorem d_Mo_store_180 : decode prog_11_method_45_code 180 = .ok (.iload 6, 2) := by decide +kernel
theorem d_Mo_store_182 : decode prog_11_method_45_code 182 = .ok (.iaload, 1) := by decide +kernel
theorem d_Mo_store_183 : decode prog_11_method_45_code 183 = .ok (.iastore, 1) := by decide +kernel
theorem d_Mo_store_184 : decode prog_11_method_45_code 184 = .ok (.iinc 6 1, 3) := by decide +kernel
theorem d_Mo_store_187 : decode prog_11_method_45_code 187 = .ok (.goto (-33), 3) := by decide +kernel
theorem d_Mo_store_190 : decode prog_11_method_45_code 190 = .ok (.aload_n 0, 1) := by decide +kernel
theorem d_Mo_store_191 : decode prog_11_method_45_code 191 = .ok (.getfield 98, 3) := by decide +kernel
theorem d_Mo_store_194 : decode prog_11_method_45_code 194 = .ok (.iload 5, 2) := by decide +kernel
theorem d_Mo_store_196 : decode prog_11_method_45_code 196 = .ok (.aload_n 0, 1) := by decide +kernel
theorem d_Mo_store_197 : decode prog_11_method_45_code 197 = .ok (.getfield 155, 3) := by decide +kernel
theorem d_Mo_store_200 : decode prog_11_method_45_code 200 = .ok (.iastore, 1) := by decide +kernel
theorem d_Mo_store_201 : decode prog_11_method_45_code 201 = .ok (.aload_n 0, 1) := by decide +kernel
theorem d_Mo_store_202 : decode prog_11_method_45_code 202 = .ok (.iload 5, 2) := by decide +kernel
theorem d_Mo_store_204 : decode prog_11_method_45_code 204 = .ok (.aload_n 0, 1) := by decide +kernel
theorem d_Mo_store_205 : decode prog_11_method_45_code 205 = .ok (.getfield 284, 3) := by decide +kernel
theorem d_Mo_store_208 : decode prog_11_method_45_code 208 = .ok (.if_icmp .ne 12, 3) := by decide +kernel
theorem d_Mo_store_211 : decode prog_11_method_45_code 211 = .ok (.aload_n 0, 1) := by decide +kernel
theorem d_Mo_store_212 : decode prog_11_method_45_code 212 = .ok (.getfield 284, 3) := by decide +kernel
theorem d_Mo_store_215 : decode prog_11_method_45_code 215 = .ok (.iconst 1, 1) := by decide +kernel
theorem d_Mo_store_216 : decode prog_11_method_45_code 216 = .ok (.iadd, 1) := by decide +kernel
theorem d_Mo_store_217 : decode prog_11_method_45_code 217 = .ok (.goto 7, 3) := by decide +kernel
theorem d_Mo_store_220 : decode prog_11_method_45_code 220 = .ok (.aload_n 0, 1) := by decide +kernel
theorem d_Mo_store_221 : decode prog_11_method_45_code 221 = .ok (.getfield 284, 3) := by decide +kernel
theorem d_Mo_store_224 : decode prog_11_method_45_code 224 = .ok (.putfield 284, 3) := by decide +kernel
theorem d_Mo_store_227 : decode prog_11_method_45_code 227 = .ok (.aload_n 0, 1) := by decide +kernel
theorem d_Mo_store_228 : decode prog_11_method_45_code 228 = .ok (.iload_n 3, 1) := by decide +kernel
theorem d_Mo_store_229 : decode prog_11_method_45_code 229 = .ok (.iconst 0, 1) := by decide +kernel
theorem d_Mo_store_230 : decode prog_11_method_45_code 230 = .ok (.invokevirtual 271, 3) := by decide +kernel
theorem d_Mo_store_233 : decode prog_11_method_45_code 233 = .ok (.pop, 1) := by decide +kernel
theorem d_Mo_store_234 : decode prog_11_method_45_code 234 = .ok (.return_, 1) := by decide +kernel
theorem d_Mo_answer_0 : decode prog_11_method_44_code 0 = .ok (.aload_n 0, 1) := by decide +kernel
theorem d_Mo_answer_1 : decode prog_11_method_44_code 1 = .ok (.dup, 1) := by decide +kernel
theorem d_Mo_answer_2 : decode prog_11_method_44_code 2 = .ok (.getfield 268, 3) := by decide +kernel
theorem d_Mo_answer_5 : decode prog_11_method_44_code 5 = .ok (.iconst 1, 1) := by decide +kernel
theorem d_Mo_answer_6 : decode prog_11_method_44_code 6 = .ok (.iadd, 1) := by decide +kernel
theorem d_Mo_answer_7 : decode prog_11_method_44_code 7 = .ok (.putfield 268, 3) := by decide +kernel
theorem d_Mo_answer_10 : decode prog_11_method_44_code 10 = .ok (.aload_n 0, 1) := by decide +kernel
theorem d_Mo_answer_11 : decode prog_11_method_44_code 11 = .ok (.getfield 86, 3) := by decide +kernel
theorem d_Mo_answer_14 : decode prog_11_method_44_code 14 = .ok (.aload_n 0, 1) := by decide +kernel
theorem d_Mo_answer_15 : decode prog_11_method_44_code 15 = .ok (.getfield 207, 3) := by decide +kernel
theorem d_Mo_answer_18 : decode prog_11_method_44_code 18 = .ok (.iaload, 1) := by decide +kernel
theorem d_Mo_answer_19 : decode prog_11_method_44_code 19 = .ok (.istore_n 2, 1) := by decide +kernel
theorem d_Mo_answer_20 : decode prog_11_method_44_code 20 = .ok (.iload_n 1, 1) := by decide +kernel
theorem d_Mo_answer_21 : decode prog_11_method_44_code 21 = .ok (.istore_n 3, 1) := by decide +kernel
theorem d_Mo_answer_22 : decode prog_11_method_44_code 22 = .ok (.iload_n 1, 1) := by decide +kernel
theorem d_Mo_answer_23 : decode prog_11_method_44_code 23 = .ok (.ifCond .eq 46, 3) := by decide +kernel
theorem d_Mo_answer_26 : decode prog_11_method_44_code 26 = .ok (.iconst 0, 1) := by decide +kernel
theorem d_Mo_answer_27 : decode prog_11_method_44_code 27 = .ok (.istore 4, 2) := by decide +kernel
theorem d_Mo_answer_29 : decode prog_11_method_44_code 29 = .ok (.iload 4, 2) := by decide +kernel
theorem d_Mo_answer_31 : decode prog_11_method_44_code 31 = .ok (.aload_n 0, 1) := by decide +kernel
theorem d_Mo_answer_32 : decode prog_11_method_44_code 32 = .ok (.getfield 204, 3) := by decide +kernel
theorem d_Mo_answer_35 : decode prog_11_method_44_code 35 = .ok (.if_icmp .ge 23, 3) := by decide +kernel
theorem d_Mo_answer_38 : decode prog_11_method_44_code 38 = .ok (.aload_n 0, 1) := by decide +kernel
theorem d_Mo_answer_39 : decode prog_11_method_44_code 39 = .ok (.getfield 13, 3) := by decide +kernel
theorem d_Mo_answer_42 : decode prog_11_method_44_code 42 = .ok (.iload 4, 2) := by decide +kernel
theorem d_Mo_answer_44 : decode prog_11_method_44_code 44 = .ok (.aload_n 0, 1) := by decide +kernel
theorem d_Mo_answer_45 : decode prog_11_method_44_code 45 = .ok (.getfield 92, 3) := by decide +kernel
theorem d_Mo_answer_48 : decode prog_11_method_44_code 48 = .ok (.iload 4, 2) := by decide +kernel
theorem d_Mo_answer_50 : decode prog_11_method_44_code 50 = .ok (.iaload, 1) := by decide +kernel
theorem d_Mo_answer_51 : decode prog_11_method_44_code 51 = .ok (.iastore, 1) := by decide +kernel
theorem d_Mo_answer_52 : decode prog_11_method_44_code 52 = .ok (.iinc 4 1, 3) := by decide +kernel
theorem d_Mo_answer_55 : decode prog_11_method_44_code 55 = .ok (.goto (-26), 3) := by decide +kernel
theorem d_Mo_answer_58 : decode prog_11_method_44_code 58 = .ok (.aload_n 0, 1) := by decide +kernel
theorem d_Mo_answer_59 : decode prog_11_method_44_code 59 = .ok (.iconst 0, 1) := by decide +kernel
theorem d_Mo_answer_60 : decode prog_11_method_44_code 60 = .ok (.aload_n 0, 1) := by decide +kernel
theorem d_Mo_answer_61 : decode prog_11_method_44_code 61 = .ok (.getfield 204, 3) := by decide +kernel
theorem d_Mo_answer_64 : decode prog_11_method_44_code 64 = .ok (.iload_n 2, 1) := by decide +kernel
theorem d_Mo_answer_65 : decode prog_11_method_44_code 65 = .ok (.invokevirtual 174, 3) := by decide +kernel
theorem d_Mo_answer_68 : decode prog_11_method_44_code 68 = .ok (.istore_n 3, 1) := by decide +kernel
theorem d_Mo_answer_69 : decode prog_11_method_44_code 69 = .ok (.aload_n 0, 1) := by decide +kernel
theorem d_Mo_answer_70 : decode prog_11_method_44_code 70 = .ok (.getfield 260, 3) := by decide +kernel
theorem d_Mo_answer_73 : decode prog_11_method_44_code 73 = .ok (.aload_n 0, 1) := by decide +kernel
theorem d_Mo_answer_74 : decode prog_11_method_44_code 74 = .ok (.getfield 83, 3) := by decide +kernel
theorem d_Mo_answer_77 : decode prog_11_method_44_code 77 = .ok (.aload_n 0, 1) := by decide +kernel
theorem d_Mo_answer_78 : decode prog_11_method_44_code 78 = .ok (.getfield 207, 3) := by decide +kernel
theorem d_Mo_answer_81 : decode prog_11_method_44_code 81 = .ok (.iaload, 1) := by decide +kernel
theorem d_Mo_answer_82 : decode prog_11_method_44_code 82 = .ok (.if_icmp .eq 13, 3) := by decide +kernel
theorem d_Mo_answer_85 : decode prog_11_method_44_code 85 = .ok (.aload_n 0, 1) := by decide +kernel
theorem d_Mo_answer_86 : decode prog_11_method_44_code 86 = .ok (.iconst 2, 1) := by decide +kernel
theorem d_Mo_answer_87 : decode prog_11_method_44_code 87 = .ok (.iconst 0, 1) := by decide +kernel
theorem d_Mo_answer_88 : decode prog_11_method_44_code 88 = .ok (.invokevirtual 271, 3) := by decide +kernel
theorem d_Mo_answer_91 : decode prog_11_method_44_code 91 = .ok (.pop, 1) := by decide +kernel
theorem d_Mo_answer_92 : decode prog_11_method_44_code 92 = .ok (.goto 56, 3) := by decide +kernel
theorem d_Mo_answer_95 : decode prog_11_method_44_code 95 = .ok (.aload_n 0, 1) := by decide +kernel
theorem d_Mo_answer_96 : decode prog_11_method_44_code 96 = .ok (.getfield 260, 3) := by decide +kernel
theorem d_Mo_answer_99 : decode prog_11_method_44_code 99 = .ok (.iconst 1, 1) := by decide +kernel
theorem d_Mo_answer_100 : decode prog_11_method_44_code 100 = .ok (.if_icmp .ne 13, 3) := by decide +kernel
theorem d_Mo_answer_103 : decode prog_11_method_44_code 103 = .ok (.aload_n 0, 1) := by decide +kernel
theorem d_Mo_answer_104 : decode prog_11_method_44_code 104 = .ok (.iconst 0, 1) := by decide +kernel
theorem d_Mo_answer_105 : decode prog_11_method_44_code 105 = .ok (.iconst 0, 1) := by decide +kernel
theorem d_Mo_answer_106 : decode prog_11_method_44_code 106 = .ok (.invokevirtual 271, 3) := by decide +kernel
theorem d_Mo_answer_109 : decode prog_11_method_44_code 109 = .ok (.pop, 1) := by decide +kernel
theorem d_Mo_answer_110 : decode prog_11_method_44_code 110 = .ok (.goto 38, 3) := by decide +kernel
theorem d_Mo_answer_113 : decode prog_11_method_44_code 113 = .ok (.aload_n 0, 1) := by decide +kernel
theorem d_Mo_answer_114 : decode prog_11_method_44_code 114 = .ok (.getfield 260, 3) := by decide +kernel
theorem d_Mo_answer_117 : decode prog_11_method_44_code 117 = .ok (.iconst 2, 1) := by decide +kernel
theorem d_Mo_answer_118 : decode prog_11_method_44_code 118 = .ok (.if_icmp .ne 11, 3) := by decide +kernel
theorem d_Mo_answer_121 : decode prog_11_method_44_code 121 = .ok (.aload_n 0, 1) := by decide +kernel
theorem d_Mo_answer_122 : decode prog_11_method_44_code 122 = .ok (.iload_n 3, 1) := by decide +kernel
theorem d_Mo_answer_123 : decode prog_11_method_44_code 123 = .ok (.invokevirtual 275, 3) := by decide +kernel
theorem d_Mo_answer_126 : decode prog_11_method_44_code 126 = .ok (.goto 22, 3) := by decide +kernel
theorem d_Mo_answer_129 : decode prog_11_method_44_code 129 = .ok (.iload_n 3, 1) := by decide +kernel
theorem d_Mo_answer_130 : decode prog_11_method_44_code 130 = .ok (.ifCond .ne 13, 3) := by decide +kernel
theorem d_Mo_answer_133 : decode prog_11_method_44_code 133 = .ok (.aload_n 0, 1) := by decide +kernel
theorem d_Mo_answer_134 : decode prog_11_method_44_code 134 = .ok (.iconst 3, 1) := by decide +kernel
theorem d_Mo_answer_135 : decode prog_11_method_44_code 135 = .ok (.iconst 0, 1) := by decide +kernel
theorem d_Mo_answer_136 : decode prog_11_method_44_code 136 = .ok (.invokevirtual 271, 3) := by decide +kernel
theorem d_Mo_answer_139 : decode prog_11_method_44_code 139 = .ok (.pop, 1) := by decide +kernel
theorem d_Mo_answer_140 : decode prog_11_method_44_code 140 = .ok (.goto 8, 3) := by decide +kernel
theorem d_Mo_answer_143 : decode prog_11_method_44_code 143 = .ok (.aload_n 0, 1) := by decide +kernel
theorem d_Mo_answer_144 : decode prog_11_method_44_code 144 = .ok (.iload_n 2, 1) := by decide +kernel
theorem d_Mo_answer_145 : decode prog_11_method_44_code 145 = .ok (.invokevirtual 278, 3) := by decide +kernel
theorem d_Mo_answer_148 : decode prog_11_method_44_code 148 = .ok (.aload_n 0, 1) := by decide +kernel
theorem d_Mo_answer_149 : decode prog_11_method_44_code 149 = .ok (.invokevirtual 195, 3) := by decide +kernel
theorem d_Mo_answer_152 : decode prog_11_method_44_code 152 = .ok (.return_, 1) := by decide +kernel
theorem d_Mo_commanded_0 : decode prog_11_method_41_code 0 = .ok (.iconst 0, 1) := by decide +kernel
theorem d_Mo_commanded_1 : decode prog_11_method_41_code 1 = .ok (.istore_n 1, 1) := by decide +kernel
theorem d_Mo_commanded_2 : decode prog_11_method_41_code 2 = .ok (.iload_n 1, 1) := by decide +kernel
theorem d_Mo_commanded_3 : decode prog_11_method_41_code 3 = .ok (.aload_n 0, 1) := by decide +kernel
theorem d_Mo_commanded_4 : decode prog_11_method_41_code 4 = .ok (.getfield 201, 3) := by decide +kernel
theorem d_Mo_commanded_7 : decode prog_11_method_41_code 7 = .ok (.if_icmp .ge 21, 3) := by decide +kernel
theorem d_Mo_commanded_10 : decode prog_11_method_41_code 10 = .ok (.aload_n 0, 1) := by decide +kernel
theorem d_Mo_commanded_11 : decode prog_11_method_41_code 11 = .ok (.getfield 13, 3) := by decide +kernel
theorem d_Mo_commanded_14 : decode prog_11_method_41_code 14 = .ok (.iload_n 1, 1) := by decide +kernel
theorem d_Mo_commanded_15 : decode prog_11_method_41_code 15 = .ok (.aload_n 0, 1) := by decide +kernel
theorem d_Mo_commanded_16 : decode prog_11_method_41_code 16 = .ok (.getfield 89, 3) := by decide +kernel
theorem d_Mo_commanded_19 : decode prog_11_method_41_code 19 = .ok (.iload_n 1, 1) := by decide +kernel
theorem d_Mo_commanded_20 : decode prog_11_method_41_code 20 = .ok (.iaload, 1) := by decide +kernel
theorem d_Mo_commanded_21 : decode prog_11_method_41_code 21 = .ok (.iastore, 1) := by decide +kernel
theorem d_Mo_commanded_22 : decode prog_11_method_41_code 22 = .ok (.iinc 1 1, 3) := by decide +kernel
theorem d_Mo_commanded_25 : decode prog_11_method_41_code 25 = .ok (.goto (-23), 3) := by decide +kernel
theorem d_Mo_commanded_28 : decode prog_11_method_41_code 28 = .ok (.aload_n 0, 1) := by decide +kernel
theorem d_Mo_commanded_29 : decode prog_11_method_41_code 29 = .ok (.iconst 0, 1) := by decide +kernel
theorem d_Mo_commanded_30 : decode prog_11_method_41_code 30 = .ok (.aload_n 0, 1) := by decide +kernel
theorem d_Mo_commanded_31 : decode prog_11_method_41_code 31 = .ok (.getfield 201, 3) := by decide +kernel
theorem d_Mo_commanded_34 : decode prog_11_method_41_code 34 = .ok (.iconst 1, 1) := by decide +kernel
theorem d_Mo_commanded_35 : decode prog_11_method_41_code 35 = .ok (.invokevirtual 174, 3) := by decide +kernel
theorem d_Mo_commanded_38 : decode prog_11_method_41_code 38 = .ok (.ifCond .ne 5, 3) := by decide +kernel
theorem d_Mo_commanded_41 : decode prog_11_method_41_code 41 = .ok (.iconst 0, 1) := by decide +kernel
theorem d_Mo_commanded_42 : decode prog_11_method_41_code 42 = .ok (.ireturn, 1) := by decide +kernel
theorem d_Mo_commanded_43 : decode prog_11_method_41_code 43 = .ok (.aload_n 0, 1) := by decide +kernel
theorem d_Mo_commanded_44 : decode prog_11_method_41_code 44 = .ok (.iconst 1, 1) := by decide +kernel
theorem d_Mo_commanded_45 : decode prog_11_method_41_code 45 = .ok (.iconst 1, 1) := by decide +kernel
theorem d_Mo_commanded_46 : decode prog_11_method_41_code 46 = .ok (.iconst 3, 1) := by decide +kernel
theorem d_Mo_commanded_47 : decode prog_11_method_41_code 47 = .ok (.invokevirtual 255, 3) := by decide +kernel
theorem d_Mo_commanded_50 : decode prog_11_method_41_code 50 = .ok (.istore_n 1, 1) := by decide +kernel
theorem d_Mo_commanded_51 : decode prog_11_method_41_code 51 = .ok (.aload_n 0, 1) := by decide +kernel
theorem d_Mo_commanded_52 : decode prog_11_method_41_code 52 = .ok (.iconst 2, 1) := by decide +kernel
theorem d_Mo_commanded_53 : decode prog_11_method_41_code 53 = .ok (.ldc_w 258, 3) := by decide +kernel
theorem d_Mo_commanded_56 : decode prog_11_method_41_code 56 = .ok (.ldc_w 259, 3) := by decide +kernel
theorem d_Mo_commanded_59 : decode prog_11_method_41_code 59 = .ok (.invokevirtual 255, 3) := by decide +kernel
theorem d_Mo_commanded_62 : decode prog_11_method_41_code 62 = .ok (.istore_n 2, 1) := by decide +kernel
theorem d_Mo_commanded_63 : decode prog_11_method_41_code 63 = .ok (.aload_n 0, 1) := by decide +kernel
theorem d_Mo_commanded_64 : decode prog_11_method_41_code 64 = .ok (.iconst 3, 1) := by decide +kernel
theorem d_Mo_commanded_65 : decode prog_11_method_41_code 65 = .ok (.iconst 0, 1) := by decide +kernel
theorem d_Mo_commanded_66 : decode prog_11_method_41_code 66 = .ok (.iconst 1, 1) := by decide +kernel
theorem d_Mo_commanded_67 : decode prog_11_method_41_code 67 = .ok (.invokevirtual 255, 3) := by decide +kernel
theorem d_Mo_commanded_70 : decode prog_11_method_41_code 70 = .ok (.istore_n 3, 1) := by decide +kernel
theorem d_Mo_commanded_71 : decode prog_11_method_41_code 71 = .ok (.iload_n 1, 1) := by decide +kernel
theorem d_Mo_commanded_72 : decode prog_11_method_41_code 72 = .ok (.ifCond .lt 11, 3) := by decide +kernel
theorem d_Mo_commanded_75 : decode prog_11_method_41_code 75 = .ok (.iload_n 2, 1) := by decide +kernel
theorem d_Mo_commanded_76 : decode prog_11_method_41_code 76 = .ok (.ifCond .lt 7, 3) := by decide +kernel
theorem d_Mo_commanded_79 : decode prog_11_method_41_code 79 = .ok (.iload_n 3, 1) := by decide +kernel
theorem d_Mo_commanded_80 : decode prog_11_method_41_code 80 = .ok (.ifCond .ge 5, 3) := by decide +kernel
theorem d_Mo_commanded_83 : decode prog_11_method_41_code 83 = .ok (.iconst 0, 1) := by decide +kernel
theorem d_Mo_commanded_84 : decode prog_11_method_41_code 84 = .ok (.ireturn, 1) := by decide +kernel
theorem d_Mo_commanded_85 : decode prog_11_method_41_code 85 = .ok (.aload_n 0, 1) := by decide +kernel
theorem d_Mo_commanded_86 : decode prog_11_method_41_code 86 = .ok (.aload_n 0, 1) := by decide +kernel
theorem d_Mo_commanded_87 : decode prog_11_method_41_code 87 = .ok (.getfield 25, 3) := by decide +kernel
theorem d_Mo_commanded_90 : decode prog_11_method_41_code 90 = .ok (.iload_n 1, 1) := by decide +kernel
theorem d_Mo_commanded_91 : decode prog_11_method_41_code 91 = .ok (.iaload, 1) := by decide +kernel
theorem d_Mo_commanded_92 : decode prog_11_method_41_code 92 = .ok (.putfield 260, 3) := by decide +kernel
theorem d_Mo_commanded_95 : decode prog_11_method_41_code 95 = .ok (.aload_n 0, 1) := by decide +kernel
theorem d_Mo_commanded_96 : decode prog_11_method_41_code 96 = .ok (.aload_n 0, 1) := by decide +kernel
theorem d_Mo_commanded_97 : decode prog_11_method_41_code 97 = .ok (.getfield 25, 3) := by decide +kernel
theorem d_Mo_commanded_100 : decode prog_11_method_41_code 100 = .ok (.iload_n 2, 1) := by decide +kernel
theorem d_Mo_commanded_101 : decode prog_11_method_41_code 101 = .ok (.iaload, 1) := by decide +kernel
theorem d_Mo_commanded_102 : decode prog_11_method_41_code 102 = .ok (.putfield 263, 3) := by decide +kernel
theorem d_Mo_commanded_105 : decode prog_11_method_41_code 105 = .ok (.aload_n 0, 1) := by decide +kernel
theorem d_Mo_commanded_106 : decode prog_11_method_41_code 106 = .ok (.getfield 25, 3) := by decide +kernel
theorem d_Mo_commanded_109 : decode prog_11_method_41_code 109 = .ok (.iload_n 3, 1) := by decide +kernel
theorem d_Mo_commanded_110 : decode prog_11_method_41_code 110 = .ok (.iaload, 1) := by decide +kernel
theorem d_Mo_commanded_111 : decode prog_11_method_41_code 111 = .ok (.iconst 1, 1) := by decide +kernel
theorem d_Mo_commanded_112 : decode prog_11_method_41_code 112 = .ok (.if_icmp .ne 11, 3) := by decide +kernel
theorem d_Mo_commanded_115 : decode prog_11_method_41_code 115 = .ok (.aload_n 0, 1) := by decide +kernel
theorem d_Mo_commanded_116 : decode prog_11_method_41_code 116 = .ok (.iconst 1, 1) := by decide +kernel
theorem d_Mo_commanded_117 : decode prog_11_method_41_code 117 = .ok (.putfield 198, 3) := by decide +kernel
theorem d_Mo_commanded_120 : decode prog_11_method_41_code 120 = .ok (.goto 8, 3) := by decide +kernel
theorem d_Mo_commanded_123 : decode prog_11_method_41_code 123 = .ok (.aload_n 0, 1) := by decide +kernel
theorem d_Mo_commanded_124 : decode prog_11_method_41_code 124 = .ok (.iconst 0, 1) := by decide +kernel
theorem d_Mo_commanded_125 : decode prog_11_method_41_code 125 = .ok (.invokevirtual 247, 3) := by decide +kernel
theorem d_Mo_commanded_128 : decode prog_11_method_41_code 128 = .ok (.iconst 1, 1) := by decide +kernel
theorem d_Mo_commanded_129 : decode prog_11_method_41_code 129 = .ok (.ireturn, 1) := by decide +kernel
def ws_Mo_find : List Cond := .code y_Mo_find prog_11_method_48_code 4 none :: TB
def B_Mo_find_62 (s0 : S_Mo) : Option S_Mo :=
  some s0
def B_Mo_find_55 (s0 : S_Mo) : Option S_Mo :=
  ((F_Mo_replies s0 (0 : Int32) (0 : Int32)).bind fun o1 => (B_Mo_find_62 o1.2))
def B_Mo_find_51 (s0 : S_Mo) (x2 : Int32) : Option S_Mo :=
  (if x2 = 0 then (B_Mo_find_62 s0) else (B_Mo_find_55 s0))
def B_Mo_find_45 (k4 : S_Mo × Int32 × Int32 × Int32 → Option S_Mo) (s0 : S_Mo) (x1 : Int32) (x2 : Int32) (x3 : Int32) : Option S_Mo :=
  (k4 (s0, x1, x2, (x3 + 1)))
def B_Mo_find_39 (k4 : S_Mo × Int32 × Int32 × Int32 → Option S_Mo) (s0 : S_Mo) (x1 : Int32) (x3 : Int32) : Option S_Mo :=
  ((F_Mo_shows s0 x1).bind fun o1 => (B_Mo_find_45 k4 o1.2 x1 o1.1 x3))
def B_Mo_find_28 (k4 : S_Mo × Int32 × Int32 × Int32 → Option S_Mo) (s0 : S_Mo) (x1 : Int32) (x3 : Int32) : Option S_Mo :=
  ((F_Mo_replies s0 (1 : Int32) (1 : Int32)).bind fun o1 => (if o1.1 = 0 then (B_Mo_find_45 k4 o1.2 x1 o1.1 x3) else (B_Mo_find_39 k4 o1.2 x1 x3)))
def B_Mo_find_16 (k4 : S_Mo × Int32 × Int32 × Int32 → Option S_Mo) (s0 : S_Mo) (x1 : Int32) (x2 : Int32) (x3 : Int32) : Option S_Mo :=
  ((F_Mo_load s0 x3).bind fun o1 => ((F_Mo_matches o1).bind fun o3 => (if o3.1 = 0 then (B_Mo_find_45 k4 o3.2 x1 x2 x3) else (B_Mo_find_28 k4 o3.2 x1 x3))))
def B_Mo_find_12 (k4 : S_Mo × Int32 × Int32 × Int32 → Option S_Mo) (s0 : S_Mo) (x1 : Int32) (x2 : Int32) (x3 : Int32) : Option S_Mo :=
  (if x2 = 0 then (B_Mo_find_51 s0 x2) else (B_Mo_find_16 k4 s0 x1 x2 x3))
def B_Mo_find_4 (k4 : S_Mo × Int32 × Int32 × Int32 → Option S_Mo) (s0 : S_Mo) (x1 : Int32) (x2 : Int32) (x3 : Int32) : Option S_Mo :=
  (if (Mo_records s0) ≤ x3 then (B_Mo_find_51 s0 x2) else (B_Mo_find_12 k4 s0 x1 x2 x3))
def L_Mo_find_4 (v : S_Mo × Int32 × Int32 × Int32) : Option S_Mo := lp (fun k4 v => B_Mo_find_4  k4  v.1 v.2.1 v.2.2.1 v.2.2.2) FU v
def B_Mo_find_0 (s0 : S_Mo) (x1 : Int32) : Option S_Mo :=
  (L_Mo_find_4 (s0, x1, (1 : Int32), (0 : Int32)))
def F_Mo_find (s0 : S_Mo) (x1 : Int32) : Option S_Mo := B_Mo_find_0 s0 x1
set_option maxRecDepth 100000 in
set_option maxHeartbeats 4000000 in
theorem t_Mo_find_62 {p : Program} {l : Launch} {e : Env} {s : State} {m : MethodId} {args : Array Value} {below : List Frame} {meth : Method} {c : Code} {D : va_G} {A : Nat → Prop} {g : Nat → ClassId} {rest : va_W} {a0 : Nat → Nat} {ls : Array Slot} {H : Heap} {locs : List Loc} {s0 : S_Mo} {out : S_Mo} (X : Cx p s m args meth c prog_11_method_48_code 4 ws_Mo_find R_Mo none D g) (hl : lv_has ls 4 []) (hI : Iw D A (w_Mo g a0 s0 ++ (rest)) H) (hS : va_S A s.heap H locs) (h : B_Mo_find_62  s0 = some out) : W p l e (headSpec ws_Mo_find { frames := 6, cells := 0, slots := 0, locals := 150 }).room s m args below meth c H locs 0 0 (MQ below (QcV D A g (fun (_ : Unit) => w_Mo g a0 out ++ (rest))) args s 0 0 A) (F0 m 62 ls []) := by
  have X1 := X
  obtain ⟨hx, hb, hml, hown, hts, hr, hlocks, hKK⟩ := X1
  have ht : ∀ w ∈ TB, w.before args s = true := fun w h => hts w (List.mem_cons_of_mem _ h)
  have hK := hKK.1
  unfold B_Mo_find_62 at h
  have h9 := Option.some.inj h
  subst h9
  exact W.vret hx hb hr (fun t ht hW => ⟨⟨(), rfl, trivial, ⟨by rw [ht]; exact hI, hKK.moved hW⟩⟩, hS.F ht⟩) hS.2.2 d_Mo_find_62
set_option maxRecDepth 100000 in
set_option maxHeartbeats 4000000 in
theorem t_Mo_find_55 {p : Program} {l : Launch} {e : Env} {s : State} {m : MethodId} {args : Array Value} {below : List Frame} {meth : Method} {c : Code} {D : va_G} {A : Nat → Prop} {g : Nat → ClassId} {rest : va_W} {a0 : Nat → Nat} {ls : Array Slot} {H : Heap} {locs : List Loc} {s0 : S_Mo} {out : S_Mo} (X : Cx p s m args meth c prog_11_method_48_code 4 ws_Mo_find R_Mo none D g) (hl : lv_has ls 4 [(0, .ref (a0 0))]) (hI : Iw D A (w_Mo g a0 s0 ++ (rest)) H) (hS : va_S A s.heap H locs) (h : B_Mo_find_55  s0 = some out) : W p l e (headSpec ws_Mo_find { frames := 6, cells := 0, slots := 0, locals := 150 }).room s m args below meth c H locs 0 0 (MQ below (QcV D A g (fun (_ : Unit) => w_Mo g a0 out ++ (rest))) args s 0 0 A) (F0 m 55 ls []) := by
  have X1 := X
  obtain ⟨hx, hb, hml, hown, hts, hr, hlocks, hKK⟩ := X1
  have ht : ∀ w ∈ TB, w.before args s = true := fun w h => hts w (List.mem_cons_of_mem _ h)
  have hK := hKK.1
  unfold B_Mo_find_55 at h
  refine lv_aload_n hx hb d_Mo_find_55 rfl (lv_at hl 0 rfl) ?_
  refine lv_iconst (v := 0) hx hb d_Mo_find_56 (by decide) ?_
  refine lv_iconst (v := 0) hx hb d_Mo_find_57 (by decide) ?_
  obtain ⟨o1, ho2, h⟩ := bd_s h
  refine cl_i (W1 := fun (_ : Unit) => w_Mo g a0 o1.2 ++ (rest)) (va_runV (As := [.int (0 : Int32), .int (0 : Int32)]) (rest := []) ⟨hx, hb, hml, hown, ht⟩ (c_Mo_replies (l := l) (D := D) (A := A) (g := g) (rest := rest) (a0 := a0) ho2) (cwV 2 ht (gd_V m_1120 m_1122 mp_64 m_11 m_1123) rfl rfl rfl (by decide +kernel) ⟨(Nat.le_of_ble_eq_true rfl), (Nat.le_of_ble_eq_true rfl)⟩) (prV (ci := 9) (q0 := 0) hKK hI (List.Perm.refl _) rfl rfl rfl) rfl rfl hl.1 rfl (lv_room (Nat.le_of_ble_eq_true rfl)) d_Mo_find_58 ⟨(Nat.le_of_ble_eq_true rfl), (Nat.le_of_ble_eq_true rfl)⟩) hS (fun _ => ((List.Perm.refl _)).symm) (fun _ H locs hI hS => ?_)
  have hI : Iw D A (w_Mo g a0 o1.2 ++ (rest)) H := hI
  refine lv_pop hx hb d_Mo_find_61 rfl ?_
  exact t_Mo_find_62 X (lv_sub hl [] rfl) hI hS h
set_option maxRecDepth 100000 in
set_option maxHeartbeats 4000000 in
theorem t_Mo_find_51 {p : Program} {l : Launch} {e : Env} {s : State} {m : MethodId} {args : Array Value} {below : List Frame} {meth : Method} {c : Code} {D : va_G} {A : Nat → Prop} {g : Nat → ClassId} {rest : va_W} {a0 : Nat → Nat} {ls : Array Slot} {H : Heap} {locs : List Loc} {s0 : S_Mo} {x2 : Int32} {out : S_Mo} (X : Cx p s m args meth c prog_11_method_48_code 4 ws_Mo_find R_Mo none D g) (hl : lv_has ls 4 [(0, .ref (a0 0)), (2, .int x2)]) (hI : Iw D A (w_Mo g a0 s0 ++ (rest)) H) (hS : va_S A s.heap H locs) (h : B_Mo_find_51  s0 x2 = some out) : W p l e (headSpec ws_Mo_find { frames := 6, cells := 0, slots := 0, locals := 150 }).room s m args below meth c H locs 0 0 (MQ below (QcV D A g (fun (_ : Unit) => w_Mo g a0 out ++ (rest))) args s 0 0 A) (F0 m 51 ls []) := by
  have X1 := X
  obtain ⟨hx, hb, hml, hown, hts, hr, hlocks, hKK⟩ := X1
  have ht : ∀ w ∈ TB, w.before args s = true := fun w h => hts w (List.mem_cons_of_mem _ h)
  have hK := hKK.1
  unfold B_Mo_find_51 at h
  refine lv_iload_n hx hb d_Mo_find_51 rfl (lv_at hl 1 rfl) ?_
  refine lv_if_eq (tgt := 62) hx hb d_Mo_find_52 (by decide) (fun hc => ?_) (fun hc => ?_)
  · have h := it_t h hc
    exact t_Mo_find_62 X (lv_sub hl [] rfl) hI hS h
  · have h := it_f h hc
    exact t_Mo_find_55 X (lv_sub hl [0] rfl) hI hS h
set_option maxRecDepth 100000 in
set_option maxHeartbeats 4000000 in
theorem t_Mo_find_45 {p : Program} {l : Launch} {e : Env} {s : State} {m : MethodId} {args : Array Value} {below : List Frame} {meth : Method} {c : Code} {D : va_G} {A : Nat → Prop} {g : Nat → ClassId} {rest : va_W} {a0 : Nat → Nat} {ls : Array Slot} {H : Heap} {locs : List Loc} {k4 : S_Mo × Int32 × Int32 × Int32 → Option S_Mo} {s0 : S_Mo} {x1 : Int32} {x2 : Int32} {x3 : Int32} {out : S_Mo} (X : Cx p s m args meth c prog_11_method_48_code 4 ws_Mo_find R_Mo none D g) (hk4 : ∀ (v : S_Mo × Int32 × Int32 × Int32) (ls : Array Slot) (H : Heap) (locs : List Loc), lv_has ls 4 [(0, .ref (a0 0)), (1, .int v.2.1), (2, .int v.2.2.1), (3, .int v.2.2.2)] → Iw D A (w_Mo g a0 v.1 ++ (rest)) H → va_S A s.heap H locs → k4 v = some out → W p l e (headSpec ws_Mo_find { frames := 6, cells := 0, slots := 0, locals := 150 }).room s m args below meth c H locs 0 0 (MQ below (QcV D A g (fun (_ : Unit) => w_Mo g a0 out ++ (rest))) args s 0 0 A) (F0 m 4 ls [])) (hl : lv_has ls 4 [(0, .ref (a0 0)), (1, .int x1), (2, .int x2), (3, .int x3)]) (hI : Iw D A (w_Mo g a0 s0 ++ (rest)) H) (hS : va_S A s.heap H locs) (h : B_Mo_find_45 k4 s0 x1 x2 x3 = some out) : W p l e (headSpec ws_Mo_find { frames := 6, cells := 0, slots := 0, locals := 150 }).room s m args below meth c H locs 0 0 (MQ below (QcV D A g (fun (_ : Unit) => w_Mo g a0 out ++ (rest))) args s 0 0 A) (F0 m 45 ls []) := by
  have X1 := X
  obtain ⟨hx, hb, hml, hown, hts, hr, hlocks, hKK⟩ := X1
  have ht : ∀ w ∈ TB, w.before args s = true := fun w h => hts w (List.mem_cons_of_mem _ h)
  have hK := hKK.1
  unfold B_Mo_find_45 at h
  refine lv_iinc (k := 3) (v := (x3 + 1)) hx hb d_Mo_find_45 hl rfl (congrArg (fun z => x3 + z) (by decide)) (Nat.le_of_ble_eq_true rfl) rfl (fun ls hl => ?_)
  have hl : lv_has ls 4 [(3, .int (x3 + 1)), (0, .ref (a0 0)), (1, .int x1), (2, .int x2)] := hl
  refine lv_goto (tgt := 4) hx hb d_Mo_find_48 (by decide) ?_
  exact hk4 (s0, x1, x2, (x3 + 1)) _ _ _ (lv_sub hl [1, 2, 3, 0] rfl) hI hS h
set_option maxRecDepth 100000 in
set_option maxHeartbeats 4000000 in
theorem t_Mo_find_39 {p : Program} {l : Launch} {e : Env} {s : State} {m : MethodId} {args : Array Value} {below : List Frame} {meth : Method} {c : Code} {D : va_G} {A : Nat → Prop} {g : Nat → ClassId} {rest : va_W} {a0 : Nat → Nat} {ls : Array Slot} {H : Heap} {locs : List Loc} {k4 : S_Mo × Int32 × Int32 × Int32 → Option S_Mo} {s0 : S_Mo} {x1 : Int32} {x3 : Int32} {out : S_Mo} (X : Cx p s m args meth c prog_11_method_48_code 4 ws_Mo_find R_Mo none D g) (hk4 : ∀ (v : S_Mo × Int32 × Int32 × Int32) (ls : Array Slot) (H : Heap) (locs : List Loc), lv_has ls 4 [(0, .ref (a0 0)), (1, .int v.2.1), (2, .int v.2.2.1), (3, .int v.2.2.2)] → Iw D A (w_Mo g a0 v.1 ++ (rest)) H → va_S A s.heap H locs → k4 v = some out → W p l e (headSpec ws_Mo_find { frames := 6, cells := 0, slots := 0, locals := 150 }).room s m args below meth c H locs 0 0 (MQ below (QcV D A g (fun (_ : Unit) => w_Mo g a0 out ++ (rest))) args s 0 0 A) (F0 m 4 ls [])) (hl : lv_has ls 4 [(0, .ref (a0 0)), (1, .int x1), (3, .int x3)]) (hI : Iw D A (w_Mo g a0 s0 ++ (rest)) H) (hS : va_S A s.heap H locs) (h : B_Mo_find_39 k4 s0 x1 x3 = some out) : W p l e (headSpec ws_Mo_find { frames := 6, cells := 0, slots := 0, locals := 150 }).room s m args below meth c H locs 0 0 (MQ below (QcV D A g (fun (_ : Unit) => w_Mo g a0 out ++ (rest))) args s 0 0 A) (F0 m 39 ls []) := by
  have X1 := X
  obtain ⟨hx, hb, hml, hown, hts, hr, hlocks, hKK⟩ := X1
  have ht : ∀ w ∈ TB, w.before args s = true := fun w h => hts w (List.mem_cons_of_mem _ h)
  have hK := hKK.1
  unfold B_Mo_find_39 at h
  refine lv_aload_n hx hb d_Mo_find_39 rfl (lv_at hl 0 rfl) ?_
  refine lv_iload_n hx hb d_Mo_find_40 rfl (lv_at hl 1 rfl) ?_
  obtain ⟨o1, ho2, h⟩ := bd_s h
  refine cl_i (W1 := fun (_ : Unit) => w_Mo g a0 o1.2 ++ (rest)) (va_runV (As := [.int x1]) (rest := []) ⟨hx, hb, hml, hown, ht⟩ (c_Mo_shows (l := l) (D := D) (A := A) (g := g) (rest := rest) (a0 := a0) ho2) (cwV 1 ht (gd_V m_1164 m_1166 mp_75 m_11 m_1167) rfl rfl rfl (by decide +kernel) ⟨(Nat.le_of_ble_eq_true rfl), (Nat.le_of_ble_eq_true rfl)⟩) (prV (ci := 9) (q0 := 0) hKK hI (List.Perm.refl _) rfl rfl rfl) rfl rfl hl.1 rfl (lv_room (Nat.le_of_ble_eq_true rfl)) d_Mo_find_41 ⟨(Nat.le_of_ble_eq_true rfl), (Nat.le_of_ble_eq_true rfl)⟩) hS (fun _ => ((List.Perm.refl _)).symm) (fun _ H locs hI hS => ?_)
  have hI : Iw D A (w_Mo g a0 o1.2 ++ (rest)) H := hI
  refine lv_istore_n hx hb d_Mo_find_44 rfl hl (Nat.le_of_ble_eq_true rfl) rfl (fun ls hl => ?_)
  have hl : lv_has ls 4 [(2, .int o1.1), (0, .ref (a0 0)), (1, .int x1), (3, .int x3)] := hl
  exact t_Mo_find_45 X hk4 (lv_sub hl [1, 2, 0, 3] rfl) hI hS h
set_option maxRecDepth 100000 in
set_option maxHeartbeats 4000000 in
theorem t_Mo_find_28 {p : Program} {l : Launch} {e : Env} {s : State} {m : MethodId} {args : Array Value} {below : List Frame} {meth : Method} {c : Code} {D : va_G} {A : Nat → Prop} {g : Nat → ClassId} {rest : va_W} {a0 : Nat → Nat} {ls : Array Slot} {H : Heap} {locs : List Loc} {k4 : S_Mo × Int32 × Int32 × Int32 → Option S_Mo} {s0 : S_Mo} {x1 : Int32} {x3 : Int32} {out : S_Mo} (X : Cx p s m args meth c prog_11_method_48_code 4 ws_Mo_find R_Mo none D g) (hk4 : ∀ (v : S_Mo × Int32 × Int32 × Int32) (ls : Array Slot) (H : Heap) (locs : List Loc), lv_has ls 4 [(0, .ref (a0 0)), (1, .int v.2.1), (2, .int v.2.2.1), (3, .int v.2.2.2)] → Iw D A (w_Mo g a0 v.1 ++ (rest)) H → va_S A s.heap H locs → k4 v = some out → W p l e (headSpec ws_Mo_find { frames := 6, cells := 0, slots := 0, locals := 150 }).room s m args below meth c H locs 0 0 (MQ below (QcV D A g (fun (_ : Unit) => w_Mo g a0 out ++ (rest))) args s 0 0 A) (F0 m 4 ls [])) (hl : lv_has ls 4 [(0, .ref (a0 0)), (1, .int x1), (3, .int x3)]) (hI : Iw D A (w_Mo g a0 s0 ++ (rest)) H) (hS : va_S A s.heap H locs) (h : B_Mo_find_28 k4 s0 x1 x3 = some out) : W p l e (headSpec ws_Mo_find { frames := 6, cells := 0, slots := 0, locals := 150 }).room s m args below meth c H locs 0 0 (MQ below (QcV D A g (fun (_ : Unit) => w_Mo g a0 out ++ (rest))) args s 0 0 A) (F0 m 28 ls []) := by
  have X1 := X
  obtain ⟨hx, hb, hml, hown, hts, hr, hlocks, hKK⟩ := X1
  have ht : ∀ w ∈ TB, w.before args s = true := fun w h => hts w (List.mem_cons_of_mem _ h)
  have hK := hKK.1
  unfold B_Mo_find_28 at h
  refine lv_aload_n hx hb d_Mo_find_28 rfl (lv_at hl 0 rfl) ?_
  refine lv_iconst (v := 1) hx hb d_Mo_find_29 (by decide) ?_
  refine lv_iconst (v := 1) hx hb d_Mo_find_30 (by decide) ?_
  obtain ⟨o1, ho2, h⟩ := bd_s h
  refine cl_i (W1 := fun (_ : Unit) => w_Mo g a0 o1.2 ++ (rest)) (va_runV (As := [.int (1 : Int32), .int (1 : Int32)]) (rest := []) ⟨hx, hb, hml, hown, ht⟩ (c_Mo_replies (l := l) (D := D) (A := A) (g := g) (rest := rest) (a0 := a0) ho2) (cwV 2 ht (gd_V m_1120 m_1122 mp_64 m_11 m_1123) rfl rfl rfl (by decide +kernel) ⟨(Nat.le_of_ble_eq_true rfl), (Nat.le_of_ble_eq_true rfl)⟩) (prV (ci := 9) (q0 := 0) hKK hI (List.Perm.refl _) rfl rfl rfl) rfl rfl hl.1 rfl (lv_room (Nat.le_of_ble_eq_true rfl)) d_Mo_find_31 ⟨(Nat.le_of_ble_eq_true rfl), (Nat.le_of_ble_eq_true rfl)⟩) hS (fun _ => ((List.Perm.refl _)).symm) (fun _ H locs hI hS => ?_)
  have hI : Iw D A (w_Mo g a0 o1.2 ++ (rest)) H := hI
  refine lv_istore_n hx hb d_Mo_find_34 rfl hl (Nat.le_of_ble_eq_true rfl) rfl (fun ls hl => ?_)
  have hl : lv_has ls 4 [(2, .int o1.1), (0, .ref (a0 0)), (1, .int x1), (3, .int x3)] := hl
  refine lv_iload_n hx hb d_Mo_find_35 rfl (lv_at hl 0 rfl) ?_
  refine lv_if_eq (tgt := 45) hx hb d_Mo_find_36 (by decide) (fun hc => ?_) (fun hc => ?_)
  · have h := it_t h hc
    exact t_Mo_find_45 X hk4 (lv_sub hl [1, 2, 0, 3] rfl) hI hS h
  · have h := it_f h hc
    exact t_Mo_find_39 X hk4 (lv_sub hl [1, 2, 3] rfl) hI hS h
set_option maxRecDepth 100000 in
set_option maxHeartbeats 4000000 in
theorem t_Mo_find_16 {p : Program} {l : Launch} {e : Env} {s : State} {m : MethodId} {args : Array Value} {below : List Frame} {meth : Method} {c : Code} {D : va_G} {A : Nat → Prop} {g : Nat → ClassId} {rest : va_W} {a0 : Nat → Nat} {ls : Array Slot} {H : Heap} {locs : List Loc} {k4 : S_Mo × Int32 × Int32 × Int32 → Option S_Mo} {s0 : S_Mo} {x1 : Int32} {x2 : Int32} {x3 : Int32} {out : S_Mo} (X : Cx p s m args meth c prog_11_method_48_code 4 ws_Mo_find R_Mo none D g) (hk4 : ∀ (v : S_Mo × Int32 × Int32 × Int32) (ls : Array Slot) (H : Heap) (locs : List Loc), lv_has ls 4 [(0, .ref (a0 0)), (1, .int v.2.1), (2, .int v.2.2.1), (3, .int v.2.2.2)] → Iw D A (w_Mo g a0 v.1 ++ (rest)) H → va_S A s.heap H locs → k4 v = some out → W p l e (headSpec ws_Mo_find { frames := 6, cells := 0, slots := 0, locals := 150 }).room s m args below meth c H locs 0 0 (MQ below (QcV D A g (fun (_ : Unit) => w_Mo g a0 out ++ (rest))) args s 0 0 A) (F0 m 4 ls [])) (hl : lv_has ls 4 [(0, .ref (a0 0)), (1, .int x1), (2, .int x2), (3, .int x3)]) (hI : Iw D A (w_Mo g a0 s0 ++ (rest)) H) (hS : va_S A s.heap H locs) (h : B_Mo_find_16 k4 s0 x1 x2 x3 = some out) : W p l e (headSpec ws_Mo_find { frames := 6, cells := 0, slots := 0, locals := 150 }).room s m args below meth c H locs 0 0 (MQ below (QcV D A g (fun (_ : Unit) => w_Mo g a0 out ++ (rest))) args s 0 0 A) (F0 m 16 ls []) := by
  have X1 := X
  obtain ⟨hx, hb, hml, hown, hts, hr, hlocks, hKK⟩ := X1
  have ht : ∀ w ∈ TB, w.before args s = true := fun w h => hts w (List.mem_cons_of_mem _ h)
  have hK := hKK.1
  unfold B_Mo_find_16 at h
  refine lv_aload_n hx hb d_Mo_find_16 rfl (lv_at hl 0 rfl) ?_
  refine lv_iload_n hx hb d_Mo_find_17 rfl (lv_at hl 3 rfl) ?_
  obtain ⟨o1, ho2, h⟩ := bd_s h
  refine cl_v (W1 := fun (_ : Unit) => w_Mo g a0 o1 ++ (rest)) (va_runV (As := [.int x3]) (rest := []) ⟨hx, hb, hml, hown, ht⟩ (c_Mo_load (l := l) (D := D) (A := A) (g := g) (rest := rest) (a0 := a0) ho2) (cwV 1 ht (gd_V m_1136 m_1138 mp_68 m_11 m_1139) rfl rfl rfl (by decide +kernel) ⟨(Nat.le_of_ble_eq_true rfl), (Nat.le_of_ble_eq_true rfl)⟩) (prV (ci := 9) (q0 := 0) hKK hI (List.Perm.refl _) rfl rfl rfl) rfl rfl hl.1 rfl (lv_room (Nat.le_of_ble_eq_true rfl)) d_Mo_find_18 ⟨(Nat.le_of_ble_eq_true rfl), (Nat.le_of_ble_eq_true rfl)⟩) hS (fun _ => ((List.Perm.refl _)).symm) (fun _ H locs hI hS => ?_)
  have hI : Iw D A (w_Mo g a0 o1 ++ (rest)) H := hI
  refine lv_aload_n hx hb d_Mo_find_21 rfl (lv_at hl 0 rfl) ?_
  obtain ⟨o3, ho4, h⟩ := bd_s h
  refine cl_i (W1 := fun (_ : Unit) => w_Mo g a0 o3.2 ++ (rest)) (va_runV (As := []) (rest := []) ⟨hx, hb, hml, hown, ht⟩ (c_Mo_matches (l := l) (D := D) (A := A) (g := g) (rest := rest) (a0 := a0) ho4) (cwV 0 ht (gd_V m_1144 m_1146 mp_70 m_11 m_1147) rfl rfl rfl (by decide +kernel) ⟨(Nat.le_of_ble_eq_true rfl), (Nat.le_of_ble_eq_true rfl)⟩) (prV (ci := 9) (q0 := 0) hKK hI (List.Perm.refl _) rfl rfl rfl) rfl rfl hl.1 rfl (lv_room (Nat.le_of_ble_eq_true rfl)) d_Mo_find_22 ⟨(Nat.le_of_ble_eq_true rfl), (Nat.le_of_ble_eq_true rfl)⟩) hS (fun _ => ((List.Perm.refl _)).symm) (fun _ H locs hI hS => ?_)
  have hI : Iw D A (w_Mo g a0 o3.2 ++ (rest)) H := hI
  refine lv_if_eq (tgt := 45) hx hb d_Mo_find_25 (by decide) (fun hc => ?_) (fun hc => ?_)
  · have h := it_t h hc
    exact t_Mo_find_45 X hk4 (lv_sub hl [0, 1, 2, 3] rfl) hI hS h
  · have h := it_f h hc
    exact t_Mo_find_28 X hk4 (lv_sub hl [0, 1, 3] rfl) hI hS h
set_option maxRecDepth 100000 in
set_option maxHeartbeats 4000000 in
theorem t_Mo_find_12 {p : Program} {l : Launch} {e : Env} {s : State} {m : MethodId} {args : Array Value} {below : List Frame} {meth : Method} {c : Code} {D : va_G} {A : Nat → Prop} {g : Nat → ClassId} {rest : va_W} {a0 : Nat → Nat} {ls : Array Slot} {H : Heap} {locs : List Loc} {k4 : S_Mo × Int32 × Int32 × Int32 → Option S_Mo} {s0 : S_Mo} {x1 : Int32} {x2 : Int32} {x3 : Int32} {out : S_Mo} (X : Cx p s m args meth c prog_11_method_48_code 4 ws_Mo_find R_Mo none D g) (hk4 : ∀ (v : S_Mo × Int32 × Int32 × Int32) (ls : Array Slot) (H : Heap) (locs : List Loc), lv_has ls 4 [(0, .ref (a0 0)), (1, .int v.2.1), (2, .int v.2.2.1), (3, .int v.2.2.2)] → Iw D A (w_Mo g a0 v.1 ++ (rest)) H → va_S A s.heap H locs → k4 v = some out → W p l e (headSpec ws_Mo_find { frames := 6, cells := 0, slots := 0, locals := 150 }).room s m args below meth c H locs 0 0 (MQ below (QcV D A g (fun (_ : Unit) => w_Mo g a0 out ++ (rest))) args s 0 0 A) (F0 m 4 ls [])) (hl : lv_has ls 4 [(0, .ref (a0 0)), (1, .int x1), (2, .int x2), (3, .int x3)]) (hI : Iw D A (w_Mo g a0 s0 ++ (rest)) H) (hS : va_S A s.heap H locs) (h : B_Mo_find_12 k4 s0 x1 x2 x3 = some out) : W p l e (headSpec ws_Mo_find { frames := 6, cells := 0, slots := 0, locals := 150 }).room s m args below meth c H locs 0 0 (MQ below (QcV D A g (fun (_ : Unit) => w_Mo g a0 out ++ (rest))) args s 0 0 A) (F0 m 12 ls []) := by
  have X1 := X
  obtain ⟨hx, hb, hml, hown, hts, hr, hlocks, hKK⟩ := X1
  have ht : ∀ w ∈ TB, w.before args s = true := fun w h => hts w (List.mem_cons_of_mem _ h)
  have hK := hKK.1
  unfold B_Mo_find_12 at h
  refine lv_iload_n hx hb d_Mo_find_12 rfl (lv_at hl 2 rfl) ?_
  refine lv_if_eq (tgt := 51) hx hb d_Mo_find_13 (by decide) (fun hc => ?_) (fun hc => ?_)
  · have h := it_t h hc
    exact t_Mo_find_51 X (lv_sub hl [0, 2] rfl) hI hS h
  · have h := it_f h hc
    exact t_Mo_find_16 X hk4 (lv_sub hl [0, 1, 2, 3] rfl) hI hS h
set_option maxRecDepth 100000 in
set_option maxHeartbeats 4000000 in
theorem t_Mo_find_4 {p : Program} {l : Launch} {e : Env} {s : State} {m : MethodId} {args : Array Value} {below : List Frame} {meth : Method} {c : Code} {D : va_G} {A : Nat → Prop} {g : Nat → ClassId} {rest : va_W} {a0 : Nat → Nat} {ls : Array Slot} {H : Heap} {locs : List Loc} {k4 : S_Mo × Int32 × Int32 × Int32 → Option S_Mo} {s0 : S_Mo} {x1 : Int32} {x2 : Int32} {x3 : Int32} {out : S_Mo} (X : Cx p s m args meth c prog_11_method_48_code 4 ws_Mo_find R_Mo none D g) (hk4 : ∀ (v : S_Mo × Int32 × Int32 × Int32) (ls : Array Slot) (H : Heap) (locs : List Loc), lv_has ls 4 [(0, .ref (a0 0)), (1, .int v.2.1), (2, .int v.2.2.1), (3, .int v.2.2.2)] → Iw D A (w_Mo g a0 v.1 ++ (rest)) H → va_S A s.heap H locs → k4 v = some out → W p l e (headSpec ws_Mo_find { frames := 6, cells := 0, slots := 0, locals := 150 }).room s m args below meth c H locs 0 0 (MQ below (QcV D A g (fun (_ : Unit) => w_Mo g a0 out ++ (rest))) args s 0 0 A) (F0 m 4 ls [])) (hl : lv_has ls 4 [(0, .ref (a0 0)), (1, .int x1), (2, .int x2), (3, .int x3)]) (hI : Iw D A (w_Mo g a0 s0 ++ (rest)) H) (hS : va_S A s.heap H locs) (h : B_Mo_find_4 k4 s0 x1 x2 x3 = some out) : W p l e (headSpec ws_Mo_find { frames := 6, cells := 0, slots := 0, locals := 150 }).room s m args below meth c H locs 0 0 (MQ below (QcV D A g (fun (_ : Unit) => w_Mo g a0 out ++ (rest))) args s 0 0 A) (F0 m 4 ls []) := by
  have X1 := X
  obtain ⟨hx, hb, hml, hown, hts, hr, hlocks, hKK⟩ := X1
  have ht : ∀ w ∈ TB, w.before args s = true := fun w h => hts w (List.mem_cons_of_mem _ h)
  have hK := hKK.1
  unfold B_Mo_find_4 at h
  refine lv_iload_n hx hb d_Mo_find_4 rfl (lv_at hl 3 rfl) ?_
  refine lv_aload_n hx hb d_Mo_find_5 rfl (lv_at hl 0 rfl) ?_
  refine gt_Mo_records hx hb ht hown hK hI (ht _ m_863) d_Mo_find_6 ?_
  refine lv_icmp_ge (tgt := 51) hx hb d_Mo_find_9 (by decide) (fun hc => ?_) (fun hc => ?_)
  · have h := it_t h hc
    exact t_Mo_find_51 X (lv_sub hl [0, 2] rfl) hI hS h
  · have h := it_f h hc
    exact t_Mo_find_12 X hk4 (lv_sub hl [0, 1, 2, 3] rfl) hI hS h
set_option maxRecDepth 100000 in
set_option maxHeartbeats 4000000 in
theorem T_Mo_find_4 {p : Program} {l : Launch} {e : Env} {s : State} {m : MethodId} {args : Array Value} {below : List Frame} {meth : Method} {c : Code} {D : va_G} {A : Nat → Prop} {g : Nat → ClassId} {rest : va_W} {a0 : Nat → Nat} {ls : Array Slot} {H : Heap} {locs : List Loc} {s0 : S_Mo} {x1 : Int32} {x2 : Int32} {x3 : Int32} {out : S_Mo} (X : Cx p s m args meth c prog_11_method_48_code 4 ws_Mo_find R_Mo none D g) (hl : lv_has ls 4 [(0, .ref (a0 0)), (1, .int x1), (2, .int x2), (3, .int x3)]) (hI : Iw D A (w_Mo g a0 s0 ++ (rest)) H) (hS : va_S A s.heap H locs) (h : L_Mo_find_4   (s0, x1, x2, x3) = some out) : W p l e (headSpec ws_Mo_find { frames := 6, cells := 0, slots := 0, locals := 150 }).room s m args below meth c H locs 0 0 (MQ below (QcV D A g (fun (_ : Unit) => w_Mo g a0 out ++ (rest))) args s 0 0 A) (F0 m 4 ls []) := by
  unfold L_Mo_find_4 at h
  exact lp_ind (P := fun v => ∀ (ls : Array Slot) (H : Heap) (locs : List Loc), lv_has ls 4 [(0, .ref (a0 0)), (1, .int v.2.1), (2, .int v.2.2.1), (3, .int v.2.2.2)] → Iw D A (w_Mo g a0 v.1 ++ (rest)) H → va_S A s.heap H locs → W p l e (headSpec ws_Mo_find { frames := 6, cells := 0, slots := 0, locals := 150 }).room s m args below meth c H locs 0 0 (MQ below (QcV D A g (fun (_ : Unit) => w_Mo g a0 out ++ (rest))) args s 0 0 A) (F0 m 4 ls [])) (fun k v ih hb ls H locs  hl hI hS => t_Mo_find_4 X  (fun v' ls H locs  hl hI hS h' => ih v' h' ls H locs  hl hI hS) hl hI hS hb) FU _ h ls H locs  hl hI hS
set_option maxRecDepth 100000 in
set_option maxHeartbeats 4000000 in
theorem t_Mo_find_0 {p : Program} {l : Launch} {e : Env} {s : State} {m : MethodId} {args : Array Value} {below : List Frame} {meth : Method} {c : Code} {D : va_G} {A : Nat → Prop} {g : Nat → ClassId} {rest : va_W} {a0 : Nat → Nat} {ls : Array Slot} {H : Heap} {locs : List Loc} {s0 : S_Mo} {x1 : Int32} {out : S_Mo} (X : Cx p s m args meth c prog_11_method_48_code 4 ws_Mo_find R_Mo none D g) (hl : lv_has ls 4 [(0, .ref (a0 0)), (1, .int x1)]) (hI : Iw D A (w_Mo g a0 s0 ++ (rest)) H) (hS : va_S A s.heap H locs) (h : B_Mo_find_0  s0 x1 = some out) : W p l e (headSpec ws_Mo_find { frames := 6, cells := 0, slots := 0, locals := 150 }).room s m args below meth c H locs 0 0 (MQ below (QcV D A g (fun (_ : Unit) => w_Mo g a0 out ++ (rest))) args s 0 0 A) (F0 m 0 ls []) := by
  have X1 := X
  obtain ⟨hx, hb, hml, hown, hts, hr, hlocks, hKK⟩ := X1
  have ht : ∀ w ∈ TB, w.before args s = true := fun w h => hts w (List.mem_cons_of_mem _ h)
  have hK := hKK.1
  unfold B_Mo_find_0 at h
  refine lv_iconst (v := 1) hx hb d_Mo_find_0 (by decide) ?_
  refine lv_istore_n hx hb d_Mo_find_1 rfl hl (Nat.le_of_ble_eq_true rfl) rfl (fun ls hl => ?_)
  have hl : lv_has ls 4 [(2, .int (1 : Int32)), (0, .ref (a0 0)), (1, .int x1)] := hl
  refine lv_iconst (v := 0) hx hb d_Mo_find_2 (by decide) ?_
  refine lv_istore_n hx hb d_Mo_find_3 rfl hl (Nat.le_of_ble_eq_true rfl) rfl (fun ls hl => ?_)
  have hl : lv_has ls 4 [(3, .int (0 : Int32)), (2, .int (1 : Int32)), (0, .ref (a0 0)), (1, .int x1)] := hl
  exact T_Mo_find_4 X (lv_sub hl [2, 3, 1, 0] rfl) hI hS h
set_option maxRecDepth 100000 in
set_option maxHeartbeats 4000000 in
theorem c_Mo_find {l : Launch} {D : va_G} {A : Nat → Prop} {g : Nat → ClassId} {rest : va_W} {a0 : Nat → Nat} {s0 : S_Mo} {x1 : Int32} {out : S_Mo} (h : F_Mo_find s0 x1 = some out) : Met l y_Mo_find ws_Mo_find { frames := 6, cells := 0, slots := 0, locals := 150 } (PcW D A g [.ref (a0 0), .int x1] (w_Mo g a0 s0 ++ (rest))) (QcV D A g (fun (_ : Unit) => w_Mo g a0 out ++ (rest))) 0 0 A := by
  refine Met.ofW (cc := prog_11_method_48_code) (maxL := 4) (ret := none) (by decide) rfl ?_
  intro p e s m args below meth c s₁ B hml hv
  obtain ⟨rfl, hI, hK⟩ := hv
  have hl := lv_entry [.ref (a0 0), .int x1] (n := 4) (Nat.le_of_ble_eq_true rfl)
  rw [lg_entry_eq]
  generalize (lg_sl [.ref (a0 0), .int x1] ++ List.replicate (4 - (lg_sl [.ref (a0 0), .int x1]).length) Slot.unset).toArray = ls at hl ⊢
  have hl : lv_has ls 4 [(0, .ref (a0 0)), (1, .int x1)] := hl
  exact t_Mo_find_0 ⟨B.exec, B.bytes, hml, findClass_of_methodNamed B.named, atoms_spec (ws := ws_Mo_find) B.pre, B.returns, B.notSynchronized, hK⟩ (lv_sub hl [0, 1] rfl) hI va_S.rf h
def ws_Mo_placeOf : List Cond := .code y_Mo_placeOf prog_11_method_47_code 6 (some .int) :: TB
def B_Mo_placeOf_147 (s0 : S_Mo) : Option (Int32 × S_Mo) :=
  some ((Mo_records s0), s0)
def B_Mo_placeOf_141 (k2 : S_Mo × Int32 × Int32 → Option (Int32 × S_Mo)) (s0 : S_Mo) (x1 : Int32) (x2 : Int32) : Option (Int32 × S_Mo) :=
  (k2 (s0, x1, (x2 + 1)))
def B_Mo_placeOf_131 (k2 : S_Mo × Int32 × Int32 → Option (Int32 × S_Mo)) (k24 : S_Mo × Int32 × Int32 × Int32 → Option (Int32 × S_Mo)) (s0 : S_Mo) (x1 : Int32) (x2 : Int32) (x3 : Int32) : Option (Int32 × S_Mo) :=
  (if (x3 < 0 ∨ 260 ≤ x3.toNatClampNeg) then none else (k24 (s0, x1, x2, ((Mo_next s0) x3.toNatClampNeg))))
def B_Mo_placeOf_129 (s0 : S_Mo) (x2 : Int32) : Option (Int32 × S_Mo) :=
  some (x2, s0)
def B_Mo_placeOf_124 (k2 : S_Mo × Int32 × Int32 → Option (Int32 × S_Mo)) (k24 : S_Mo × Int32 × Int32 × Int32 → Option (Int32 × S_Mo)) (s0 : S_Mo) (x1 : Int32) (x2 : Int32) (x3 : Int32) (x4 : Int32) : Option (Int32 × S_Mo) :=
  (if x4 = 0 then (B_Mo_placeOf_131 k2 k24 s0 x1 x2 x3) else (B_Mo_placeOf_129 s0 x2))
def B_Mo_placeOf_116 (k2 : S_Mo × Int32 × Int32 → Option (Int32 × S_Mo)) (k24 : S_Mo × Int32 × Int32 × Int32 → Option (Int32 × S_Mo)) (k64 : S_Mo × Int32 × Int32 × Int32 × Int32 × Int32 → Option (Int32 × S_Mo)) (s0 : S_Mo) (x1 : Int32) (x2 : Int32) (x3 : Int32) (x5 : Int32) (y0 : Int32) : Option (Int32 × S_Mo) :=
  (k64 (s0, x1, x2, x3, y0, (x5 + 1)))
def B_Mo_placeOf_115 (k2 : S_Mo × Int32 × Int32 → Option (Int32 × S_Mo)) (k24 : S_Mo × Int32 × Int32 × Int32 → Option (Int32 × S_Mo)) (k64 : S_Mo × Int32 × Int32 × Int32 × Int32 × Int32 → Option (Int32 × S_Mo)) (s0 : S_Mo) (x1 : Int32) (x2 : Int32) (x3 : Int32) (x5 : Int32) : Option (Int32 × S_Mo) :=
  (B_Mo_placeOf_116 k2 k24 k64 s0 x1 x2 x3 x5 (0 : Int32))
def B_Mo_placeOf_111 (k2 : S_Mo × Int32 × Int32 → Option (Int32 × S_Mo)) (k24 : S_Mo × Int32 × Int32 × Int32 → Option (Int32 × S_Mo)) (k64 : S_Mo × Int32 × Int32 × Int32 × Int32 × Int32 → Option (Int32 × S_Mo)) (s0 : S_Mo) (x1 : Int32) (x2 : Int32) (x3 : Int32) (x5 : Int32) : Option (Int32 × S_Mo) :=
  (B_Mo_placeOf_116 k2 k24 k64 s0 x1 x2 x3 x5 (1 : Int32))
def B_Mo_placeOf_80 (k2 : S_Mo × Int32 × Int32 → Option (Int32 × S_Mo)) (k24 : S_Mo × Int32 × Int32 × Int32 → Option (Int32 × S_Mo)) (k64 : S_Mo × Int32 × Int32 × Int32 × Int32 × Int32 → Option (Int32 × S_Mo)) (s0 : S_Mo) (x1 : Int32) (x2 : Int32) (x3 : Int32) (x5 : Int32) : Option (Int32 × S_Mo) :=
  (if (x3 < 0 ∨ 260 ≤ x3.toNatClampNeg) then none else (if ((((Mo_letters s0) x3.toNatClampNeg) + x5) < 0 ∨ 480 ≤ (((Mo_letters s0) x3.toNatClampNeg) + x5).toNatClampNeg) then none else (if (x1 < 0 ∨ 260 ≤ x1.toNatClampNeg) then none else (if ((((Mo_letters s0) x1.toNatClampNeg) + x5) < 0 ∨ 480 ≤ (((Mo_letters s0) x1.toNatClampNeg) + x5).toNatClampNeg) then none else (if ((Mo_chars s0) (((Mo_letters s0) x3.toNatClampNeg) + x5).toNatClampNeg) = ((Mo_chars s0) (((Mo_letters s0) x1.toNatClampNeg) + x5).toNatClampNeg) then (B_Mo_placeOf_111 k2 k24 k64 s0 x1 x2 x3 x5) else (B_Mo_placeOf_115 k2 k24 k64 s0 x1 x2 x3 x5))))))
def B_Mo_placeOf_75 (k2 : S_Mo × Int32 × Int32 → Option (Int32 × S_Mo)) (k24 : S_Mo × Int32 × Int32 × Int32 → Option (Int32 × S_Mo)) (k64 : S_Mo × Int32 × Int32 × Int32 × Int32 × Int32 → Option (Int32 × S_Mo)) (s0 : S_Mo) (x1 : Int32) (x2 : Int32) (x3 : Int32) (x4 : Int32) (x5 : Int32) : Option (Int32 × S_Mo) :=
  (if x4 = 0 then (B_Mo_placeOf_124 k2 k24 s0 x1 x2 x3 x4) else (B_Mo_placeOf_80 k2 k24 k64 s0 x1 x2 x3 x5))
def B_Mo_placeOf_64 (k2 : S_Mo × Int32 × Int32 → Option (Int32 × S_Mo)) (k24 : S_Mo × Int32 × Int32 × Int32 → Option (Int32 × S_Mo)) (k64 : S_Mo × Int32 × Int32 × Int32 × Int32 × Int32 → Option (Int32 × S_Mo)) (s0 : S_Mo) (x1 : Int32) (x2 : Int32) (x3 : Int32) (x4 : Int32) (x5 : Int32) : Option (Int32 × S_Mo) :=
  (if (x1 < 0 ∨ 260 ≤ x1.toNatClampNeg) then none else (if ((Mo_value s0) x1.toNatClampNeg) ≤ x5 then (B_Mo_placeOf_124 k2 k24 s0 x1 x2 x3 x4) else (B_Mo_placeOf_75 k2 k24 k64 s0 x1 x2 x3 x4 x5)))
def L_Mo_placeOf_64 (k2 : S_Mo × Int32 × Int32 → Option (Int32 × S_Mo)) (k24 : S_Mo × Int32 × Int32 × Int32 → Option (Int32 × S_Mo)) (v : S_Mo × Int32 × Int32 × Int32 × Int32 × Int32) : Option (Int32 × S_Mo) := lp (fun k64 v => B_Mo_placeOf_64 k2 k24 k64  v.1 v.2.1 v.2.2.1 v.2.2.2.1 v.2.2.2.2.1 v.2.2.2.2.2) FU v
def B_Mo_placeOf_59 (k2 : S_Mo × Int32 × Int32 → Option (Int32 × S_Mo)) (k24 : S_Mo × Int32 × Int32 × Int32 → Option (Int32 × S_Mo)) (s0 : S_Mo) (x1 : Int32) (x2 : Int32) (x3 : Int32) (y0 : Int32) : Option (Int32 × S_Mo) :=
  (L_Mo_placeOf_64 k2 k24 (s0, x1, x2, x3, y0, (0 : Int32)))
def B_Mo_placeOf_58 (k2 : S_Mo × Int32 × Int32 → Option (Int32 × S_Mo)) (k24 : S_Mo × Int32 × Int32 × Int32 → Option (Int32 × S_Mo)) (s0 : S_Mo) (x1 : Int32) (x2 : Int32) (x3 : Int32) : Option (Int32 × S_Mo) :=
  (B_Mo_placeOf_59 k2 k24 s0 x1 x2 x3 (0 : Int32))
def B_Mo_placeOf_54 (k2 : S_Mo × Int32 × Int32 → Option (Int32 × S_Mo)) (k24 : S_Mo × Int32 × Int32 × Int32 → Option (Int32 × S_Mo)) (s0 : S_Mo) (x1 : Int32) (x2 : Int32) (x3 : Int32) : Option (Int32 × S_Mo) :=
  (B_Mo_placeOf_59 k2 k24 s0 x1 x2 x3 (1 : Int32))
def B_Mo_placeOf_39 (k2 : S_Mo × Int32 × Int32 → Option (Int32 × S_Mo)) (k24 : S_Mo × Int32 × Int32 × Int32 → Option (Int32 × S_Mo)) (s0 : S_Mo) (x1 : Int32) (x2 : Int32) (x3 : Int32) : Option (Int32 × S_Mo) :=
  (if (x3 < 0 ∨ 260 ≤ x3.toNatClampNeg) then none else (if (x1 < 0 ∨ 260 ≤ x1.toNatClampNeg) then none else (if ((Mo_value s0) x3.toNatClampNeg) = ((Mo_value s0) x1.toNatClampNeg) then (B_Mo_placeOf_54 k2 k24 s0 x1 x2 x3) else (B_Mo_placeOf_58 k2 k24 s0 x1 x2 x3))))
def B_Mo_placeOf_28 (k2 : S_Mo × Int32 × Int32 → Option (Int32 × S_Mo)) (k24 : S_Mo × Int32 × Int32 × Int32 → Option (Int32 × S_Mo)) (s0 : S_Mo) (x1 : Int32) (x2 : Int32) (x3 : Int32) : Option (Int32 × S_Mo) :=
  (if (x3 < 0 ∨ 260 ≤ x3.toNatClampNeg) then none else (if ((Mo_tag s0) x3.toNatClampNeg) = (80 : Int32) then (B_Mo_placeOf_39 k2 k24 s0 x1 x2 x3) else (B_Mo_placeOf_58 k2 k24 s0 x1 x2 x3)))
def B_Mo_placeOf_24 (k2 : S_Mo × Int32 × Int32 → Option (Int32 × S_Mo)) (k24 : S_Mo × Int32 × Int32 × Int32 → Option (Int32 × S_Mo)) (s0 : S_Mo) (x1 : Int32) (x2 : Int32) (x3 : Int32) : Option (Int32 × S_Mo) :=
  (if x3 < 0 then (B_Mo_placeOf_141 k2 s0 x1 x2) else (B_Mo_placeOf_28 k2 k24 s0 x1 x2 x3))
def L_Mo_placeOf_24 (k2 : S_Mo × Int32 × Int32 → Option (Int32 × S_Mo)) (v : S_Mo × Int32 × Int32 × Int32) : Option (Int32 × S_Mo) := lp (fun k24 v => B_Mo_placeOf_24 k2 k24  v.1 v.2.1 v.2.2.1 v.2.2.2) FU v
def B_Mo_placeOf_10 (k2 : S_Mo × Int32 × Int32 → Option (Int32 × S_Mo)) (s0 : S_Mo) (x1 : Int32) (x2 : Int32) : Option (Int32 × S_Mo) :=
  ((F_Mo_load s0 x2).bind fun o1 => (if ((130 : Int32) < 0 ∨ 260 ≤ (130 : Int32).toNatClampNeg) then none else (L_Mo_placeOf_24 k2 (o1, x1, x2, ((Mo_first o1) (130 : Int32).toNatClampNeg)))))
def B_Mo_placeOf_2 (k2 : S_Mo × Int32 × Int32 → Option (Int32 × S_Mo)) (s0 : S_Mo) (x1 : Int32) (x2 : Int32) : Option (Int32 × S_Mo) :=
  (if (Mo_records s0) ≤ x2 then (B_Mo_placeOf_147 s0) else (B_Mo_placeOf_10 k2 s0 x1 x2))
def L_Mo_placeOf_2 (v : S_Mo × Int32 × Int32) : Option (Int32 × S_Mo) := lp (fun k2 v => B_Mo_placeOf_2  k2  v.1 v.2.1 v.2.2) FU v
def B_Mo_placeOf_0 (s0 : S_Mo) (x1 : Int32) : Option (Int32 × S_Mo) :=
  (L_Mo_placeOf_2 (s0, x1, (0 : Int32)))
def F_Mo_placeOf (s0 : S_Mo) (x1 : Int32) : Option (Int32 × S_Mo) := B_Mo_placeOf_0 s0 x1
set_option maxRecDepth 100000 in
set_option maxHeartbeats 4000000 in
theorem t_Mo_placeOf_147 {p : Program} {l : Launch} {e : Env} {s : State} {m : MethodId} {args : Array Value} {below : List Frame} {meth : Method} {c : Code} {D : va_G} {A : Nat → Prop} {g : Nat → ClassId} {rest : va_W} {a0 : Nat → Nat} {ls : Array Slot} {H : Heap} {locs : List Loc} {s0 : S_Mo} {out : Int32 × S_Mo} (X : Cx p s m args meth c prog_11_method_47_code 6 ws_Mo_placeOf R_Mo (some .int) D g) (hl : lv_has ls 6 [(0, .ref (a0 0))]) (hI : Iw D A (w_Mo g a0 s0 ++ (rest)) H) (hS : va_S A s.heap H locs) (h : B_Mo_placeOf_147  s0 = some out) : W p l e (headSpec ws_Mo_placeOf { frames := 6, cells := 0, slots := 0, locals := 150 }).room s m args below meth c H locs 0 0 (MQ below (QcI D A g out.1 (fun (_ : Unit) => w_Mo g a0 out.2 ++ (rest))) args s 0 0 A) (F0 m 147 ls []) := by
  have X1 := X
  obtain ⟨hx, hb, hml, hown, hts, hr, hlocks, hKK⟩ := X1
  have ht : ∀ w ∈ TB, w.before args s = true := fun w h => hts w (List.mem_cons_of_mem _ h)
  have hK := hKK.1
  unfold B_Mo_placeOf_147 at h
  refine lv_aload_n hx hb d_Mo_placeOf_147 rfl (lv_at hl 0 rfl) ?_
  refine gt_Mo_records hx hb ht hown hK hI (ht _ m_863) d_Mo_placeOf_148 ?_
  have h9 := Option.some.inj h
  subst h9
  exact W.iret (v := (Mo_records s0)) hx hb hr (fun t ht hW => ⟨⟨_, (), rfl, rfl, ⟨by rw [ht]; exact hI, hKK.moved hW⟩⟩, hS.F ht⟩) hS.2.2 d_Mo_placeOf_151
set_option maxRecDepth 100000 in
set_option maxHeartbeats 4000000 in
theorem t_Mo_placeOf_141 {p : Program} {l : Launch} {e : Env} {s : State} {m : MethodId} {args : Array Value} {below : List Frame} {meth : Method} {c : Code} {D : va_G} {A : Nat → Prop} {g : Nat → ClassId} {rest : va_W} {a0 : Nat → Nat} {ls : Array Slot} {H : Heap} {locs : List Loc} {k2 : S_Mo × Int32 × Int32 → Option (Int32 × S_Mo)} {s0 : S_Mo} {x1 : Int32} {x2 : Int32} {out : Int32 × S_Mo} (X : Cx p s m args meth c prog_11_method_47_code 6 ws_Mo_placeOf R_Mo (some .int) D g) (hk2 : ∀ (v : S_Mo × Int32 × Int32) (ls : Array Slot) (H : Heap) (locs : List Loc), lv_has ls 6 [(0, .ref (a0 0)), (1, .int v.2.1), (2, .int v.2.2)] → Iw D A (w_Mo g a0 v.1 ++ (rest)) H → va_S A s.heap H locs → k2 v = some out → W p l e (headSpec ws_Mo_placeOf { frames := 6, cells := 0, slots := 0, locals := 150 }).room s m args below meth c H locs 0 0 (MQ below (QcI D A g out.1 (fun (_ : Unit) => w_Mo g a0 out.2 ++ (rest))) args s 0 0 A) (F0 m 2 ls [])) (hl : lv_has ls 6 [(0, .ref (a0 0)), (1, .int x1), (2, .int x2)]) (hI : Iw D A (w_Mo g a0 s0 ++ (rest)) H) (hS : va_S A s.heap H locs) (h : B_Mo_placeOf_141 k2 s0 x1 x2 = some out) : W p l e (headSpec ws_Mo_placeOf { frames := 6, cells := 0, slots := 0, locals := 150 }).room s m args below meth c H locs 0 0 (MQ below (QcI D A g out.1 (fun (_ : Unit) => w_Mo g a0 out.2 ++ (rest))) args s 0 0 A) (F0 m 141 ls []) := by
  have X1 := X
  obtain ⟨hx, hb, hml, hown, hts, hr, hlocks, hKK⟩ := X1
  have ht : ∀ w ∈ TB, w.before args s = true := fun w h => hts w (List.mem_cons_of_mem _ h)
  have hK := hKK.1
  unfold B_Mo_placeOf_141 at h
  refine lv_iinc (k := 2) (v := (x2 + 1)) hx hb d_Mo_placeOf_141 hl rfl (congrArg (fun z => x2 + z) (by decide)) (Nat.le_of_ble_eq_true rfl) rfl (fun ls hl => ?_)
  have hl : lv_has ls 6 [(2, .int (x2 + 1)), (0, .ref (a0 0)), (1, .int x1)] := hl
  refine lv_goto (tgt := 2) hx hb d_Mo_placeOf_144 (by decide) ?_
  exact hk2 (s0, x1, (x2 + 1)) _ _ _ (lv_sub hl [1, 2, 0] rfl) hI hS h
set_option maxRecDepth 100000 in
set_option maxHeartbeats 4000000 in
theorem t_Mo_placeOf_131 {p : Program} {l : Launch} {e : Env} {s : State} {m : MethodId} {args : Array Value} {below : List Frame} {meth : Method} {c : Code} {D : va_G} {A : Nat → Prop} {g : Nat → ClassId} {rest : va_W} {a0 : Nat → Nat} {ls : Array Slot} {H : Heap} {locs : List Loc} {k2 : S_Mo × Int32 × Int32 → Option (Int32 × S_Mo)} {k24 : S_Mo × Int32 × Int32 × Int32 → Option (Int32 × S_Mo)} {s0 : S_Mo} {x1 : Int32} {x2 : Int32} {x3 : Int32} {out : Int32 × S_Mo} (X : Cx p s m args meth c prog_11_method_47_code 6 ws_Mo_placeOf R_Mo (some .int) D g) (hk2 : ∀ (v : S_Mo × Int32 × Int32) (ls : Array Slot) (H : Heap) (locs : List Loc), lv_has ls 6 [(0, .ref (a0 0)), (1, .int v.2.1), (2, .int v.2.2)] → Iw D A (w_Mo g a0 v.1 ++ (rest)) H → va_S A s.heap H locs → k2 v = some out → W p l e (headSpec ws_Mo_placeOf { frames := 6, cells := 0, slots := 0, locals := 150 }).room s m args below meth c H locs 0 0 (MQ below (QcI D A g out.1 (fun (_ : Unit) => w_Mo g a0 out.2 ++ (rest))) args s 0 0 A) (F0 m 2 ls [])) (hk24 : ∀ (v : S_Mo × Int32 × Int32 × Int32) (ls : Array Slot) (H : Heap) (locs : List Loc), lv_has ls 6 [(0, .ref (a0 0)), (1, .int v.2.1), (2, .int v.2.2.1), (3, .int v.2.2.2)] → Iw D A (w_Mo g a0 v.1 ++ (rest)) H → va_S A s.heap H locs → k24 v = some out → W p l e (headSpec ws_Mo_placeOf { frames := 6, cells := 0, slots := 0, locals := 150 }).room s m args below meth c H locs 0 0 (MQ below (QcI D A g out.1 (fun (_ : Unit) => w_Mo g a0 out.2 ++ (rest))) args s 0 0 A) (F0 m 24 ls [])) (hl : lv_has ls 6 [(0, .ref (a0 0)), (1, .int x1), (2, .int x2), (3, .int x3)]) (hI : Iw D A (w_Mo g a0 s0 ++ (rest)) H) (hS : va_S A s.heap H locs) (h : B_Mo_placeOf_131 k2 k24 s0 x1 x2 x3 = some out) : W p l e (headSpec ws_Mo_placeOf { frames := 6, cells := 0, slots := 0, locals := 150 }).room s m args below meth c H locs 0 0 (MQ below (QcI D A g out.1 (fun (_ : Unit) => w_Mo g a0 out.2 ++ (rest))) args s 0 0 A) (F0 m 131 ls []) := by
  have X1 := X
  obtain ⟨hx, hb, hml, hown, hts, hr, hlocks, hKK⟩ := X1
  have ht : ∀ w ∈ TB, w.before args s = true := fun w h => hts w (List.mem_cons_of_mem _ h)
  have hK := hKK.1
  unfold B_Mo_placeOf_131 at h
  refine lv_aload_n hx hb d_Mo_placeOf_131 rfl (lv_at hl 0 rfl) ?_
  refine gt_Mo_next hx hb ht hown hK hI (ht _ m_829) d_Mo_placeOf_132 ?_
  refine lv_iload_n hx hb d_Mo_placeOf_135 rfl (lv_at hl 3 rfl) ?_
  by_cases hc1 : (x3 < 0 ∨ 260 ≤ x3.toNatClampNeg)
  · exact no_s (it_t h hc1)
  have h := it_f h hc1
  refine al_Mo_next hx hb hK hI hc1 d_Mo_placeOf_136 ?_
  refine lv_istore_n hx hb d_Mo_placeOf_137 rfl hl (Nat.le_of_ble_eq_true rfl) rfl (fun ls hl => ?_)
  have hl : lv_has ls 6 [(3, .int ((Mo_next s0) x3.toNatClampNeg)), (0, .ref (a0 0)), (1, .int x1), (2, .int x2)] := hl
  refine lv_goto (tgt := 24) hx hb d_Mo_placeOf_138 (by decide) ?_
  exact hk24 (s0, x1, x2, ((Mo_next s0) x3.toNatClampNeg)) _ _ _ (lv_sub hl [1, 2, 3, 0] rfl) hI hS h
set_option maxRecDepth 100000 in
set_option maxHeartbeats 4000000 in
theorem t_Mo_placeOf_129 {p : Program} {l : Launch} {e : Env} {s : State} {m : MethodId} {args : Array Value} {below : List Frame} {meth : Method} {c : Code} {D : va_G} {A : Nat → Prop} {g : Nat → ClassId} {rest : va_W} {a0 : Nat → Nat} {ls : Array Slot} {H : Heap} {locs : List Loc} {s0 : S_Mo} {x2 : Int32} {out : Int32 × S_Mo} (X : Cx p s m args meth c prog_11_method_47_code 6 ws_Mo_placeOf R_Mo (some .int) D g) (hl : lv_has ls 6 [(2, .int x2)]) (hI : Iw D A (w_Mo g a0 s0 ++ (rest)) H) (hS : va_S A s.heap H locs) (h : B_Mo_placeOf_129  s0 x2 = some out) : W p l e (headSpec ws_Mo_placeOf { frames := 6, cells := 0, slots := 0, locals := 150 }).room s m args below meth c H locs 0 0 (MQ below (QcI D A g out.1 (fun (_ : Unit) => w_Mo g a0 out.2 ++ (rest))) args s 0 0 A) (F0 m 129 ls []) := by
  have X1 := X
  obtain ⟨hx, hb, hml, hown, hts, hr, hlocks, hKK⟩ := X1
  have ht : ∀ w ∈ TB, w.before args s = true := fun w h => hts w (List.mem_cons_of_mem _ h)
  have hK := hKK.1
  unfold B_Mo_placeOf_129 at h
  refine lv_iload_n hx hb d_Mo_placeOf_129 rfl (lv_at hl 0 rfl) ?_
  have h9 := Option.some.inj h
  subst h9
  exact W.iret (v := x2) hx hb hr (fun t ht hW => ⟨⟨_, (), rfl, rfl, ⟨by rw [ht]; exact hI, hKK.moved hW⟩⟩, hS.F ht⟩) hS.2.2 d_Mo_placeOf_130
set_option maxRecDepth 100000 in
set_option maxHeartbeats 4000000 in
theorem t_Mo_placeOf_124 {p : Program} {l : Launch} {e : Env} {s : State} {m : MethodId} {args : Array Value} {below : List Frame} {meth : Method} {c : Code} {D : va_G} {A : Nat → Prop} {g : Nat → ClassId} {rest : va_W} {a0 : Nat → Nat} {ls : Array Slot} {H : Heap} {locs : List Loc} {k2 : S_Mo × Int32 × Int32 → Option (Int32 × S_Mo)} {k24 : S_Mo × Int32 × Int32 × Int32 → Option (Int32 × S_Mo)} {s0 : S_Mo} {x1 : Int32} {x2 : Int32} {x3 : Int32} {x4 : Int32} {out : Int32 × S_Mo} (X : Cx p s m args meth c prog_11_method_47_code 6 ws_Mo_placeOf R_Mo (some .int) D g) (hk2 : ∀ (v : S_Mo × Int32 × Int32) (ls : Array Slot) (H : Heap) (locs : List Loc), lv_has ls 6 [(0, .ref (a0 0)), (1, .int v.2.1), (2, .int v.2.2)] → Iw D A (w_Mo g a0 v.1 ++ (rest)) H → va_S A s.heap H locs → k2 v = some out → W p l e (headSpec ws_Mo_placeOf { frames := 6, cells := 0, slots := 0, locals := 150 }).room s m args below meth c H locs 0 0 (MQ below (QcI D A g out.1 (fun (_ : Unit) => w_Mo g a0 out.2 ++ (rest))) args s 0 0 A) (F0 m 2 ls [])) (hk24 : ∀ (v : S_Mo × Int32 × Int32 × Int32) (ls : Array Slot) (H : Heap) (locs : List Loc), lv_has ls 6 [(0, .ref (a0 0)), (1, .int v.2.1), (2, .int v.2.2.1), (3, .int v.2.2.2)] → Iw D A (w_Mo g a0 v.1 ++ (rest)) H → va_S A s.heap H locs → k24 v = some out → W p l e (headSpec ws_Mo_placeOf { frames := 6, cells := 0, slots := 0, locals := 150 }).room s m args below meth c H locs 0 0 (MQ below (QcI D A g out.1 (fun (_ : Unit) => w_Mo g a0 out.2 ++ (rest))) args s 0 0 A) (F0 m 24 ls [])) (hl : lv_has ls 6 [(0, .ref (a0 0)), (1, .int x1), (2, .int x2), (3, .int x3), (4, .int x4)]) (hI : Iw D A (w_Mo g a0 s0 ++ (rest)) H) (hS : va_S A s.heap H locs) (h : B_Mo_placeOf_124 k2 k24 s0 x1 x2 x3 x4 = some out) : W p l e (headSpec ws_Mo_placeOf { frames := 6, cells := 0, slots := 0, locals := 150 }).room s m args below meth c H locs 0 0 (MQ below (QcI D A g out.1 (fun (_ : Unit) => w_Mo g a0 out.2 ++ (rest))) args s 0 0 A) (F0 m 124 ls []) := by
  have X1 := X
  obtain ⟨hx, hb, hml, hown, hts, hr, hlocks, hKK⟩ := X1
  have ht : ∀ w ∈ TB, w.before args s = true := fun w h => hts w (List.mem_cons_of_mem _ h)
  have hK := hKK.1
  unfold B_Mo_placeOf_124 at h
  refine lv_iload hx hb d_Mo_placeOf_124 (lv_at hl 4 rfl) ?_
  refine lv_if_eq (tgt := 131) hx hb d_Mo_placeOf_126 (by decide) (fun hc => ?_) (fun hc => ?_)
  · have h := it_t h hc
    exact t_Mo_placeOf_131 X hk2 hk24 (lv_sub hl [0, 1, 2, 3] rfl) hI hS h
  · have h := it_f h hc
    exact t_Mo_placeOf_129 X (lv_sub hl [2] rfl) hI hS h
set_option maxRecDepth 100000 in
set_option maxHeartbeats 4000000 in
theorem t_Mo_placeOf_116 {p : Program} {l : Launch} {e : Env} {s : State} {m : MethodId} {args : Array Value} {below : List Frame} {meth : Method} {c : Code} {D : va_G} {A : Nat → Prop} {g : Nat → ClassId} {rest : va_W} {a0 : Nat → Nat} {ls : Array Slot} {H : Heap} {locs : List Loc} {k2 : S_Mo × Int32 × Int32 → Option (Int32 × S_Mo)} {k24 : S_Mo × Int32 × Int32 × Int32 → Option (Int32 × S_Mo)} {k64 : S_Mo × Int32 × Int32 × Int32 × Int32 × Int32 → Option (Int32 × S_Mo)} {s0 : S_Mo} {x1 : Int32} {x2 : Int32} {x3 : Int32} {x5 : Int32} {y0 : Int32} {out : Int32 × S_Mo} (X : Cx p s m args meth c prog_11_method_47_code 6 ws_Mo_placeOf R_Mo (some .int) D g) (hk2 : ∀ (v : S_Mo × Int32 × Int32) (ls : Array Slot) (H : Heap) (locs : List Loc), lv_has ls 6 [(0, .ref (a0 0)), (1, .int v.2.1), (2, .int v.2.2)] → Iw D A (w_Mo g a0 v.1 ++ (rest)) H → va_S A s.heap H locs → k2 v = some out → W p l e (headSpec ws_Mo_placeOf { frames := 6, cells := 0, slots := 0, locals := 150 }).room s m args below meth c H locs 0 0 (MQ below (QcI D A g out.1 (fun (_ : Unit) => w_Mo g a0 out.2 ++ (rest))) args s 0 0 A) (F0 m 2 ls [])) (hk24 : ∀ (v : S_Mo × Int32 × Int32 × Int32) (ls : Array Slot) (H : Heap) (locs : List Loc), lv_has ls 6 [(0, .ref (a0 0)), (1, .int v.2.1), (2, .int v.2.2.1), (3, .int v.2.2.2)] → Iw D A (w_Mo g a0 v.1 ++ (rest)) H → va_S A s.heap H locs → k24 v = some out → W p l e (headSpec ws_Mo_placeOf { frames := 6, cells := 0, slots := 0, locals := 150 }).room s m args below meth c H locs 0 0 (MQ below (QcI D A g out.1 (fun (_ : Unit) => w_Mo g a0 out.2 ++ (rest))) args s 0 0 A) (F0 m 24 ls [])) (hk64 : ∀ (v : S_Mo × Int32 × Int32 × Int32 × Int32 × Int32) (ls : Array Slot) (H : Heap) (locs : List Loc), lv_has ls 6 [(0, .ref (a0 0)), (1, .int v.2.1), (2, .int v.2.2.1), (3, .int v.2.2.2.1), (4, .int v.2.2.2.2.1), (5, .int v.2.2.2.2.2)] → Iw D A (w_Mo g a0 v.1 ++ (rest)) H → va_S A s.heap H locs → k64 v = some out → W p l e (headSpec ws_Mo_placeOf { frames := 6, cells := 0, slots := 0, locals := 150 }).room s m args below meth c H locs 0 0 (MQ below (QcI D A g out.1 (fun (_ : Unit) => w_Mo g a0 out.2 ++ (rest))) args s 0 0 A) (F0 m 64 ls [])) (hl : lv_has ls 6 [(0, .ref (a0 0)), (1, .int x1), (2, .int x2), (3, .int x3), (5, .int x5)]) (hI : Iw D A (w_Mo g a0 s0 ++ (rest)) H) (hS : va_S A s.heap H locs) (h : B_Mo_placeOf_116 k2 k24 k64 s0 x1 x2 x3 x5 y0 = some out) : W p l e (headSpec ws_Mo_placeOf { frames := 6, cells := 0, slots := 0, locals := 150 }).room s m args below meth c H locs 0 0 (MQ below (QcI D A g out.1 (fun (_ : Unit) => w_Mo g a0 out.2 ++ (rest))) args s 0 0 A) (F0 m 116 ls [.int y0]) := by
  have X1 := X
  obtain ⟨hx, hb, hml, hown, hts, hr, hlocks, hKK⟩ := X1
  have ht : ∀ w ∈ TB, w.before args s = true := fun w h => hts w (List.mem_cons_of_mem _ h)
  have hK := hKK.1
  unfold B_Mo_placeOf_116 at h
  refine lv_istore hx hb d_Mo_placeOf_116 hl (Nat.le_of_ble_eq_true rfl) rfl (fun ls hl => ?_)
  have hl : lv_has ls 6 [(4, .int y0), (0, .ref (a0 0)), (1, .int x1), (2, .int x2), (3, .int x3), (5, .int x5)] := hl
  refine lv_iinc (k := 5) (v := (x5 + 1)) hx hb d_Mo_placeOf_118 hl rfl (congrArg (fun z => x5 + z) (by decide)) (Nat.le_of_ble_eq_true rfl) rfl (fun ls hl => ?_)
  have hl : lv_has ls 6 [(5, .int (x5 + 1)), (4, .int y0), (0, .ref (a0 0)), (1, .int x1), (2, .int x2), (3, .int x3)] := hl
  refine lv_goto (tgt := 64) hx hb d_Mo_placeOf_121 (by decide) ?_
  exact hk64 (s0, x1, x2, x3, y0, (x5 + 1)) _ _ _ (lv_sub hl [2, 3, 4, 5, 1, 0] rfl) hI hS h
set_option maxRecDepth 100000 in
set_option maxHeartbeats 4000000 in
theorem t_Mo_placeOf_115 {p : Program} {l : Launch} {e : Env} {s : State} {m : MethodId} {args : Array Value} {below : List Frame} {meth : Method} {c : Code} {D : va_G} {A : Nat → Prop} {g : Nat → ClassId} {rest : va_W} {a0 : Nat → Nat} {ls : Array Slot} {H : Heap} {locs : List Loc} {k2 : S_Mo × Int32 × Int32 → Option (Int32 × S_Mo)} {k24 : S_Mo × Int32 × Int32 × Int32 → Option (Int32 × S_Mo)} {k64 : S_Mo × Int32 × Int32 × Int32 × Int32 × Int32 → Option (Int32 × S_Mo)} {s0 : S_Mo} {x1 : Int32} {x2 : Int32} {x3 : Int32} {x5 : Int32} {out : Int32 × S_Mo} (X : Cx p s m args meth c prog_11_method_47_code 6 ws_Mo_placeOf R_Mo (some .int) D g) (hk2 : ∀ (v : S_Mo × Int32 × Int32) (ls : Array Slot) (H : Heap) (locs : List Loc), lv_has ls 6 [(0, .ref (a0 0)), (1, .int v.2.1), (2, .int v.2.2)] → Iw D A (w_Mo g a0 v.1 ++ (rest)) H → va_S A s.heap H locs → k2 v = some out → W p l e (headSpec ws_Mo_placeOf { frames := 6, cells := 0, slots := 0, locals := 150 }).room s m args below meth c H locs 0 0 (MQ below (QcI D A g out.1 (fun (_ : Unit) => w_Mo g a0 out.2 ++ (rest))) args s 0 0 A) (F0 m 2 ls [])) (hk24 : ∀ (v : S_Mo × Int32 × Int32 × Int32) (ls : Array Slot) (H : Heap) (locs : List Loc), lv_has ls 6 [(0, .ref (a0 0)), (1, .int v.2.1), (2, .int v.2.2.1), (3, .int v.2.2.2)] → Iw D A (w_Mo g a0 v.1 ++ (rest)) H → va_S A s.heap H locs → k24 v = some out → W p l e (headSpec ws_Mo_placeOf { frames := 6, cells := 0, slots := 0, locals := 150 }).room s m args below meth c H locs 0 0 (MQ below (QcI D A g out.1 (fun (_ : Unit) => w_Mo g a0 out.2 ++ (rest))) args s 0 0 A) (F0 m 24 ls [])) (hk64 : ∀ (v : S_Mo × Int32 × Int32 × Int32 × Int32 × Int32) (ls : Array Slot) (H : Heap) (locs : List Loc), lv_has ls 6 [(0, .ref (a0 0)), (1, .int v.2.1), (2, .int v.2.2.1), (3, .int v.2.2.2.1), (4, .int v.2.2.2.2.1), (5, .int v.2.2.2.2.2)] → Iw D A (w_Mo g a0 v.1 ++ (rest)) H → va_S A s.heap H locs → k64 v = some out → W p l e (headSpec ws_Mo_placeOf { frames := 6, cells := 0, slots := 0, locals := 150 }).room s m args below meth c H locs 0 0 (MQ below (QcI D A g out.1 (fun (_ : Unit) => w_Mo g a0 out.2 ++ (rest))) args s 0 0 A) (F0 m 64 ls [])) (hl : lv_has ls 6 [(0, .ref (a0 0)), (1, .int x1), (2, .int x2), (3, .int x3), (5, .int x5)]) (hI : Iw D A (w_Mo g a0 s0 ++ (rest)) H) (hS : va_S A s.heap H locs) (h : B_Mo_placeOf_115 k2 k24 k64 s0 x1 x2 x3 x5 = some out) : W p l e (headSpec ws_Mo_placeOf { frames := 6, cells := 0, slots := 0, locals := 150 }).room s m args below meth c H locs 0 0 (MQ below (QcI D A g out.1 (fun (_ : Unit) => w_Mo g a0 out.2 ++ (rest))) args s 0 0 A) (F0 m 115 ls []) := by
  have X1 := X
  obtain ⟨hx, hb, hml, hown, hts, hr, hlocks, hKK⟩ := X1
  have ht : ∀ w ∈ TB, w.before args s = true := fun w h => hts w (List.mem_cons_of_mem _ h)
  have hK := hKK.1
  unfold B_Mo_placeOf_115 at h
  refine lv_iconst (v := 0) hx hb d_Mo_placeOf_115 (by decide) ?_
  exact t_Mo_placeOf_116 X hk2 hk24 hk64 (lv_sub hl [0, 1, 2, 3, 4] rfl) hI hS h
set_option maxRecDepth 100000 in
set_option maxHeartbeats 4000000 in
theorem t_Mo_placeOf_111 {p : Program} {l : Launch} {e : Env} {s : State} {m : MethodId} {args : Array Value} {below : List Frame} {meth : Method} {c : Code} {D : va_G} {A : Nat → Prop} {g : Nat → ClassId} {rest : va_W} {a0 : Nat → Nat} {ls : Array Slot} {H : Heap} {locs : List Loc} {k2 : S_Mo × Int32 × Int32 → Option (Int32 × S_Mo)} {k24 : S_Mo × Int32 × Int32 × Int32 → Option (Int32 × S_Mo)} {k64 : S_Mo × Int32 × Int32 × Int32 × Int32 × Int32 → Option (Int32 × S_Mo)} {s0 : S_Mo} {x1 : Int32} {x2 : Int32} {x3 : Int32} {x5 : Int32} {out : Int32 × S_Mo} (X : Cx p s m args meth c prog_11_method_47_code 6 ws_Mo_placeOf R_Mo (some .int) D g) (hk2 : ∀ (v : S_Mo × Int32 × Int32) (ls : Array Slot) (H : Heap) (locs : List Loc), lv_has ls 6 [(0, .ref (a0 0)), (1, .int v.2.1), (2, .int v.2.2)] → Iw D A (w_Mo g a0 v.1 ++ (rest)) H → va_S A s.heap H locs → k2 v = some out → W p l e (headSpec ws_Mo_placeOf { frames := 6, cells := 0, slots := 0, locals := 150 }).room s m args below meth c H locs 0 0 (MQ below (QcI D A g out.1 (fun (_ : Unit) => w_Mo g a0 out.2 ++ (rest))) args s 0 0 A) (F0 m 2 ls [])) (hk24 : ∀ (v : S_Mo × Int32 × Int32 × Int32) (ls : Array Slot) (H : Heap) (locs : List Loc), lv_has ls 6 [(0, .ref (a0 0)), (1, .int v.2.1), (2, .int v.2.2.1), (3, .int v.2.2.2)] → Iw D A (w_Mo g a0 v.1 ++ (rest)) H → va_S A s.heap H locs → k24 v = some out → W p l e (headSpec ws_Mo_placeOf { frames := 6, cells := 0, slots := 0, locals := 150 }).room s m args below meth c H locs 0 0 (MQ below (QcI D A g out.1 (fun (_ : Unit) => w_Mo g a0 out.2 ++ (rest))) args s 0 0 A) (F0 m 24 ls [])) (hk64 : ∀ (v : S_Mo × Int32 × Int32 × Int32 × Int32 × Int32) (ls : Array Slot) (H : Heap) (locs : List Loc), lv_has ls 6 [(0, .ref (a0 0)), (1, .int v.2.1), (2, .int v.2.2.1), (3, .int v.2.2.2.1), (4, .int v.2.2.2.2.1), (5, .int v.2.2.2.2.2)] → Iw D A (w_Mo g a0 v.1 ++ (rest)) H → va_S A s.heap H locs → k64 v = some out → W p l e (headSpec ws_Mo_placeOf { frames := 6, cells := 0, slots := 0, locals := 150 }).room s m args below meth c H locs 0 0 (MQ below (QcI D A g out.1 (fun (_ : Unit) => w_Mo g a0 out.2 ++ (rest))) args s 0 0 A) (F0 m 64 ls [])) (hl : lv_has ls 6 [(0, .ref (a0 0)), (1, .int x1), (2, .int x2), (3, .int x3), (5, .int x5)]) (hI : Iw D A (w_Mo g a0 s0 ++ (rest)) H) (hS : va_S A s.heap H locs) (h : B_Mo_placeOf_111 k2 k24 k64 s0 x1 x2 x3 x5 = some out) : W p l e (headSpec ws_Mo_placeOf { frames := 6, cells := 0, slots := 0, locals := 150 }).room s m args below meth c H locs 0 0 (MQ below (QcI D A g out.1 (fun (_ : Unit) => w_Mo g a0 out.2 ++ (rest))) args s 0 0 A) (F0 m 111 ls []) := by
  have X1 := X
  obtain ⟨hx, hb, hml, hown, hts, hr, hlocks, hKK⟩ := X1
  have ht : ∀ w ∈ TB, w.before args s = true := fun w h => hts w (List.mem_cons_of_mem _ h)
  have hK := hKK.1
  unfold B_Mo_placeOf_111 at h
  refine lv_iconst (v := 1) hx hb d_Mo_placeOf_111 (by decide) ?_
  refine lv_goto (tgt := 116) hx hb d_Mo_placeOf_112 (by decide) ?_
  exact t_Mo_placeOf_116 X hk2 hk24 hk64 (lv_sub hl [0, 1, 2, 3, 4] rfl) hI hS h
set_option maxRecDepth 100000 in
set_option maxHeartbeats 4000000 in
theorem t_Mo_placeOf_80 {p : Program} {l : Launch} {e : Env} {s : State} {m : MethodId} {args : Array Value} {below : List Frame} {meth : Method} {c : Code} {D : va_G} {A : Nat → Prop} {g : Nat → ClassId} {rest : va_W} {a0 : Nat → Nat} {ls : Array Slot} {H : Heap} {locs : List Loc} {k2 : S_Mo × Int32 × Int32 → Option (Int32 × S_Mo)} {k24 : S_Mo × Int32 × Int32 × Int32 → Option (Int32 × S_Mo)} {k64 : S_Mo × Int32 × Int32 × Int32 × Int32 × Int32 → Option (Int32 × S_Mo)} {s0 : S_Mo} {x1 : Int32} {x2 : Int32} {x3 : Int32} {x5 : Int32} {out : Int32 × S_Mo} (X : Cx p s m args meth c prog_11_method_47_code 6 ws_Mo_placeOf R_Mo (some .int) D g) (hk2 : ∀ (v : S_Mo × Int32 × Int32) (ls : Array Slot) (H : Heap) (locs : List Loc), lv_has ls 6 [(0, .ref (a0 0)), (1, .int v.2.1), (2, .int v.2.2)] → Iw D A (w_Mo g a0 v.1 ++ (rest)) H → va_S A s.heap H locs → k2 v = some out → W p l e (headSpec ws_Mo_placeOf { frames := 6, cells := 0, slots := 0, locals := 150 }).room s m args below meth c H locs 0 0 (MQ below (QcI D A g out.1 (fun (_ : Unit) => w_Mo g a0 out.2 ++ (rest))) args s 0 0 A) (F0 m 2 ls [])) (hk24 : ∀ (v : S_Mo × Int32 × Int32 × Int32) (ls : Array Slot) (H : Heap) (locs : List Loc), lv_has ls 6 [(0, .ref (a0 0)), (1, .int v.2.1), (2, .int v.2.2.1), (3, .int v.2.2.2)] → Iw D A (w_Mo g a0 v.1 ++ (rest)) H → va_S A s.heap H locs → k24 v = some out → W p l e (headSpec ws_Mo_placeOf { frames := 6, cells := 0, slots := 0, locals := 150 }).room s m args below meth c H locs 0 0 (MQ below (QcI D A g out.1 (fun (_ : Unit) => w_Mo g a0 out.2 ++ (rest))) args s 0 0 A) (F0 m 24 ls [])) (hk64 : ∀ (v : S_Mo × Int32 × Int32 × Int32 × Int32 × Int32) (ls : Array Slot) (H : Heap) (locs : List Loc), lv_has ls 6 [(0, .ref (a0 0)), (1, .int v.2.1), (2, .int v.2.2.1), (3, .int v.2.2.2.1), (4, .int v.2.2.2.2.1), (5, .int v.2.2.2.2.2)] → Iw D A (w_Mo g a0 v.1 ++ (rest)) H → va_S A s.heap H locs → k64 v = some out → W p l e (headSpec ws_Mo_placeOf { frames := 6, cells := 0, slots := 0, locals := 150 }).room s m args below meth c H locs 0 0 (MQ below (QcI D A g out.1 (fun (_ : Unit) => w_Mo g a0 out.2 ++ (rest))) args s 0 0 A) (F0 m 64 ls [])) (hl : lv_has ls 6 [(0, .ref (a0 0)), (1, .int x1), (2, .int x2), (3, .int x3), (5, .int x5)]) (hI : Iw D A (w_Mo g a0 s0 ++ (rest)) H) (hS : va_S A s.heap H locs) (h : B_Mo_placeOf_80 k2 k24 k64 s0 x1 x2 x3 x5 = some out) : W p l e (headSpec ws_Mo_placeOf { frames := 6, cells := 0, slots := 0, locals := 150 }).room s m args below meth c H locs 0 0 (MQ below (QcI D A g out.1 (fun (_ : Unit) => w_Mo g a0 out.2 ++ (rest))) args s 0 0 A) (F0 m 80 ls []) := by
  have X1 := X
  obtain ⟨hx, hb, hml, hown, hts, hr, hlocks, hKK⟩ := X1
  have ht : ∀ w ∈ TB, w.before args s = true := fun w h => hts w (List.mem_cons_of_mem _ h)
  have hK := hKK.1
  unfold B_Mo_placeOf_80 at h
  refine lv_aload_n hx hb d_Mo_placeOf_80 rfl (lv_at hl 0 rfl) ?_
  refine gt_Mo_chars hx hb ht hown hK hI (ht _ m_834) d_Mo_placeOf_81 ?_
  refine lv_aload_n hx hb d_Mo_placeOf_84 rfl (lv_at hl 0 rfl) ?_
  refine gt_Mo_letters hx hb ht hown hK hI (ht _ m_826) d_Mo_placeOf_85 ?_
  refine lv_iload_n hx hb d_Mo_placeOf_88 rfl (lv_at hl 3 rfl) ?_
  by_cases hc1 : (x3 < 0 ∨ 260 ≤ x3.toNatClampNeg)
  · exact no_s (it_t h hc1)
  have h := it_f h hc1
  refine al_Mo_letters hx hb hK hI hc1 d_Mo_placeOf_89 ?_
  refine lv_iload hx hb d_Mo_placeOf_90 (lv_at hl 4 rfl) ?_
  refine lv_iadd hx hb d_Mo_placeOf_92 ?_
  by_cases hc2 : ((((Mo_letters s0) x3.toNatClampNeg) + x5) < 0 ∨ 480 ≤ (((Mo_letters s0) x3.toNatClampNeg) + x5).toNatClampNeg)
  · exact no_s (it_t h hc2)
  have h := it_f h hc2
  refine al_Mo_chars hx hb hK hI hc2 d_Mo_placeOf_93 ?_
  refine lv_aload_n hx hb d_Mo_placeOf_94 rfl (lv_at hl 0 rfl) ?_
  refine gt_Mo_chars hx hb ht hown hK hI (ht _ m_834) d_Mo_placeOf_95 ?_
  refine lv_aload_n hx hb d_Mo_placeOf_98 rfl (lv_at hl 0 rfl) ?_
  refine gt_Mo_letters hx hb ht hown hK hI (ht _ m_826) d_Mo_placeOf_99 ?_
  refine lv_iload_n hx hb d_Mo_placeOf_102 rfl (lv_at hl 1 rfl) ?_
  by_cases hc3 : (x1 < 0 ∨ 260 ≤ x1.toNatClampNeg)
  · exact no_s (it_t h hc3)
  have h := it_f h hc3
  refine al_Mo_letters hx hb hK hI hc3 d_Mo_placeOf_103 ?_
  refine lv_iload hx hb d_Mo_placeOf_104 (lv_at hl 4 rfl) ?_
  refine lv_iadd hx hb d_Mo_placeOf_106 ?_
  by_cases hc4 : ((((Mo_letters s0) x1.toNatClampNeg) + x5) < 0 ∨ 480 ≤ (((Mo_letters s0) x1.toNatClampNeg) + x5).toNatClampNeg)
  · exact no_s (it_t h hc4)
  have h := it_f h hc4
  refine al_Mo_chars hx hb hK hI hc4 d_Mo_placeOf_107 ?_
  refine lv_icmp_ne (tgt := 115) hx hb d_Mo_placeOf_108 (by decide) (fun hc => ?_) (fun hc => ?_)
  · have h := it_f h hc
    exact t_Mo_placeOf_115 X hk2 hk24 hk64 (lv_sub hl [0, 1, 2, 3, 4] rfl) hI hS h
  · have h := it_t h hc
    exact t_Mo_placeOf_111 X hk2 hk24 hk64 (lv_sub hl [0, 1, 2, 3, 4] rfl) hI hS h
set_option maxRecDepth 100000 in
set_option maxHeartbeats 4000000 in
theorem t_Mo_placeOf_75 {p : Program} {l : Launch} {e : Env} {s : State} {m : MethodId} {args : Array Value} {below : List Frame} {meth : Method} {c : Code} {D : va_G} {A : Nat → Prop} {g : Nat → ClassId} {rest : va_W} {a0 : Nat → Nat} {ls : Array Slot} {H : Heap} {locs : List Loc} {k2 : S_Mo × Int32 × Int32 → Option (Int32 × S_Mo)} {k24 : S_Mo × Int32 × Int32 × Int32 → Option (Int32 × S_Mo)} {k64 : S_Mo × Int32 × Int32 × Int32 × Int32 × Int32 → Option (Int32 × S_Mo)} {s0 : S_Mo} {x1 : Int32} {x2 : Int32} {x3 : Int32} {x4 : Int32} {x5 : Int32} {out : Int32 × S_Mo} (X : Cx p s m args meth c prog_11_method_47_code 6 ws_Mo_placeOf R_Mo (some .int) D g) (hk2 : ∀ (v : S_Mo × Int32 × Int32) (ls : Array Slot) (H : Heap) (locs : List Loc), lv_has ls 6 [(0, .ref (a0 0)), (1, .int v.2.1), (2, .int v.2.2)] → Iw D A (w_Mo g a0 v.1 ++ (rest)) H → va_S A s.heap H locs → k2 v = some out → W p l e (headSpec ws_Mo_placeOf { frames := 6, cells := 0, slots := 0, locals := 150 }).room s m args below meth c H locs 0 0 (MQ below (QcI D A g out.1 (fun (_ : Unit) => w_Mo g a0 out.2 ++ (rest))) args s 0 0 A) (F0 m 2 ls [])) (hk24 : ∀ (v : S_Mo × Int32 × Int32 × Int32) (ls : Array Slot) (H : Heap) (locs : List Loc), lv_has ls 6 [(0, .ref (a0 0)), (1, .int v.2.1), (2, .int v.2.2.1), (3, .int v.2.2.2)] → Iw D A (w_Mo g a0 v.1 ++ (rest)) H → va_S A s.heap H locs → k24 v = some out → W p l e (headSpec ws_Mo_placeOf { frames := 6, cells := 0, slots := 0, locals := 150 }).room s m args below meth c H locs 0 0 (MQ below (QcI D A g out.1 (fun (_ : Unit) => w_Mo g a0 out.2 ++ (rest))) args s 0 0 A) (F0 m 24 ls [])) (hk64 : ∀ (v : S_Mo × Int32 × Int32 × Int32 × Int32 × Int32) (ls : Array Slot) (H : Heap) (locs : List Loc), lv_has ls 6 [(0, .ref (a0 0)), (1, .int v.2.1), (2, .int v.2.2.1), (3, .int v.2.2.2.1), (4, .int v.2.2.2.2.1), (5, .int v.2.2.2.2.2)] → Iw D A (w_Mo g a0 v.1 ++ (rest)) H → va_S A s.heap H locs → k64 v = some out → W p l e (headSpec ws_Mo_placeOf { frames := 6, cells := 0, slots := 0, locals := 150 }).room s m args below meth c H locs 0 0 (MQ below (QcI D A g out.1 (fun (_ : Unit) => w_Mo g a0 out.2 ++ (rest))) args s 0 0 A) (F0 m 64 ls [])) (hl : lv_has ls 6 [(0, .ref (a0 0)), (1, .int x1), (2, .int x2), (3, .int x3), (4, .int x4), (5, .int x5)]) (hI : Iw D A (w_Mo g a0 s0 ++ (rest)) H) (hS : va_S A s.heap H locs) (h : B_Mo_placeOf_75 k2 k24 k64 s0 x1 x2 x3 x4 x5 = some out) : W p l e (headSpec ws_Mo_placeOf { frames := 6, cells := 0, slots := 0, locals := 150 }).room s m args below meth c H locs 0 0 (MQ below (QcI D A g out.1 (fun (_ : Unit) => w_Mo g a0 out.2 ++ (rest))) args s 0 0 A) (F0 m 75 ls []) := by
  have X1 := X
  obtain ⟨hx, hb, hml, hown, hts, hr, hlocks, hKK⟩ := X1
  have ht : ∀ w ∈ TB, w.before args s = true := fun w h => hts w (List.mem_cons_of_mem _ h)
  have hK := hKK.1
  unfold B_Mo_placeOf_75 at h
  refine lv_iload hx hb d_Mo_placeOf_75 (lv_at hl 4 rfl) ?_
  refine lv_if_eq (tgt := 124) hx hb d_Mo_placeOf_77 (by decide) (fun hc => ?_) (fun hc => ?_)
  · have h := it_t h hc
    exact t_Mo_placeOf_124 X hk2 hk24 (lv_sub hl [0, 1, 2, 3, 4] rfl) hI hS h
  · have h := it_f h hc
    exact t_Mo_placeOf_80 X hk2 hk24 hk64 (lv_sub hl [0, 1, 2, 3, 5] rfl) hI hS h
set_option maxRecDepth 100000 in
set_option maxHeartbeats 4000000 in
theorem t_Mo_placeOf_64 {p : Program} {l : Launch} {e : Env} {s : State} {m : MethodId} {args : Array Value} {below : List Frame} {meth : Method} {c : Code} {D : va_G} {A : Nat → Prop} {g : Nat → ClassId} {rest : va_W} {a0 : Nat → Nat} {ls : Array Slot} {H : Heap} {locs : List Loc} {k2 : S_Mo × Int32 × Int32 → Option (Int32 × S_Mo)} {k24 : S_Mo × Int32 × Int32 × Int32 → Option (Int32 × S_Mo)} {k64 : S_Mo × Int32 × Int32 × Int32 × Int32 × Int32 → Option (Int32 × S_Mo)} {s0 : S_Mo} {x1 : Int32} {x2 : Int32} {x3 : Int32} {x4 : Int32} {x5 : Int32} {out : Int32 × S_Mo} (X : Cx p s m args meth c prog_11_method_47_code 6 ws_Mo_placeOf R_Mo (some .int) D g) (hk2 : ∀ (v : S_Mo × Int32 × Int32) (ls : Array Slot) (H : Heap) (locs : List Loc), lv_has ls 6 [(0, .ref (a0 0)), (1, .int v.2.1), (2, .int v.2.2)] → Iw D A (w_Mo g a0 v.1 ++ (rest)) H → va_S A s.heap H locs → k2 v = some out → W p l e (headSpec ws_Mo_placeOf { frames := 6, cells := 0, slots := 0, locals := 150 }).room s m args below meth c H locs 0 0 (MQ below (QcI D A g out.1 (fun (_ : Unit) => w_Mo g a0 out.2 ++ (rest))) args s 0 0 A) (F0 m 2 ls [])) (hk24 : ∀ (v : S_Mo × Int32 × Int32 × Int32) (ls : Array Slot) (H : Heap) (locs : List Loc), lv_has ls 6 [(0, .ref (a0 0)), (1, .int v.2.1), (2, .int v.2.2.1), (3, .int v.2.2.2)] → Iw D A (w_Mo g a0 v.1 ++ (rest)) H → va_S A s.heap H locs → k24 v = some out → W p l e (headSpec ws_Mo_placeOf { frames := 6, cells := 0, slots := 0, locals := 150 }).room s m args below meth c H locs 0 0 (MQ below (QcI D A g out.1 (fun (_ : Unit) => w_Mo g a0 out.2 ++ (rest))) args s 0 0 A) (F0 m 24 ls [])) (hk64 : ∀ (v : S_Mo × Int32 × Int32 × Int32 × Int32 × Int32) (ls : Array Slot) (H : Heap) (locs : List Loc), lv_has ls 6 [(0, .ref (a0 0)), (1, .int v.2.1), (2, .int v.2.2.1), (3, .int v.2.2.2.1), (4, .int v.2.2.2.2.1), (5, .int v.2.2.2.2.2)] → Iw D A (w_Mo g a0 v.1 ++ (rest)) H → va_S A s.heap H locs → k64 v = some out → W p l e (headSpec ws_Mo_placeOf { frames := 6, cells := 0, slots := 0, locals := 150 }).room s m args below meth c H locs 0 0 (MQ below (QcI D A g out.1 (fun (_ : Unit) => w_Mo g a0 out.2 ++ (rest))) args s 0 0 A) (F0 m 64 ls [])) (hl : lv_has ls 6 [(0, .ref (a0 0)), (1, .int x1), (2, .int x2), (3, .int x3), (4, .int x4), (5, .int x5)]) (hI : Iw D A (w_Mo g a0 s0 ++ (rest)) H) (hS : va_S A s.heap H locs) (h : B_Mo_placeOf_64 k2 k24 k64 s0 x1 x2 x3 x4 x5 = some out) : W p l e (headSpec ws_Mo_placeOf { frames := 6, cells := 0, slots := 0, locals := 150 }).room s m args below meth c H locs 0 0 (MQ below (QcI D A g out.1 (fun (_ : Unit) => w_Mo g a0 out.2 ++ (rest))) args s 0 0 A) (F0 m 64 ls []) := by
  have X1 := X
  obtain ⟨hx, hb, hml, hown, hts, hr, hlocks, hKK⟩ := X1
  have ht : ∀ w ∈ TB, w.before args s = true := fun w h => hts w (List.mem_cons_of_mem _ h)
  have hK := hKK.1
  unfold B_Mo_placeOf_64 at h
  refine lv_iload hx hb d_Mo_placeOf_64 (lv_at hl 5 rfl) ?_
  refine lv_aload_n hx hb d_Mo_placeOf_66 rfl (lv_at hl 0 rfl) ?_
  refine gt_Mo_value hx hb ht hown hK hI (ht _ m_825) d_Mo_placeOf_67 ?_
  refine lv_iload_n hx hb d_Mo_placeOf_70 rfl (lv_at hl 1 rfl) ?_
  by_cases hc1 : (x1 < 0 ∨ 260 ≤ x1.toNatClampNeg)
  · exact no_s (it_t h hc1)
  have h := it_f h hc1
  refine al_Mo_value hx hb hK hI hc1 d_Mo_placeOf_71 ?_
  refine lv_icmp_ge (tgt := 124) hx hb d_Mo_placeOf_72 (by decide) (fun hc => ?_) (fun hc => ?_)
  · have h := it_t h hc
    exact t_Mo_placeOf_124 X hk2 hk24 (lv_sub hl [0, 1, 2, 3, 4] rfl) hI hS h
  · have h := it_f h hc
    exact t_Mo_placeOf_75 X hk2 hk24 hk64 (lv_sub hl [0, 1, 2, 3, 4, 5] rfl) hI hS h
set_option maxRecDepth 100000 in
set_option maxHeartbeats 4000000 in
theorem T_Mo_placeOf_64 {p : Program} {l : Launch} {e : Env} {s : State} {m : MethodId} {args : Array Value} {below : List Frame} {meth : Method} {c : Code} {D : va_G} {A : Nat → Prop} {g : Nat → ClassId} {rest : va_W} {a0 : Nat → Nat} {ls : Array Slot} {H : Heap} {locs : List Loc} {k2 : S_Mo × Int32 × Int32 → Option (Int32 × S_Mo)} {k24 : S_Mo × Int32 × Int32 × Int32 → Option (Int32 × S_Mo)} {s0 : S_Mo} {x1 : Int32} {x2 : Int32} {x3 : Int32} {x4 : Int32} {x5 : Int32} {out : Int32 × S_Mo} (X : Cx p s m args meth c prog_11_method_47_code 6 ws_Mo_placeOf R_Mo (some .int) D g) (hk2 : ∀ (v : S_Mo × Int32 × Int32) (ls : Array Slot) (H : Heap) (locs : List Loc), lv_has ls 6 [(0, .ref (a0 0)), (1, .int v.2.1), (2, .int v.2.2)] → Iw D A (w_Mo g a0 v.1 ++ (rest)) H → va_S A s.heap H locs → k2 v = some out → W p l e (headSpec ws_Mo_placeOf { frames := 6, cells := 0, slots := 0, locals := 150 }).room s m args below meth c H locs 0 0 (MQ below (QcI D A g out.1 (fun (_ : Unit) => w_Mo g a0 out.2 ++ (rest))) args s 0 0 A) (F0 m 2 ls [])) (hk24 : ∀ (v : S_Mo × Int32 × Int32 × Int32) (ls : Array Slot) (H : Heap) (locs : List Loc), lv_has ls 6 [(0, .ref (a0 0)), (1, .int v.2.1), (2, .int v.2.2.1), (3, .int v.2.2.2)] → Iw D A (w_Mo g a0 v.1 ++ (rest)) H → va_S A s.heap H locs → k24 v = some out → W p l e (headSpec ws_Mo_placeOf { frames := 6, cells := 0, slots := 0, locals := 150 }).room s m args below meth c H locs 0 0 (MQ below (QcI D A g out.1 (fun (_ : Unit) => w_Mo g a0 out.2 ++ (rest))) args s 0 0 A) (F0 m 24 ls [])) (hl : lv_has ls 6 [(0, .ref (a0 0)), (1, .int x1), (2, .int x2), (3, .int x3), (4, .int x4), (5, .int x5)]) (hI : Iw D A (w_Mo g a0 s0 ++ (rest)) H) (hS : va_S A s.heap H locs) (h : L_Mo_placeOf_64 k2 k24  (s0, x1, x2, x3, x4, x5) = some out) : W p l e (headSpec ws_Mo_placeOf { frames := 6, cells := 0, slots := 0, locals := 150 }).room s m args below meth c H locs 0 0 (MQ below (QcI D A g out.1 (fun (_ : Unit) => w_Mo g a0 out.2 ++ (rest))) args s 0 0 A) (F0 m 64 ls []) := by
  unfold L_Mo_placeOf_64 at h
  exact lp_ind (P := fun v => ∀ (ls : Array Slot) (H : Heap) (locs : List Loc), lv_has ls 6 [(0, .ref (a0 0)), (1, .int v.2.1), (2, .int v.2.2.1), (3, .int v.2.2.2.1), (4, .int v.2.2.2.2.1), (5, .int v.2.2.2.2.2)] → Iw D A (w_Mo g a0 v.1 ++ (rest)) H → va_S A s.heap H locs → W p l e (headSpec ws_Mo_placeOf { frames := 6, cells := 0, slots := 0, locals := 150 }).room s m args below meth c H locs 0 0 (MQ below (QcI D A g out.1 (fun (_ : Unit) => w_Mo g a0 out.2 ++ (rest))) args s 0 0 A) (F0 m 64 ls [])) (fun k v ih hb ls H locs  hl hI hS => t_Mo_placeOf_64 X hk2 hk24 (fun v' ls H locs  hl hI hS h' => ih v' h' ls H locs  hl hI hS) hl hI hS hb) FU _ h ls H locs  hl hI hS
set_option maxRecDepth 100000 in
set_option maxHeartbeats 4000000 in
theorem t_Mo_placeOf_59 {p : Program} {l : Launch} {e : Env} {s : State} {m : MethodId} {args : Array Value} {below : List Frame} {meth : Method} {c : Code} {D : va_G} {A : Nat → Prop} {g : Nat → ClassId} {rest : va_W} {a0 : Nat → Nat} {ls : Array Slot} {H : Heap} {locs : List Loc} {k2 : S_Mo × Int32 × Int32 → Option (Int32 × S_Mo)} {k24 : S_Mo × Int32 × Int32 × Int32 → Option (Int32 × S_Mo)} {s0 : S_Mo} {x1 : Int32} {x2 : Int32} {x3 : Int32} {y0 : Int32} {out : Int32 × S_Mo} (X : Cx p s m args meth c prog_11_method_47_code 6 ws_Mo_placeOf R_Mo (some .int) D g) (hk2 : ∀ (v : S_Mo × Int32 × Int32) (ls : Array Slot) (H : Heap) (locs : List Loc), lv_has ls 6 [(0, .ref (a0 0)), (1, .int v.2.1), (2, .int v.2.2)] → Iw D A (w_Mo g a0 v.1 ++ (rest)) H → va_S A s.heap H locs → k2 v = some out → W p l e (headSpec ws_Mo_placeOf { frames := 6, cells := 0, slots := 0, locals := 150 }).room s m args below meth c H locs 0 0 (MQ below (QcI D A g out.1 (fun (_ : Unit) => w_Mo g a0 out.2 ++ (rest))) args s 0 0 A) (F0 m 2 ls [])) (hk24 : ∀ (v : S_Mo × Int32 × Int32 × Int32) (ls : Array Slot) (H : Heap) (locs : List Loc), lv_has ls 6 [(0, .ref (a0 0)), (1, .int v.2.1), (2, .int v.2.2.1), (3, .int v.2.2.2)] → Iw D A (w_Mo g a0 v.1 ++ (rest)) H → va_S A s.heap H locs → k24 v = some out → W p l e (headSpec ws_Mo_placeOf { frames := 6, cells := 0, slots := 0, locals := 150 }).room s m args below meth c H locs 0 0 (MQ below (QcI D A g out.1 (fun (_ : Unit) => w_Mo g a0 out.2 ++ (rest))) args s 0 0 A) (F0 m 24 ls [])) (hl : lv_has ls 6 [(0, .ref (a0 0)), (1, .int x1), (2, .int x2), (3, .int x3)]) (hI : Iw D A (w_Mo g a0 s0 ++ (rest)) H) (hS : va_S A s.heap H locs) (h : B_Mo_placeOf_59 k2 k24 s0 x1 x2 x3 y0 = some out) : W p l e (headSpec ws_Mo_placeOf { frames := 6, cells := 0, slots := 0, locals := 150 }).room s m args below meth c H locs 0 0 (MQ below (QcI D A g out.1 (fun (_ : Unit) => w_Mo g a0 out.2 ++ (rest))) args s 0 0 A) (F0 m 59 ls [.int y0]) := by
  have X1 := X
  obtain ⟨hx, hb, hml, hown, hts, hr, hlocks, hKK⟩ := X1
  have ht : ∀ w ∈ TB, w.before args s = true := fun w h => hts w (List.mem_cons_of_mem _ h)
  have hK := hKK.1
  unfold B_Mo_placeOf_59 at h
  refine lv_istore hx hb d_Mo_placeOf_59 hl (Nat.le_of_ble_eq_true rfl) rfl (fun ls hl => ?_)
  have hl : lv_has ls 6 [(4, .int y0), (0, .ref (a0 0)), (1, .int x1), (2, .int x2), (3, .int x3)] := hl
  refine lv_iconst (v := 0) hx hb d_Mo_placeOf_61 (by decide) ?_
  refine lv_istore hx hb d_Mo_placeOf_62 hl (Nat.le_of_ble_eq_true rfl) rfl (fun ls hl => ?_)
  have hl : lv_has ls 6 [(5, .int (0 : Int32)), (4, .int y0), (0, .ref (a0 0)), (1, .int x1), (2, .int x2), (3, .int x3)] := hl
  exact T_Mo_placeOf_64 X hk2 hk24 (lv_sub hl [2, 3, 4, 5, 1, 0] rfl) hI hS h
set_option maxRecDepth 100000 in
set_option maxHeartbeats 4000000 in
theorem t_Mo_placeOf_58 {p : Program} {l : Launch} {e : Env} {s : State} {m : MethodId} {args : Array Value} {below : List Frame} {meth : Method} {c : Code} {D : va_G} {A : Nat → Prop} {g : Nat → ClassId} {rest : va_W} {a0 : Nat → Nat} {ls : Array Slot} {H : Heap} {locs : List Loc} {k2 : S_Mo × Int32 × Int32 → Option (Int32 × S_Mo)} {k24 : S_Mo × Int32 × Int32 × Int32 → Option (Int32 × S_Mo)} {s0 : S_Mo} {x1 : Int32} {x2 : Int32} {x3 : Int32} {out : Int32 × S_Mo} (X : Cx p s m args meth c prog_11_method_47_code 6 ws_Mo_placeOf R_Mo (some .int) D g) (hk2 : ∀ (v : S_Mo × Int32 × Int32) (ls : Array Slot) (H : Heap) (locs : List Loc), lv_has ls 6 [(0, .ref (a0 0)), (1, .int v.2.1), (2, .int v.2.2)] → Iw D A (w_Mo g a0 v.1 ++ (rest)) H → va_S A s.heap H locs → k2 v = some out → W p l e (headSpec ws_Mo_placeOf { frames := 6, cells := 0, slots := 0, locals := 150 }).room s m args below meth c H locs 0 0 (MQ below (QcI D A g out.1 (fun (_ : Unit) => w_Mo g a0 out.2 ++ (rest))) args s 0 0 A) (F0 m 2 ls [])) (hk24 : ∀ (v : S_Mo × Int32 × Int32 × Int32) (ls : Array Slot) (H : Heap) (locs : List Loc), lv_has ls 6 [(0, .ref (a0 0)), (1, .int v.2.1), (2, .int v.2.2.1), (3, .int v.2.2.2)] → Iw D A (w_Mo g a0 v.1 ++ (rest)) H → va_S A s.heap H locs → k24 v = some out → W p l e (headSpec ws_Mo_placeOf { frames := 6, cells := 0, slots := 0, locals := 150 }).room s m args below meth c H locs 0 0 (MQ below (QcI D A g out.1 (fun (_ : Unit) => w_Mo g a0 out.2 ++ (rest))) args s 0 0 A) (F0 m 24 ls [])) (hl : lv_has ls 6 [(0, .ref (a0 0)), (1, .int x1), (2, .int x2), (3, .int x3)]) (hI : Iw D A (w_Mo g a0 s0 ++ (rest)) H) (hS : va_S A s.heap H locs) (h : B_Mo_placeOf_58 k2 k24 s0 x1 x2 x3 = some out) : W p l e (headSpec ws_Mo_placeOf { frames := 6, cells := 0, slots := 0, locals := 150 }).room s m args below meth c H locs 0 0 (MQ below (QcI D A g out.1 (fun (_ : Unit) => w_Mo g a0 out.2 ++ (rest))) args s 0 0 A) (F0 m 58 ls []) := by
  have X1 := X
  obtain ⟨hx, hb, hml, hown, hts, hr, hlocks, hKK⟩ := X1
  have ht : ∀ w ∈ TB, w.before args s = true := fun w h => hts w (List.mem_cons_of_mem _ h)
  have hK := hKK.1
  unfold B_Mo_placeOf_58 at h
  refine lv_iconst (v := 0) hx hb d_Mo_placeOf_58 (by decide) ?_
  exact t_Mo_placeOf_59 X hk2 hk24 (lv_sub hl [0, 1, 2, 3] rfl) hI hS h
set_option maxRecDepth 100000 in
set_option maxHeartbeats 4000000 in
theorem t_Mo_placeOf_54 {p : Program} {l : Launch} {e : Env} {s : State} {m : MethodId} {args : Array Value} {below : List Frame} {meth : Method} {c : Code} {D : va_G} {A : Nat → Prop} {g : Nat → ClassId} {rest : va_W} {a0 : Nat → Nat} {ls : Array Slot} {H : Heap} {locs : List Loc} {k2 : S_Mo × Int32 × Int32 → Option (Int32 × S_Mo)} {k24 : S_Mo × Int32 × Int32 × Int32 → Option (Int32 × S_Mo)} {s0 : S_Mo} {x1 : Int32} {x2 : Int32} {x3 : Int32} {out : Int32 × S_Mo} (X : Cx p s m args meth c prog_11_method_47_code 6 ws_Mo_placeOf R_Mo (some .int) D g) (hk2 : ∀ (v : S_Mo × Int32 × Int32) (ls : Array Slot) (H : Heap) (locs : List Loc), lv_has ls 6 [(0, .ref (a0 0)), (1, .int v.2.1), (2, .int v.2.2)] → Iw D A (w_Mo g a0 v.1 ++ (rest)) H → va_S A s.heap H locs → k2 v = some out → W p l e (headSpec ws_Mo_placeOf { frames := 6, cells := 0, slots := 0, locals := 150 }).room s m args below meth c H locs 0 0 (MQ below (QcI D A g out.1 (fun (_ : Unit) => w_Mo g a0 out.2 ++ (rest))) args s 0 0 A) (F0 m 2 ls [])) (hk24 : ∀ (v : S_Mo × Int32 × Int32 × Int32) (ls : Array Slot) (H : Heap) (locs : List Loc), lv_has ls 6 [(0, .ref (a0 0)), (1, .int v.2.1), (2, .int v.2.2.1), (3, .int v.2.2.2)] → Iw D A (w_Mo g a0 v.1 ++ (rest)) H → va_S A s.heap H locs → k24 v = some out → W p l e (headSpec ws_Mo_placeOf { frames := 6, cells := 0, slots := 0, locals := 150 }).room s m args below meth c H locs 0 0 (MQ below (QcI D A g out.1 (fun (_ : Unit) => w_Mo g a0 out.2 ++ (rest))) args s 0 0 A) (F0 m 24 ls [])) (hl : lv_has ls 6 [(0, .ref (a0 0)), (1, .int x1), (2, .int x2), (3, .int x3)]) (hI : Iw D A (w_Mo g a0 s0 ++ (rest)) H) (hS : va_S A s.heap H locs) (h : B_Mo_placeOf_54 k2 k24 s0 x1 x2 x3 = some out) : W p l e (headSpec ws_Mo_placeOf { frames := 6, cells := 0, slots := 0, locals := 150 }).room s m args below meth c H locs 0 0 (MQ below (QcI D A g out.1 (fun (_ : Unit) => w_Mo g a0 out.2 ++ (rest))) args s 0 0 A) (F0 m 54 ls []) := by
  have X1 := X
  obtain ⟨hx, hb, hml, hown, hts, hr, hlocks, hKK⟩ := X1
  have ht : ∀ w ∈ TB, w.before args s = true := fun w h => hts w (List.mem_cons_of_mem _ h)
  have hK := hKK.1
  unfold B_Mo_placeOf_54 at h
  refine lv_iconst (v := 1) hx hb d_Mo_placeOf_54 (by decide) ?_
  refine lv_goto (tgt := 59) hx hb d_Mo_placeOf_55 (by decide) ?_
  exact t_Mo_placeOf_59 X hk2 hk24 (lv_sub hl [0, 1, 2, 3] rfl) hI hS h
set_option maxRecDepth 100000 in
set_option maxHeartbeats 4000000 in
theorem t_Mo_placeOf_39 {p : Program} {l : Launch} {e : Env} {s : State} {m : MethodId} {args : Array Value} {below : List Frame} {meth : Method} {c : Code} {D : va_G} {A : Nat → Prop} {g : Nat → ClassId} {rest : va_W} {a0 : Nat → Nat} {ls : Array Slot} {H : Heap} {locs : List Loc} {k2 : S_Mo × Int32 × Int32 → Option (Int32 × S_Mo)} {k24 : S_Mo × Int32 × Int32 × Int32 → Option (Int32 × S_Mo)} {s0 : S_Mo} {x1 : Int32} {x2 : Int32} {x3 : Int32} {out : Int32 × S_Mo} (X : Cx p s m args meth c prog_11_method_47_code 6 ws_Mo_placeOf R_Mo (some .int) D g) (hk2 : ∀ (v : S_Mo × Int32 × Int32) (ls : Array Slot) (H : Heap) (locs : List Loc), lv_has ls 6 [(0, .ref (a0 0)), (1, .int v.2.1), (2, .int v.2.2)] → Iw D A (w_Mo g a0 v.1 ++ (rest)) H → va_S A s.heap H locs → k2 v = some out → W p l e (headSpec ws_Mo_placeOf { frames := 6, cells := 0, slots := 0, locals := 150 }).room s m args below meth c H locs 0 0 (MQ below (QcI D A g out.1 (fun (_ : Unit) => w_Mo g a0 out.2 ++ (rest))) args s 0 0 A) (F0 m 2 ls [])) (hk24 : ∀ (v : S_Mo × Int32 × Int32 × Int32) (ls : Array Slot) (H : Heap) (locs : List Loc), lv_has ls 6 [(0, .ref (a0 0)), (1, .int v.2.1), (2, .int v.2.2.1), (3, .int v.2.2.2)] → Iw D A (w_Mo g a0 v.1 ++ (rest)) H → va_S A s.heap H locs → k24 v = some out → W p l e (headSpec ws_Mo_placeOf { frames := 6, cells := 0, slots := 0, locals := 150 }).room s m args below meth c H locs 0 0 (MQ below (QcI D A g out.1 (fun (_ : Unit) => w_Mo g a0 out.2 ++ (rest))) args s 0 0 A) (F0 m 24 ls [])) (hl : lv_has ls 6 [(0, .ref (a0 0)), (1, .int x1), (2, .int x2), (3, .int x3)]) (hI : Iw D A (w_Mo g a0 s0 ++ (rest)) H) (hS : va_S A s.heap H locs) (h : B_Mo_placeOf_39 k2 k24 s0 x1 x2 x3 = some out) : W p l e (headSpec ws_Mo_placeOf { frames := 6, cells := 0, slots := 0, locals := 150 }).room s m args below meth c H locs 0 0 (MQ below (QcI D A g out.1 (fun (_ : Unit) => w_Mo g a0 out.2 ++ (rest))) args s 0 0 A) (F0 m 39 ls []) := by
  have X1 := X
  obtain ⟨hx, hb, hml, hown, hts, hr, hlocks, hKK⟩ := X1
  have ht : ∀ w ∈ TB, w.before args s = true := fun w h => hts w (List.mem_cons_of_mem _ h)
  have hK := hKK.1
  unfold B_Mo_placeOf_39 at h
  refine lv_aload_n hx hb d_Mo_placeOf_39 rfl (lv_at hl 0 rfl) ?_
  refine gt_Mo_value hx hb ht hown hK hI (ht _ m_825) d_Mo_placeOf_40 ?_
  refine lv_iload_n hx hb d_Mo_placeOf_43 rfl (lv_at hl 3 rfl) ?_
  by_cases hc1 : (x3 < 0 ∨ 260 ≤ x3.toNatClampNeg)
  · exact no_s (it_t h hc1)
  have h := it_f h hc1
  refine al_Mo_value hx hb hK hI hc1 d_Mo_placeOf_44 ?_
  refine lv_aload_n hx hb d_Mo_placeOf_45 rfl (lv_at hl 0 rfl) ?_
  refine gt_Mo_value hx hb ht hown hK hI (ht _ m_825) d_Mo_placeOf_46 ?_
  refine lv_iload_n hx hb d_Mo_placeOf_49 rfl (lv_at hl 1 rfl) ?_
  by_cases hc2 : (x1 < 0 ∨ 260 ≤ x1.toNatClampNeg)
  · exact no_s (it_t h hc2)
  have h := it_f h hc2
  refine al_Mo_value hx hb hK hI hc2 d_Mo_placeOf_50 ?_
  refine lv_icmp_ne (tgt := 58) hx hb d_Mo_placeOf_51 (by decide) (fun hc => ?_) (fun hc => ?_)
  · have h := it_f h hc
    exact t_Mo_placeOf_58 X hk2 hk24 (lv_sub hl [0, 1, 2, 3] rfl) hI hS h
  · have h := it_t h hc
    exact t_Mo_placeOf_54 X hk2 hk24 (lv_sub hl [0, 1, 2, 3] rfl) hI hS h
set_option maxRecDepth 100000 in
set_option maxHeartbeats 4000000 in
theorem t_Mo_placeOf_28 {p : Program} {l : Launch} {e : Env} {s : State} {m : MethodId} {args : Array Value} {below : List Frame} {meth : Method} {c : Code} {D : va_G} {A : Nat → Prop} {g : Nat → ClassId} {rest : va_W} {a0 : Nat → Nat} {ls : Array Slot} {H : Heap} {locs : List Loc} {k2 : S_Mo × Int32 × Int32 → Option (Int32 × S_Mo)} {k24 : S_Mo × Int32 × Int32 × Int32 → Option (Int32 × S_Mo)} {s0 : S_Mo} {x1 : Int32} {x2 : Int32} {x3 : Int32} {out : Int32 × S_Mo} (X : Cx p s m args meth c prog_11_method_47_code 6 ws_Mo_placeOf R_Mo (some .int) D g) (hk2 : ∀ (v : S_Mo × Int32 × Int32) (ls : Array Slot) (H : Heap) (locs : List Loc), lv_has ls 6 [(0, .ref (a0 0)), (1, .int v.2.1), (2, .int v.2.2)] → Iw D A (w_Mo g a0 v.1 ++ (rest)) H → va_S A s.heap H locs → k2 v = some out → W p l e (headSpec ws_Mo_placeOf { frames := 6, cells := 0, slots := 0, locals := 150 }).room s m args below meth c H locs 0 0 (MQ below (QcI D A g out.1 (fun (_ : Unit) => w_Mo g a0 out.2 ++ (rest))) args s 0 0 A) (F0 m 2 ls [])) (hk24 : ∀ (v : S_Mo × Int32 × Int32 × Int32) (ls : Array Slot) (H : Heap) (locs : List Loc), lv_has ls 6 [(0, .ref (a0 0)), (1, .int v.2.1), (2, .int v.2.2.1), (3, .int v.2.2.2)] → Iw D A (w_Mo g a0 v.1 ++ (rest)) H → va_S A s.heap H locs → k24 v = some out → W p l e (headSpec ws_Mo_placeOf { frames := 6, cells := 0, slots := 0, locals := 150 }).room s m args below meth c H locs 0 0 (MQ below (QcI D A g out.1 (fun (_ : Unit) => w_Mo g a0 out.2 ++ (rest))) args s 0 0 A) (F0 m 24 ls [])) (hl : lv_has ls 6 [(0, .ref (a0 0)), (1, .int x1), (2, .int x2), (3, .int x3)]) (hI : Iw D A (w_Mo g a0 s0 ++ (rest)) H) (hS : va_S A s.heap H locs) (h : B_Mo_placeOf_28 k2 k24 s0 x1 x2 x3 = some out) : W p l e (headSpec ws_Mo_placeOf { frames := 6, cells := 0, slots := 0, locals := 150 }).room s m args below meth c H locs 0 0 (MQ below (QcI D A g out.1 (fun (_ : Unit) => w_Mo g a0 out.2 ++ (rest))) args s 0 0 A) (F0 m 28 ls []) := by
  have X1 := X
  obtain ⟨hx, hb, hml, hown, hts, hr, hlocks, hKK⟩ := X1
  have ht : ∀ w ∈ TB, w.before args s = true := fun w h => hts w (List.mem_cons_of_mem _ h)
  have hK := hKK.1
  unfold B_Mo_placeOf_28 at h
  refine lv_aload_n hx hb d_Mo_placeOf_28 rfl (lv_at hl 0 rfl) ?_
  refine gt_Mo_tag hx hb ht hown hK hI (ht _ m_824) d_Mo_placeOf_29 ?_
  refine lv_iload_n hx hb d_Mo_placeOf_32 rfl (lv_at hl 3 rfl) ?_
  by_cases hc1 : (x3 < 0 ∨ 260 ≤ x3.toNatClampNeg)
  · exact no_s (it_t h hc1)
  have h := it_f h hc1
  refine al_Mo_tag hx hb hK hI hc1 d_Mo_placeOf_33 ?_
  refine lv_bipush (v := 80) hx hb d_Mo_placeOf_34 (by decide) ?_
  refine lv_icmp_ne (tgt := 58) hx hb d_Mo_placeOf_36 (by decide) (fun hc => ?_) (fun hc => ?_)
  · have h := it_f h hc
    exact t_Mo_placeOf_58 X hk2 hk24 (lv_sub hl [0, 1, 2, 3] rfl) hI hS h
  · have h := it_t h hc
    exact t_Mo_placeOf_39 X hk2 hk24 (lv_sub hl [0, 1, 2, 3] rfl) hI hS h
set_option maxRecDepth 100000 in
set_option maxHeartbeats 4000000 in
theorem t_Mo_placeOf_24 {p : Program} {l : Launch} {e : Env} {s : State} {m : MethodId} {args : Array Value} {below : List Frame} {meth : Method} {c : Code} {D : va_G} {A : Nat → Prop} {g : Nat → ClassId} {rest : va_W} {a0 : Nat → Nat} {ls : Array Slot} {H : Heap} {locs : List Loc} {k2 : S_Mo × Int32 × Int32 → Option (Int32 × S_Mo)} {k24 : S_Mo × Int32 × Int32 × Int32 → Option (Int32 × S_Mo)} {s0 : S_Mo} {x1 : Int32} {x2 : Int32} {x3 : Int32} {out : Int32 × S_Mo} (X : Cx p s m args meth c prog_11_method_47_code 6 ws_Mo_placeOf R_Mo (some .int) D g) (hk2 : ∀ (v : S_Mo × Int32 × Int32) (ls : Array Slot) (H : Heap) (locs : List Loc), lv_has ls 6 [(0, .ref (a0 0)), (1, .int v.2.1), (2, .int v.2.2)] → Iw D A (w_Mo g a0 v.1 ++ (rest)) H → va_S A s.heap H locs → k2 v = some out → W p l e (headSpec ws_Mo_placeOf { frames := 6, cells := 0, slots := 0, locals := 150 }).room s m args below meth c H locs 0 0 (MQ below (QcI D A g out.1 (fun (_ : Unit) => w_Mo g a0 out.2 ++ (rest))) args s 0 0 A) (F0 m 2 ls [])) (hk24 : ∀ (v : S_Mo × Int32 × Int32 × Int32) (ls : Array Slot) (H : Heap) (locs : List Loc), lv_has ls 6 [(0, .ref (a0 0)), (1, .int v.2.1), (2, .int v.2.2.1), (3, .int v.2.2.2)] → Iw D A (w_Mo g a0 v.1 ++ (rest)) H → va_S A s.heap H locs → k24 v = some out → W p l e (headSpec ws_Mo_placeOf { frames := 6, cells := 0, slots := 0, locals := 150 }).room s m args below meth c H locs 0 0 (MQ below (QcI D A g out.1 (fun (_ : Unit) => w_Mo g a0 out.2 ++ (rest))) args s 0 0 A) (F0 m 24 ls [])) (hl : lv_has ls 6 [(0, .ref (a0 0)), (1, .int x1), (2, .int x2), (3, .int x3)]) (hI : Iw D A (w_Mo g a0 s0 ++ (rest)) H) (hS : va_S A s.heap H locs) (h : B_Mo_placeOf_24 k2 k24 s0 x1 x2 x3 = some out) : W p l e (headSpec ws_Mo_placeOf { frames := 6, cells := 0, slots := 0, locals := 150 }).room s m args below meth c H locs 0 0 (MQ below (QcI D A g out.1 (fun (_ : Unit) => w_Mo g a0 out.2 ++ (rest))) args s 0 0 A) (F0 m 24 ls []) := by
  have X1 := X
  obtain ⟨hx, hb, hml, hown, hts, hr, hlocks, hKK⟩ := X1
  have ht : ∀ w ∈ TB, w.before args s = true := fun w h => hts w (List.mem_cons_of_mem _ h)
  have hK := hKK.1
  unfold B_Mo_placeOf_24 at h
  refine lv_iload_n hx hb d_Mo_placeOf_24 rfl (lv_at hl 3 rfl) ?_
  refine lv_if_lt (tgt := 141) hx hb d_Mo_placeOf_25 (by decide) (fun hc => ?_) (fun hc => ?_)
  · have h := it_t h hc
    exact t_Mo_placeOf_141 X hk2 (lv_sub hl [0, 1, 2] rfl) hI hS h
  · have h := it_f h hc
    exact t_Mo_placeOf_28 X hk2 hk24 (lv_sub hl [0, 1, 2, 3] rfl) hI hS h
set_option maxRecDepth 100000 in
set_option maxHeartbeats 4000000 in
theorem T_Mo_placeOf_24 {p : Program} {l : Launch} {e : Env} {s : State} {m : MethodId} {args : Array Value} {below : List Frame} {meth : Method} {c : Code} {D : va_G} {A : Nat → Prop} {g : Nat → ClassId} {rest : va_W} {a0 : Nat → Nat} {ls : Array Slot} {H : Heap} {locs : List Loc} {k2 : S_Mo × Int32 × Int32 → Option (Int32 × S_Mo)} {s0 : S_Mo} {x1 : Int32} {x2 : Int32} {x3 : Int32} {out : Int32 × S_Mo} (X : Cx p s m args meth c prog_11_method_47_code 6 ws_Mo_placeOf R_Mo (some .int) D g) (hk2 : ∀ (v : S_Mo × Int32 × Int32) (ls : Array Slot) (H : Heap) (locs : List Loc), lv_has ls 6 [(0, .ref (a0 0)), (1, .int v.2.1), (2, .int v.2.2)] → Iw D A (w_Mo g a0 v.1 ++ (rest)) H → va_S A s.heap H locs → k2 v = some out → W p l e (headSpec ws_Mo_placeOf { frames := 6, cells := 0, slots := 0, locals := 150 }).room s m args below meth c H locs 0 0 (MQ below (QcI D A g out.1 (fun (_ : Unit) => w_Mo g a0 out.2 ++ (rest))) args s 0 0 A) (F0 m 2 ls [])) (hl : lv_has ls 6 [(0, .ref (a0 0)), (1, .int x1), (2, .int x2), (3, .int x3)]) (hI : Iw D A (w_Mo g a0 s0 ++ (rest)) H) (hS : va_S A s.heap H locs) (h : L_Mo_placeOf_24 k2  (s0, x1, x2, x3) = some out) : W p l e (headSpec ws_Mo_placeOf { frames := 6, cells := 0, slots := 0, locals := 150 }).room s m args below meth c H locs 0 0 (MQ below (QcI D A g out.1 (fun (_ : Unit) => w_Mo g a0 out.2 ++ (rest))) args s 0 0 A) (F0 m 24 ls []) := by
  unfold L_Mo_placeOf_24 at h
  exact lp_ind (P := fun v => ∀ (ls : Array Slot) (H : Heap) (locs : List Loc), lv_has ls 6 [(0, .ref (a0 0)), (1, .int v.2.1), (2, .int v.2.2.1), (3, .int v.2.2.2)] → Iw D A (w_Mo g a0 v.1 ++ (rest)) H → va_S A s.heap H locs → W p l e (headSpec ws_Mo_placeOf { frames := 6, cells := 0, slots := 0, locals := 150 }).room s m args below meth c H locs 0 0 (MQ below (QcI D A g out.1 (fun (_ : Unit) => w_Mo g a0 out.2 ++ (rest))) args s 0 0 A) (F0 m 24 ls [])) (fun k v ih hb ls H locs  hl hI hS => t_Mo_placeOf_24 X hk2 (fun v' ls H locs  hl hI hS h' => ih v' h' ls H locs  hl hI hS) hl hI hS hb) FU _ h ls H locs  hl hI hS
set_option maxRecDepth 100000 in
set_option maxHeartbeats 4000000 in
theorem t_Mo_placeOf_10 {p : Program} {l : Launch} {e : Env} {s : State} {m : MethodId} {args : Array Value} {below : List Frame} {meth : Method} {c : Code} {D : va_G} {A : Nat → Prop} {g : Nat → ClassId} {rest : va_W} {a0 : Nat → Nat} {ls : Array Slot} {H : Heap} {locs : List Loc} {k2 : S_Mo × Int32 × Int32 → Option (Int32 × S_Mo)} {s0 : S_Mo} {x1 : Int32} {x2 : Int32} {out : Int32 × S_Mo} (X : Cx p s m args meth c prog_11_method_47_code 6 ws_Mo_placeOf R_Mo (some .int) D g) (hk2 : ∀ (v : S_Mo × Int32 × Int32) (ls : Array Slot) (H : Heap) (locs : List Loc), lv_has ls 6 [(0, .ref (a0 0)), (1, .int v.2.1), (2, .int v.2.2)] → Iw D A (w_Mo g a0 v.1 ++ (rest)) H → va_S A s.heap H locs → k2 v = some out → W p l e (headSpec ws_Mo_placeOf { frames := 6, cells := 0, slots := 0, locals := 150 }).room s m args below meth c H locs 0 0 (MQ below (QcI D A g out.1 (fun (_ : Unit) => w_Mo g a0 out.2 ++ (rest))) args s 0 0 A) (F0 m 2 ls [])) (hl : lv_has ls 6 [(0, .ref (a0 0)), (1, .int x1), (2, .int x2)]) (hI : Iw D A (w_Mo g a0 s0 ++ (rest)) H) (hS : va_S A s.heap H locs) (h : B_Mo_placeOf_10 k2 s0 x1 x2 = some out) : W p l e (headSpec ws_Mo_placeOf { frames := 6, cells := 0, slots := 0, locals := 150 }).room s m args below meth c H locs 0 0 (MQ below (QcI D A g out.1 (fun (_ : Unit) => w_Mo g a0 out.2 ++ (rest))) args s 0 0 A) (F0 m 10 ls []) := by
  have X1 := X
  obtain ⟨hx, hb, hml, hown, hts, hr, hlocks, hKK⟩ := X1
  have ht : ∀ w ∈ TB, w.before args s = true := fun w h => hts w (List.mem_cons_of_mem _ h)
  have hK := hKK.1
  unfold B_Mo_placeOf_10 at h
  refine lv_aload_n hx hb d_Mo_placeOf_10 rfl (lv_at hl 0 rfl) ?_
  refine lv_iload_n hx hb d_Mo_placeOf_11 rfl (lv_at hl 2 rfl) ?_
  obtain ⟨o1, ho2, h⟩ := bd_s h
  refine cl_v (W1 := fun (_ : Unit) => w_Mo g a0 o1 ++ (rest)) (va_runV (As := [.int x2]) (rest := []) ⟨hx, hb, hml, hown, ht⟩ (c_Mo_load (l := l) (D := D) (A := A) (g := g) (rest := rest) (a0 := a0) ho2) (cwV 1 ht (gd_V m_1136 m_1138 mp_68 m_11 m_1139) rfl rfl rfl (by decide +kernel) ⟨(Nat.le_of_ble_eq_true rfl), (Nat.le_of_ble_eq_true rfl)⟩) (prV (ci := 9) (q0 := 0) hKK hI (List.Perm.refl _) rfl rfl rfl) rfl rfl hl.1 rfl (lv_room (Nat.le_of_ble_eq_true rfl)) d_Mo_placeOf_12 ⟨(Nat.le_of_ble_eq_true rfl), (Nat.le_of_ble_eq_true rfl)⟩) hS (fun _ => ((List.Perm.refl _)).symm) (fun _ H locs hI hS => ?_)
  have hI : Iw D A (w_Mo g a0 o1 ++ (rest)) H := hI
  refine lv_aload_n hx hb d_Mo_placeOf_15 rfl (lv_at hl 0 rfl) ?_
  refine gt_Mo_first hx hb ht hown hK hI (ht _ m_828) d_Mo_placeOf_16 ?_
  refine lv_sipush (v := 130) hx hb d_Mo_placeOf_19 (by decide) ?_
  by_cases hc3 : ((130 : Int32) < 0 ∨ 260 ≤ (130 : Int32).toNatClampNeg)
  · exact no_s (it_t h hc3)
  have h := it_f h hc3
  refine al_Mo_first hx hb hK hI hc3 d_Mo_placeOf_22 ?_
  refine lv_istore_n hx hb d_Mo_placeOf_23 rfl hl (Nat.le_of_ble_eq_true rfl) rfl (fun ls hl => ?_)
  have hl : lv_has ls 6 [(3, .int ((Mo_first o1) (130 : Int32).toNatClampNeg)), (0, .ref (a0 0)), (1, .int x1), (2, .int x2)] := hl
  exact T_Mo_placeOf_24 X hk2 (lv_sub hl [1, 2, 3, 0] rfl) hI hS h
set_option maxRecDepth 100000 in
set_option maxHeartbeats 4000000 in
theorem t_Mo_placeOf_2 {p : Program} {l : Launch} {e : Env} {s : State} {m : MethodId} {args : Array Value} {below : List Frame} {meth : Method} {c : Code} {D : va_G} {A : Nat → Prop} {g : Nat → ClassId} {rest : va_W} {a0 : Nat → Nat} {ls : Array Slot} {H : Heap} {locs : List Loc} {k2 : S_Mo × Int32 × Int32 → Option (Int32 × S_Mo)} {s0 : S_Mo} {x1 : Int32} {x2 : Int32} {out : Int32 × S_Mo} (X : Cx p s m args meth c prog_11_method_47_code 6 ws_Mo_placeOf R_Mo (some .int) D g) (hk2 : ∀ (v : S_Mo × Int32 × Int32) (ls : Array Slot) (H : Heap) (locs : List Loc), lv_has ls 6 [(0, .ref (a0 0)), (1, .int v.2.1), (2, .int v.2.2)] → Iw D A (w_Mo g a0 v.1 ++ (rest)) H → va_S A s.heap H locs → k2 v = some out → W p l e (headSpec ws_Mo_placeOf { frames := 6, cells := 0, slots := 0, locals := 150 }).room s m args below meth c H locs 0 0 (MQ below (QcI D A g out.1 (fun (_ : Unit) => w_Mo g a0 out.2 ++ (rest))) args s 0 0 A) (F0 m 2 ls [])) (hl : lv_has ls 6 [(0, .ref (a0 0)), (1, .int x1), (2, .int x2)]) (hI : Iw D A (w_Mo g a0 s0 ++ (rest)) H) (hS : va_S A s.heap H locs) (h : B_Mo_placeOf_2 k2 s0 x1 x2 = some out) : W p l e (headSpec ws_Mo_placeOf { frames := 6, cells := 0, slots := 0, locals := 150 }).room s m args below meth c H locs 0 0 (MQ below (QcI D A g out.1 (fun (_ : Unit) => w_Mo g a0 out.2 ++ (rest))) args s 0 0 A) (F0 m 2 ls []) := by
  have X1 := X
  obtain ⟨hx, hb, hml, hown, hts, hr, hlocks, hKK⟩ := X1
  have ht : ∀ w ∈ TB, w.before args s = true := fun w h => hts w (List.mem_cons_of_mem _ h)
  have hK := hKK.1
  unfold B_Mo_placeOf_2 at h
  refine lv_iload_n hx hb d_Mo_placeOf_2 rfl (lv_at hl 2 rfl) ?_
  refine lv_aload_n hx hb d_Mo_placeOf_3 rfl (lv_at hl 0 rfl) ?_
  refine gt_Mo_records hx hb ht hown hK hI (ht _ m_863) d_Mo_placeOf_4 ?_
  refine lv_icmp_ge (tgt := 147) hx hb d_Mo_placeOf_7 (by decide) (fun hc => ?_) (fun hc => ?_)
  · have h := it_t h hc
    exact t_Mo_placeOf_147 X (lv_sub hl [0] rfl) hI hS h
  · have h := it_f h hc
    exact t_Mo_placeOf_10 X hk2 (lv_sub hl [0, 1, 2] rfl) hI hS h
set_option maxRecDepth 100000 in
set_option maxHeartbeats 4000000 in
theorem T_Mo_placeOf_2 {p : Program} {l : Launch} {e : Env} {s : State} {m : MethodId} {args : Array Value} {below : List Frame} {meth : Method} {c : Code} {D : va_G} {A : Nat → Prop} {g : Nat → ClassId} {rest : va_W} {a0 : Nat → Nat} {ls : Array Slot} {H : Heap} {locs : List Loc} {s0 : S_Mo} {x1 : Int32} {x2 : Int32} {out : Int32 × S_Mo} (X : Cx p s m args meth c prog_11_method_47_code 6 ws_Mo_placeOf R_Mo (some .int) D g) (hl : lv_has ls 6 [(0, .ref (a0 0)), (1, .int x1), (2, .int x2)]) (hI : Iw D A (w_Mo g a0 s0 ++ (rest)) H) (hS : va_S A s.heap H locs) (h : L_Mo_placeOf_2   (s0, x1, x2) = some out) : W p l e (headSpec ws_Mo_placeOf { frames := 6, cells := 0, slots := 0, locals := 150 }).room s m args below meth c H locs 0 0 (MQ below (QcI D A g out.1 (fun (_ : Unit) => w_Mo g a0 out.2 ++ (rest))) args s 0 0 A) (F0 m 2 ls []) := by
  unfold L_Mo_placeOf_2 at h
  exact lp_ind (P := fun v => ∀ (ls : Array Slot) (H : Heap) (locs : List Loc), lv_has ls 6 [(0, .ref (a0 0)), (1, .int v.2.1), (2, .int v.2.2)] → Iw D A (w_Mo g a0 v.1 ++ (rest)) H → va_S A s.heap H locs → W p l e (headSpec ws_Mo_placeOf { frames := 6, cells := 0, slots := 0, locals := 150 }).room s m args below meth c H locs 0 0 (MQ below (QcI D A g out.1 (fun (_ : Unit) => w_Mo g a0 out.2 ++ (rest))) args s 0 0 A) (F0 m 2 ls [])) (fun k v ih hb ls H locs  hl hI hS => t_Mo_placeOf_2 X  (fun v' ls H locs  hl hI hS h' => ih v' h' ls H locs  hl hI hS) hl hI hS hb) FU _ h ls H locs  hl hI hS
set_option maxRecDepth 100000 in
set_option maxHeartbeats 4000000 in
theorem t_Mo_placeOf_0 {p : Program} {l : Launch} {e : Env} {s : State} {m : MethodId} {args : Array Value} {below : List Frame} {meth : Method} {c : Code} {D : va_G} {A : Nat → Prop} {g : Nat → ClassId} {rest : va_W} {a0 : Nat → Nat} {ls : Array Slot} {H : Heap} {locs : List Loc} {s0 : S_Mo} {x1 : Int32} {out : Int32 × S_Mo} (X : Cx p s m args meth c prog_11_method_47_code 6 ws_Mo_placeOf R_Mo (some .int) D g) (hl : lv_has ls 6 [(0, .ref (a0 0)), (1, .int x1)]) (hI : Iw D A (w_Mo g a0 s0 ++ (rest)) H) (hS : va_S A s.heap H locs) (h : B_Mo_placeOf_0  s0 x1 = some out) : W p l e (headSpec ws_Mo_placeOf { frames := 6, cells := 0, slots := 0, locals := 150 }).room s m args below meth c H locs 0 0 (MQ below (QcI D A g out.1 (fun (_ : Unit) => w_Mo g a0 out.2 ++ (rest))) args s 0 0 A) (F0 m 0 ls []) := by
  have X1 := X
  obtain ⟨hx, hb, hml, hown, hts, hr, hlocks, hKK⟩ := X1
  have ht : ∀ w ∈ TB, w.before args s = true := fun w h => hts w (List.mem_cons_of_mem _ h)
  have hK := hKK.1
  unfold B_Mo_placeOf_0 at h
  refine lv_iconst (v := 0) hx hb d_Mo_placeOf_0 (by decide) ?_
  refine lv_istore_n hx hb d_Mo_placeOf_1 rfl hl (Nat.le_of_ble_eq_true rfl) rfl (fun ls hl => ?_)
  have hl : lv_has ls 6 [(2, .int (0 : Int32)), (0, .ref (a0 0)), (1, .int x1)] := hl
  exact T_Mo_placeOf_2 X (lv_sub hl [1, 2, 0] rfl) hI hS h
set_option maxRecDepth 100000 in
set_option maxHeartbeats 4000000 in
theorem c_Mo_placeOf {l : Launch} {D : va_G} {A : Nat → Prop} {g : Nat → ClassId} {rest : va_W} {a0 : Nat → Nat} {s0 : S_Mo} {x1 : Int32} {out : Int32 × S_Mo} (h : F_Mo_placeOf s0 x1 = some out) : Met l y_Mo_placeOf ws_Mo_placeOf { frames := 6, cells := 0, slots := 0, locals := 150 } (PcW D A g [.ref (a0 0), .int x1] (w_Mo g a0 s0 ++ (rest))) (QcI D A g out.1 (fun (_ : Unit) => w_Mo g a0 out.2 ++ (rest))) 0 0 A := by
  refine Met.ofW (cc := prog_11_method_47_code) (maxL := 6) (ret := (some .int)) (by decide) rfl ?_
  intro p e s m args below meth c s₁ B hml hv
  obtain ⟨rfl, hI, hK⟩ := hv
  have hl := lv_entry [.ref (a0 0), .int x1] (n := 6) (Nat.le_of_ble_eq_true rfl)
  rw [lg_entry_eq]
  generalize (lg_sl [.ref (a0 0), .int x1] ++ List.replicate (6 - (lg_sl [.ref (a0 0), .int x1]).length) Slot.unset).toArray = ls at hl ⊢
  have hl : lv_has ls 6 [(0, .ref (a0 0)), (1, .int x1)] := hl
  exact t_Mo_placeOf_0 ⟨B.exec, B.bytes, hml, findClass_of_methodNamed B.named, atoms_spec (ws := ws_Mo_placeOf) B.pre, B.returns, B.notSynchronized, hK⟩ (lv_sub hl [0, 1] rfl) hI va_S.rf h
def ws_Mo_store : List Cond := .code y_Mo_store prog_11_method_45_code 7 none :: TB
def B_Mo_store_227 (s0 : S_Mo) (x3 : Int32) : Option S_Mo :=
  ((F_Mo_replies s0 x3 (0 : Int32)).bind fun o1 => some o1.2)
def B_Mo_store_224 (s0 : S_Mo) (x3 : Int32) (y0 : Int32) : Option S_Mo :=
  (B_Mo_store_227 (Mo_set_records s0 y0) x3)
def B_Mo_store_220 (s0 : S_Mo) (x3 : Int32) : Option S_Mo :=
  (B_Mo_store_224 s0 x3 (Mo_records s0))
def B_Mo_store_211 (s0 : S_Mo) (x3 : Int32) : Option S_Mo :=
  (B_Mo_store_224 s0 x3 ((Mo_records s0) + (1 : Int32)))
def B_Mo_store_190 (s0 : S_Mo) (x3 : Int32) (x5 : Int32) : Option S_Mo :=
  (if (x5 < 0 ∨ 8 ≤ x5.toNatClampNeg) then none else (if x5 = (Mo_records (Mo_set_lengths s0 (upd (Mo_lengths s0) x5.toNatClampNeg (Mo_makes s0)))) then (B_Mo_store_211 (Mo_set_lengths s0 (upd (Mo_lengths s0) x5.toNatClampNeg (Mo_makes s0))) x3) else (B_Mo_store_220 (Mo_set_lengths s0 (upd (Mo_lengths s0) x5.toNatClampNeg (Mo_makes s0))) x3)))
def B_Mo_store_163 (k154 : S_Mo × Int32 × Int32 × Int32 → Option S_Mo) (s0 : S_Mo) (x3 : Int32) (x5 : Int32) (x6 : Int32) : Option S_Mo :=
  (if (x6 < 0 ∨ 1000 ≤ x6.toNatClampNeg) then none else (if ((((200 : Int32) * x5) + x6) < 0 ∨ 1600 ≤ (((200 : Int32) * x5) + x6).toNatClampNeg) then none else (k154 ((Mo_set_kept s0 (upd (Mo_kept s0) (((200 : Int32) * x5) + x6).toNatClampNeg ((Mo_made s0) x6.toNatClampNeg))), x3, x5, (x6 + 1)))))
def B_Mo_store_154 (k154 : S_Mo × Int32 × Int32 × Int32 → Option S_Mo) (s0 : S_Mo) (x3 : Int32) (x5 : Int32) (x6 : Int32) : Option S_Mo :=
  (if (Mo_makes s0) ≤ x6 then (B_Mo_store_190 s0 x3 x5) else (B_Mo_store_163 k154 s0 x3 x5 x6))
def L_Mo_store_154 (v : S_Mo × Int32 × Int32 × Int32) : Option S_Mo := lp (fun k154 v => B_Mo_store_154  k154  v.1 v.2.1 v.2.2.1 v.2.2.2) FU v
def B_Mo_store_144 (s0 : S_Mo) (x3 : Int32) (x5 : Int32) : Option S_Mo :=
  ((F_Mo_canonical s0 (0 : Int32) (0 : Int32)).bind fun o1 => (L_Mo_store_154 (o1.2, x3, x5, (0 : Int32))))
def B_Mo_store_139 (s0 : S_Mo) : Option S_Mo :=
  (B_Mo_store_227 s0 (5 : Int32))
def B_Mo_store_122 (s0 : S_Mo) (x3 : Int32) (x4 : Int32) : Option S_Mo :=
  ((F_Mo_placeOf s0 x4).bind fun o1 => (if o1.1 = (Mo_room o1.2) then (B_Mo_store_139 o1.2) else (B_Mo_store_144 o1.2 x3 o1.1)))
def B_Mo_store_117 (s0 : S_Mo) (x3 : Int32) (x4 : Int32) : Option S_Mo :=
  (if x4 < 0 then (B_Mo_store_227 s0 x3) else (B_Mo_store_122 s0 x3 x4))
def B_Mo_store_113 (s0 : S_Mo) (x2 : Int32) (x3 : Int32) (x4 : Int32) : Option S_Mo :=
  (if x2 = 0 then (B_Mo_store_227 s0 x3) else (B_Mo_store_117 s0 x3 x4))
def B_Mo_store_111 (s0 : S_Mo) (x2 : Int32) (x4 : Int32) : Option S_Mo :=
  (B_Mo_store_113 s0 x2 (4 : Int32) x4)
def B_Mo_store_106 (s0 : S_Mo) (x2 : Int32) (x3 : Int32) (x4 : Int32) : Option S_Mo :=
  (if 0 ≤ x4 then (B_Mo_store_113 s0 x2 x3 x4) else (B_Mo_store_111 s0 x2 x4))
def B_Mo_store_102 (s0 : S_Mo) (x2 : Int32) (x3 : Int32) (x4 : Int32) : Option S_Mo :=
  (if x2 = 0 then (B_Mo_store_113 s0 x2 x3 x4) else (B_Mo_store_106 s0 x2 x3 x4))
def B_Mo_store_88 (k50 : S_Mo × Int32 × Int32 × Int32 × Int32 → Option S_Mo) (s0 : S_Mo) (x2 : Int32) (x3 : Int32) (x5 : Int32) (y0 : Int32) : Option S_Mo :=
  (if (x5 < 0 ∨ 260 ≤ x5.toNatClampNeg) then none else (k50 (s0, x2, x3, y0, ((Mo_next s0) x5.toNatClampNeg))))
def B_Mo_store_86 (k50 : S_Mo × Int32 × Int32 × Int32 × Int32 → Option S_Mo) (s0 : S_Mo) (x2 : Int32) (x3 : Int32) (x4 : Int32) (x5 : Int32) : Option S_Mo :=
  (B_Mo_store_88 k50 s0 x2 x3 x5 x4)
def B_Mo_store_81 (k50 : S_Mo × Int32 × Int32 × Int32 × Int32 → Option S_Mo) (s0 : S_Mo) (x2 : Int32) (x3 : Int32) (x5 : Int32) : Option S_Mo :=
  (B_Mo_store_88 k50 s0 x2 x3 x5 x5)
def B_Mo_store_71 (k50 : S_Mo × Int32 × Int32 × Int32 × Int32 → Option S_Mo) (s0 : S_Mo) (x2 : Int32) (x3 : Int32) (x4 : Int32) (x5 : Int32) : Option S_Mo :=
  (if (x5 < 0 ∨ 260 ≤ x5.toNatClampNeg) then none else (if ((Mo_value s0) x5.toNatClampNeg) ≤ 0 then (B_Mo_store_86 k50 s0 x2 x3 x4 x5) else (B_Mo_store_81 k50 s0 x2 x3 x5)))
def B_Mo_store_59 (k50 : S_Mo × Int32 × Int32 × Int32 × Int32 → Option S_Mo) (s0 : S_Mo) (x2 : Int32) (x3 : Int32) (x4 : Int32) (x5 : Int32) : Option S_Mo :=
  (if (x5 < 0 ∨ 260 ≤ x5.toNatClampNeg) then none else (if ((Mo_tag s0) x5.toNatClampNeg) = (80 : Int32) then (B_Mo_store_71 k50 s0 x2 x3 x4 x5) else (B_Mo_store_86 k50 s0 x2 x3 x4 x5)))
def B_Mo_store_55 (k50 : S_Mo × Int32 × Int32 × Int32 × Int32 → Option S_Mo) (s0 : S_Mo) (x2 : Int32) (x3 : Int32) (x4 : Int32) (x5 : Int32) : Option S_Mo :=
  (if x2 = 0 then (B_Mo_store_102 s0 x2 x3 x4) else (B_Mo_store_59 k50 s0 x2 x3 x4 x5))
def B_Mo_store_50 (k50 : S_Mo × Int32 × Int32 × Int32 × Int32 → Option S_Mo) (s0 : S_Mo) (x2 : Int32) (x3 : Int32) (x4 : Int32) (x5 : Int32) : Option S_Mo :=
  (if x5 < 0 then (B_Mo_store_102 s0 x2 x3 x4) else (B_Mo_store_55 k50 s0 x2 x3 x4 x5))
def L_Mo_store_50 (v : S_Mo × Int32 × Int32 × Int32 × Int32) : Option S_Mo := lp (fun k50 v => B_Mo_store_50  k50  v.1 v.2.1 v.2.2.1 v.2.2.2.1 v.2.2.2.2) FU v
def B_Mo_store_38 (s0 : S_Mo) (x2 : Int32) (y0 : Int32) : Option S_Mo :=
  (if ((0 : Int32) < 0 ∨ 260 ≤ (0 : Int32).toNatClampNeg) then none else (L_Mo_store_50 (s0, x2, y0, ((-1) : Int32), ((Mo_first s0) (0 : Int32).toNatClampNeg))))
def B_Mo_store_37 (s0 : S_Mo) (x2 : Int32) : Option S_Mo :=
  (B_Mo_store_38 s0 x2 (0 : Int32))
def B_Mo_store_33 (s0 : S_Mo) (x2 : Int32) : Option S_Mo :=
  (B_Mo_store_38 s0 x2 (3 : Int32))
def B_Mo_store_28 (s0 : S_Mo) (y0 : Int32) : Option S_Mo :=
  (if y0 = 0 then (B_Mo_store_33 s0 y0) else (B_Mo_store_37 s0 y0))
def B_Mo_store_27 (s0 : S_Mo) : Option S_Mo :=
  (B_Mo_store_28 s0 (0 : Int32))
def B_Mo_store_23 (s0 : S_Mo) : Option S_Mo :=
  (B_Mo_store_28 s0 (1 : Int32))
def B_Mo_store_13 (s0 : S_Mo) : Option S_Mo :=
  (if (198 : Int32) < (Mo_makes s0) then (B_Mo_store_27 s0) else (B_Mo_store_23 s0))
def B_Mo_store_4 (s0 : S_Mo) : Option S_Mo :=
  ((F_Mo_canonical s0 (0 : Int32) (0 : Int32)).bind fun o1 => (if o1.1 = 0 then (B_Mo_store_27 o1.2) else (B_Mo_store_13 o1.2)))
def B_Mo_store_0 (s0 : S_Mo) (x1 : Int32) : Option S_Mo :=
  (if x1 = 0 then (B_Mo_store_27 s0) else (B_Mo_store_4 s0))
def F_Mo_store (s0 : S_Mo) (x1 : Int32) : Option S_Mo := B_Mo_store_0 s0 x1
set_option maxRecDepth 100000 in
set_option maxHeartbeats 4000000 in
theorem t_Mo_store_227 {p : Program} {l : Launch} {e : Env} {s : State} {m : MethodId} {args : Array Value} {below : List Frame} {meth : Method} {c : Code} {D : va_G} {A : Nat → Prop} {g : Nat → ClassId} {rest : va_W} {a0 : Nat → Nat} {ls : Array Slot} {H : Heap} {locs : List Loc} {s0 : S_Mo} {x3 : Int32} {out : S_Mo} (X : Cx p s m args meth c prog_11_method_45_code 7 ws_Mo_store R_Mo none D g) (hl : lv_has ls 7 [(0, .ref (a0 0)), (3, .int x3)]) (hI : Iw D A (w_Mo g a0 s0 ++ (rest)) H) (hS : va_S A s.heap H locs) (h : B_Mo_store_227  s0 x3 = some out) : W p l e (headSpec ws_Mo_store { frames := 7, cells := 0, slots := 0, locals := 175 }).room s m args below meth c H locs 0 0 (MQ below (QcV D A g (fun (_ : Unit) => w_Mo g a0 out ++ (rest))) args s 0 0 A) (F0 m 227 ls []) := by
  have X1 := X
  obtain ⟨hx, hb, hml, hown, hts, hr, hlocks, hKK⟩ := X1
  have ht : ∀ w ∈ TB, w.before args s = true := fun w h => hts w (List.mem_cons_of_mem _ h)
  have hK := hKK.1
  unfold B_Mo_store_227 at h
  refine lv_aload_n hx hb d_Mo_store_227 rfl (lv_at hl 0 rfl) ?_
  refine lv_iload_n hx hb d_Mo_store_228 rfl (lv_at hl 1 rfl) ?_
  refine lv_iconst (v := 0) hx hb d_Mo_store_229 (by decide) ?_
  obtain ⟨o1, ho2, h⟩ := bd_s h
  refine cl_i (W1 := fun (_ : Unit) => w_Mo g a0 o1.2 ++ (rest)) (va_runV (As := [.int x3, .int (0 : Int32)]) (rest := []) ⟨hx, hb, hml, hown, ht⟩ (c_Mo_replies (l := l) (D := D) (A := A) (g := g) (rest := rest) (a0 := a0) ho2) (cwV 2 ht (gd_V m_1120 m_1122 mp_64 m_11 m_1123) rfl rfl rfl (by decide +kernel) ⟨(Nat.le_of_ble_eq_true rfl), (Nat.le_of_ble_eq_true rfl)⟩) (prV (ci := 9) (q0 := 0) hKK hI (List.Perm.refl _) rfl rfl rfl) rfl rfl hl.1 rfl (lv_room (Nat.le_of_ble_eq_true rfl)) d_Mo_store_230 ⟨(Nat.le_of_ble_eq_true rfl), (Nat.le_of_ble_eq_true rfl)⟩) hS (fun _ => ((List.Perm.refl _)).symm) (fun _ H locs hI hS => ?_)
  have hI : Iw D A (w_Mo g a0 o1.2 ++ (rest)) H := hI
  refine lv_pop hx hb d_Mo_store_233 rfl ?_
  have h9 := Option.some.inj h
  subst h9
  exact W.vret hx hb hr (fun t ht hW => ⟨⟨(), rfl, trivial, ⟨by rw [ht]; exact hI, hKK.moved hW⟩⟩, hS.F ht⟩) hS.2.2 d_Mo_store_234
set_option maxRecDepth 100000 in
set_option maxHeartbeats 4000000 in
theorem t_Mo_store_224 {p : Program} {l : Launch} {e : Env} {s : State} {m : MethodId} {args : Array Value} {below : List Frame} {meth : Method} {c : Code} {D : va_G} {A : Nat → Prop} {g : Nat → ClassId} {rest : va_W} {a0 : Nat → Nat} {ls : Array Slot} {H : Heap} {locs : List Loc} {s0 : S_Mo} {x3 : Int32} {y0 : Int32} {out : S_Mo} (X : Cx p s m args meth c prog_11_method_45_code 7 ws_Mo_store R_Mo none D g) (hl : lv_has ls 7 [(0, .ref (a0 0)), (3, .int x3)]) (hI : Iw D A (w_Mo g a0 s0 ++ (rest)) H) (hS : va_S A s.heap H locs) (h : B_Mo_store_224  s0 x3 y0 = some out) : W p l e (headSpec ws_Mo_store { frames := 7, cells := 0, slots := 0, locals := 175 }).room s m args below meth c H locs 0 0 (MQ below (QcV D A g (fun (_ : Unit) => w_Mo g a0 out ++ (rest))) args s 0 0 A) (F0 m 224 ls [.int y0, .ref (a0 0)]) := by
  have X1 := X
  obtain ⟨hx, hb, hml, hown, hts, hr, hlocks, hKK⟩ := X1
  have ht : ∀ w ∈ TB, w.before args s = true := fun w h => hts w (List.mem_cons_of_mem _ h)
  have hK := hKK.1
  unfold B_Mo_store_224 at h
  refine pt_Mo_records hx hb ht hown hK hI hS (ht _ m_863) d_Mo_store_224 (fun H locs hI hS => ?_)
  exact t_Mo_store_227 X (lv_sub hl [0, 1] rfl) hI hS h
set_option maxRecDepth 100000 in
set_option maxHeartbeats 4000000 in
theorem t_Mo_store_220 {p : Program} {l : Launch} {e : Env} {s : State} {m : MethodId} {args : Array Value} {below : List Frame} {meth : Method} {c : Code} {D : va_G} {A : Nat → Prop} {g : Nat → ClassId} {rest : va_W} {a0 : Nat → Nat} {ls : Array Slot} {H : Heap} {locs : List Loc} {s0 : S_Mo} {x3 : Int32} {out : S_Mo} (X : Cx p s m args meth c prog_11_method_45_code 7 ws_Mo_store R_Mo none D g) (hl : lv_has ls 7 [(0, .ref (a0 0)), (3, .int x3)]) (hI : Iw D A (w_Mo g a0 s0 ++ (rest)) H) (hS : va_S A s.heap H locs) (h : B_Mo_store_220  s0 x3 = some out) : W p l e (headSpec ws_Mo_store { frames := 7, cells := 0, slots := 0, locals := 175 }).room s m args below meth c H locs 0 0 (MQ below (QcV D A g (fun (_ : Unit) => w_Mo g a0 out ++ (rest))) args s 0 0 A) (F0 m 220 ls [.ref (a0 0)]) := by
  have X1 := X
  obtain ⟨hx, hb, hml, hown, hts, hr, hlocks, hKK⟩ := X1
  have ht : ∀ w ∈ TB, w.before args s = true := fun w h => hts w (List.mem_cons_of_mem _ h)
  have hK := hKK.1
  unfold B_Mo_store_220 at h
  refine lv_aload_n hx hb d_Mo_store_220 rfl (lv_at hl 0 rfl) ?_
  refine gt_Mo_records hx hb ht hown hK hI (ht _ m_863) d_Mo_store_221 ?_
  exact t_Mo_store_224 X (lv_sub hl [0, 1] rfl) hI hS h
set_option maxRecDepth 100000 in
set_option maxHeartbeats 4000000 in
theorem t_Mo_store_211 {p : Program} {l : Launch} {e : Env} {s : State} {m : MethodId} {args : Array Value} {below : List Frame} {meth : Method} {c : Code} {D : va_G} {A : Nat → Prop} {g : Nat → ClassId} {rest : va_W} {a0 : Nat → Nat} {ls : Array Slot} {H : Heap} {locs : List Loc} {s0 : S_Mo} {x3 : Int32} {out : S_Mo} (X : Cx p s m args meth c prog_11_method_45_code 7 ws_Mo_store R_Mo none D g) (hl : lv_has ls 7 [(0, .ref (a0 0)), (3, .int x3)]) (hI : Iw D A (w_Mo g a0 s0 ++ (rest)) H) (hS : va_S A s.heap H locs) (h : B_Mo_store_211  s0 x3 = some out) : W p l e (headSpec ws_Mo_store { frames := 7, cells := 0, slots := 0, locals := 175 }).room s m args below meth c H locs 0 0 (MQ below (QcV D A g (fun (_ : Unit) => w_Mo g a0 out ++ (rest))) args s 0 0 A) (F0 m 211 ls [.ref (a0 0)]) := by
  have X1 := X
  obtain ⟨hx, hb, hml, hown, hts, hr, hlocks, hKK⟩ := X1
  have ht : ∀ w ∈ TB, w.before args s = true := fun w h => hts w (List.mem_cons_of_mem _ h)
  have hK := hKK.1
  unfold B_Mo_store_211 at h
  refine lv_aload_n hx hb d_Mo_store_211 rfl (lv_at hl 0 rfl) ?_
  refine gt_Mo_records hx hb ht hown hK hI (ht _ m_863) d_Mo_store_212 ?_
  refine lv_iconst (v := 1) hx hb d_Mo_store_215 (by decide) ?_
  refine lv_iadd hx hb d_Mo_store_216 ?_
  refine lv_goto (tgt := 224) hx hb d_Mo_store_217 (by decide) ?_
  exact t_Mo_store_224 X (lv_sub hl [0, 1] rfl) hI hS h
set_option maxRecDepth 100000 in
set_option maxHeartbeats 4000000 in
theorem t_Mo_store_190 {p : Program} {l : Launch} {e : Env} {s : State} {m : MethodId} {args : Array Value} {below : List Frame} {meth : Method} {c : Code} {D : va_G} {A : Nat → Prop} {g : Nat → ClassId} {rest : va_W} {a0 : Nat → Nat} {ls : Array Slot} {H : Heap} {locs : List Loc} {s0 : S_Mo} {x3 : Int32} {x5 : Int32} {out : S_Mo} (X : Cx p s m args meth c prog_11_method_45_code 7 ws_Mo_store R_Mo none D g) (hl : lv_has ls 7 [(0, .ref (a0 0)), (3, .int x3), (5, .int x5)]) (hI : Iw D A (w_Mo g a0 s0 ++ (rest)) H) (hS : va_S A s.heap H locs) (h : B_Mo_store_190  s0 x3 x5 = some out) : W p l e (headSpec ws_Mo_store { frames := 7, cells := 0, slots := 0, locals := 175 }).room s m args below meth c H locs 0 0 (MQ below (QcV D A g (fun (_ : Unit) => w_Mo g a0 out ++ (rest))) args s 0 0 A) (F0 m 190 ls []) := by
  have X1 := X
  obtain ⟨hx, hb, hml, hown, hts, hr, hlocks, hKK⟩ := X1
  have ht : ∀ w ∈ TB, w.before args s = true := fun w h => hts w (List.mem_cons_of_mem _ h)
  have hK := hKK.1
  unfold B_Mo_store_190 at h
  refine lv_aload_n hx hb d_Mo_store_190 rfl (lv_at hl 0 rfl) ?_
  refine gt_Mo_lengths hx hb ht hown hK hI (ht _ m_865) d_Mo_store_191 ?_
  refine lv_iload hx hb d_Mo_store_194 (lv_at hl 2 rfl) ?_
  refine lv_aload_n hx hb d_Mo_store_196 rfl (lv_at hl 0 rfl) ?_
  refine gt_Mo_makes hx hb ht hown hK hI (ht _ m_843) d_Mo_store_197 ?_
  by_cases hc1 : (x5 < 0 ∨ 8 ≤ x5.toNatClampNeg)
  · exact no_s (it_t h hc1)
  have h := it_f h hc1
  refine as_Mo_lengths hx hb hK hI hS hc1 d_Mo_store_200 (fun H locs hI hS => ?_)
  refine lv_aload_n hx hb d_Mo_store_201 rfl (lv_at hl 0 rfl) ?_
  refine lv_iload hx hb d_Mo_store_202 (lv_at hl 2 rfl) ?_
  refine lv_aload_n hx hb d_Mo_store_204 rfl (lv_at hl 0 rfl) ?_
  refine gt_Mo_records hx hb ht hown hK hI (ht _ m_863) d_Mo_store_205 ?_
  refine lv_icmp_ne (tgt := 220) hx hb d_Mo_store_208 (by decide) (fun hc => ?_) (fun hc => ?_)
  · have h := it_f h hc
    exact t_Mo_store_220 X (lv_sub hl [0, 1] rfl) hI hS h
  · have h := it_t h hc
    exact t_Mo_store_211 X (lv_sub hl [0, 1] rfl) hI hS h
set_option maxRecDepth 100000 in
set_option maxHeartbeats 4000000 in
theorem t_Mo_store_163 {p : Program} {l : Launch} {e : Env} {s : State} {m : MethodId} {args : Array Value} {below : List Frame} {meth : Method} {c : Code} {D : va_G} {A : Nat → Prop} {g : Nat → ClassId} {rest : va_W} {a0 : Nat → Nat} {ls : Array Slot} {H : Heap} {locs : List Loc} {k154 : S_Mo × Int32 × Int32 × Int32 → Option S_Mo} {s0 : S_Mo} {x3 : Int32} {x5 : Int32} {x6 : Int32} {out : S_Mo} (X : Cx p s m args meth c prog_11_method_45_code 7 ws_Mo_store R_Mo none D g) (hk154 : ∀ (v : S_Mo × Int32 × Int32 × Int32) (ls : Array Slot) (H : Heap) (locs : List Loc), lv_has ls 7 [(0, .ref (a0 0)), (3, .int v.2.1), (5, .int v.2.2.1), (6, .int v.2.2.2)] → Iw D A (w_Mo g a0 v.1 ++ (rest)) H → va_S A s.heap H locs → k154 v = some out → W p l e (headSpec ws_Mo_store { frames := 7, cells := 0, slots := 0, locals := 175 }).room s m args below meth c H locs 0 0 (MQ below (QcV D A g (fun (_ : Unit) => w_Mo g a0 out ++ (rest))) args s 0 0 A) (F0 m 154 ls [])) (hl : lv_has ls 7 [(0, .ref (a0 0)), (3, .int x3), (5, .int x5), (6, .int x6)]) (hI : Iw D A (w_Mo g a0 s0 ++ (rest)) H) (hS : va_S A s.heap H locs) (h : B_Mo_store_163 k154 s0 x3 x5 x6 = some out) : W p l e (headSpec ws_Mo_store { frames := 7, cells := 0, slots := 0, locals := 175 }).room s m args below meth c H locs 0 0 (MQ below (QcV D A g (fun (_ : Unit) => w_Mo g a0 out ++ (rest))) args s 0 0 A) (F0 m 163 ls []) := by
  have X1 := X
  obtain ⟨hx, hb, hml, hown, hts, hr, hlocks, hKK⟩ := X1
  have ht : ∀ w ∈ TB, w.before args s = true := fun w h => hts w (List.mem_cons_of_mem _ h)
  have hK := hKK.1
  unfold B_Mo_store_163 at h
  refine lv_aload_n hx hb d_Mo_store_163 rfl (lv_at hl 0 rfl) ?_
  refine gt_Mo_kept hx hb ht hown hK hI (ht _ m_864) d_Mo_store_164 ?_
  refine lv_sipush (v := 200) hx hb d_Mo_store_167 (by decide) ?_
  refine lv_iload hx hb d_Mo_store_170 (lv_at hl 2 rfl) ?_
  refine lv_imul hx hb d_Mo_store_172 ?_
  refine lv_iload hx hb d_Mo_store_173 (lv_at hl 3 rfl) ?_
  refine lv_iadd hx hb d_Mo_store_175 ?_
  refine lv_aload_n hx hb d_Mo_store_176 rfl (lv_at hl 0 rfl) ?_
  refine gt_Mo_made hx hb ht hown hK hI (ht _ m_842) d_Mo_store_177 ?_
  refine lv_iload hx hb d_Mo_store_180 (lv_at hl 3 rfl) ?_
  by_cases hc1 : (x6 < 0 ∨ 1000 ≤ x6.toNatClampNeg)
  · exact no_s (it_t h hc1)
  have h := it_f h hc1
  refine al_Mo_made hx hb hK hI hc1 d_Mo_store_182 ?_
  by_cases hc2 : ((((200 : Int32) * x5) + x6) < 0 ∨ 1600 ≤ (((200 : Int32) * x5) + x6).toNatClampNeg)
  · exact no_s (it_t h hc2)
  have h := it_f h hc2
  refine as_Mo_kept hx hb hK hI hS hc2 d_Mo_store_183 (fun H locs hI hS => ?_)
  refine lv_iinc (k := 3) (v := (x6 + 1)) hx hb d_Mo_store_184 hl rfl (congrArg (fun z => x6 + z) (by decide)) (Nat.le_of_ble_eq_true rfl) rfl (fun ls hl => ?_)
  have hl : lv_has ls 7 [(6, .int (x6 + 1)), (0, .ref (a0 0)), (3, .int x3), (5, .int x5)] := hl
  refine lv_goto (tgt := 154) hx hb d_Mo_store_187 (by decide) ?_
  exact hk154 ((Mo_set_kept s0 (upd (Mo_kept s0) (((200 : Int32) * x5) + x6).toNatClampNeg ((Mo_made s0) x6.toNatClampNeg))), x3, x5, (x6 + 1)) _ _ _ (lv_sub hl [1, 2, 3, 0] rfl) hI hS h
set_option maxRecDepth 100000 in
set_option maxHeartbeats 4000000 in
theorem t_Mo_store_154 {p : Program} {l : Launch} {e : Env} {s : State} {m : MethodId} {args : Array Value} {below : List Frame} {meth : Method} {c : Code} {D : va_G} {A : Nat → Prop} {g : Nat → ClassId} {rest : va_W} {a0 : Nat → Nat} {ls : Array Slot} {H : Heap} {locs : List Loc} {k154 : S_Mo × Int32 × Int32 × Int32 → Option S_Mo} {s0 : S_Mo} {x3 : Int32} {x5 : Int32} {x6 : Int32} {out : S_Mo} (X : Cx p s m args meth c prog_11_method_45_code 7 ws_Mo_store R_Mo none D g) (hk154 : ∀ (v : S_Mo × Int32 × Int32 × Int32) (ls : Array Slot) (H : Heap) (locs : List Loc), lv_has ls 7 [(0, .ref (a0 0)), (3, .int v.2.1), (5, .int v.2.2.1), (6, .int v.2.2.2)] → Iw D A (w_Mo g a0 v.1 ++ (rest)) H → va_S A s.heap H locs → k154 v = some out → W p l e (headSpec ws_Mo_store { frames := 7, cells := 0, slots := 0, locals := 175 }).room s m args below meth c H locs 0 0 (MQ below (QcV D A g (fun (_ : Unit) => w_Mo g a0 out ++ (rest))) args s 0 0 A) (F0 m 154 ls [])) (hl : lv_has ls 7 [(0, .ref (a0 0)), (3, .int x3), (5, .int x5), (6, .int x6)]) (hI : Iw D A (w_Mo g a0 s0 ++ (rest)) H) (hS : va_S A s.heap H locs) (h : B_Mo_store_154 k154 s0 x3 x5 x6 = some out) : W p l e (headSpec ws_Mo_store { frames := 7, cells := 0, slots := 0, locals := 175 }).room s m args below meth c H locs 0 0 (MQ below (QcV D A g (fun (_ : Unit) => w_Mo g a0 out ++ (rest))) args s 0 0 A) (F0 m 154 ls []) := by
  have X1 := X
  obtain ⟨hx, hb, hml, hown, hts, hr, hlocks, hKK⟩ := X1
  have ht : ∀ w ∈ TB, w.before args s = true := fun w h => hts w (List.mem_cons_of_mem _ h)
  have hK := hKK.1
  unfold B_Mo_store_154 at h
  refine lv_iload hx hb d_Mo_store_154 (lv_at hl 3 rfl) ?_
  refine lv_aload_n hx hb d_Mo_store_156 rfl (lv_at hl 0 rfl) ?_
  refine gt_Mo_makes hx hb ht hown hK hI (ht _ m_843) d_Mo_store_157 ?_
  refine lv_icmp_ge (tgt := 190) hx hb d_Mo_store_160 (by decide) (fun hc => ?_) (fun hc => ?_)
  · have h := it_t h hc
    exact t_Mo_store_190 X (lv_sub hl [0, 1, 2] rfl) hI hS h
  · have h := it_f h hc
    exact t_Mo_store_163 X hk154 (lv_sub hl [0, 1, 2, 3] rfl) hI hS h
set_option maxRecDepth 100000 in
set_option maxHeartbeats 4000000 in
theorem T_Mo_store_154 {p : Program} {l : Launch} {e : Env} {s : State} {m : MethodId} {args : Array Value} {below : List Frame} {meth : Method} {c : Code} {D : va_G} {A : Nat → Prop} {g : Nat → ClassId} {rest : va_W} {a0 : Nat → Nat} {ls : Array Slot} {H : Heap} {locs : List Loc} {s0 : S_Mo} {x3 : Int32} {x5 : Int32} {x6 : Int32} {out : S_Mo} (X : Cx p s m args meth c prog_11_method_45_code 7 ws_Mo_store R_Mo none D g) (hl : lv_has ls 7 [(0, .ref (a0 0)), (3, .int x3), (5, .int x5), (6, .int x6)]) (hI : Iw D A (w_Mo g a0 s0 ++ (rest)) H) (hS : va_S A s.heap H locs) (h : L_Mo_store_154   (s0, x3, x5, x6) = some out) : W p l e (headSpec ws_Mo_store { frames := 7, cells := 0, slots := 0, locals := 175 }).room s m args below meth c H locs 0 0 (MQ below (QcV D A g (fun (_ : Unit) => w_Mo g a0 out ++ (rest))) args s 0 0 A) (F0 m 154 ls []) := by
  unfold L_Mo_store_154 at h
  exact lp_ind (P := fun v => ∀ (ls : Array Slot) (H : Heap) (locs : List Loc), lv_has ls 7 [(0, .ref (a0 0)), (3, .int v.2.1), (5, .int v.2.2.1), (6, .int v.2.2.2)] → Iw D A (w_Mo g a0 v.1 ++ (rest)) H → va_S A s.heap H locs → W p l e (headSpec ws_Mo_store { frames := 7, cells := 0, slots := 0, locals := 175 }).room s m args below meth c H locs 0 0 (MQ below (QcV D A g (fun (_ : Unit) => w_Mo g a0 out ++ (rest))) args s 0 0 A) (F0 m 154 ls [])) (fun k v ih hb ls H locs  hl hI hS => t_Mo_store_154 X  (fun v' ls H locs  hl hI hS h' => ih v' h' ls H locs  hl hI hS) hl hI hS hb) FU _ h ls H locs  hl hI hS
set_option maxRecDepth 100000 in
set_option maxHeartbeats 4000000 in
theorem t_Mo_store_144 {p : Program} {l : Launch} {e : Env} {s : State} {m : MethodId} {args : Array Value} {below : List Frame} {meth : Method} {c : Code} {D : va_G} {A : Nat → Prop} {g : Nat → ClassId} {rest : va_W} {a0 : Nat → Nat} {ls : Array Slot} {H : Heap} {locs : List Loc} {s0 : S_Mo} {x3 : Int32} {x5 : Int32} {out : S_Mo} (X : Cx p s m args meth c prog_11_method_45_code 7 ws_Mo_store R_Mo none D g) (hl : lv_has ls 7 [(0, .ref (a0 0)), (3, .int x3), (5, .int x5)]) (hI : Iw D A (w_Mo g a0 s0 ++ (rest)) H) (hS : va_S A s.heap H locs) (h : B_Mo_store_144  s0 x3 x5 = some out) : W p l e (headSpec ws_Mo_store { frames := 7, cells := 0, slots := 0, locals := 175 }).room s m args below meth c H locs 0 0 (MQ below (QcV D A g (fun (_ : Unit) => w_Mo g a0 out ++ (rest))) args s 0 0 A) (F0 m 144 ls []) := by
  have X1 := X
  obtain ⟨hx, hb, hml, hown, hts, hr, hlocks, hKK⟩ := X1
  have ht : ∀ w ∈ TB, w.before args s = true := fun w h => hts w (List.mem_cons_of_mem _ h)
  have hK := hKK.1
  unfold B_Mo_store_144 at h
  refine lv_aload_n hx hb d_Mo_store_144 rfl (lv_at hl 0 rfl) ?_
  refine lv_iconst (v := 0) hx hb d_Mo_store_145 (by decide) ?_
  refine lv_iconst (v := 0) hx hb d_Mo_store_146 (by decide) ?_
  obtain ⟨o1, ho2, h⟩ := bd_s h
  refine cl_i (W1 := fun (_ : Unit) => w_Mo g a0 o1.2 ++ (rest)) (va_runV (As := [.int (0 : Int32), .int (0 : Int32)]) (rest := []) ⟨hx, hb, hml, hown, ht⟩ (c_Mo_canonical (l := l) (D := D) (A := A) (g := g) (rest := rest) (a0 := a0) ho2) (cwV 2 ht (gd_V m_1031 m_1033 mp_47 m_11 m_1034) rfl rfl rfl (by decide +kernel) ⟨(Nat.le_of_ble_eq_true rfl), (Nat.le_of_ble_eq_true rfl)⟩) (prV (ci := 9) (q0 := 0) hKK hI (List.Perm.refl _) rfl rfl rfl) rfl rfl hl.1 rfl (lv_room (Nat.le_of_ble_eq_true rfl)) d_Mo_store_147 ⟨(Nat.le_of_ble_eq_true rfl), (Nat.le_of_ble_eq_true rfl)⟩) hS (fun _ => ((List.Perm.refl _)).symm) (fun _ H locs hI hS => ?_)
  have hI : Iw D A (w_Mo g a0 o1.2 ++ (rest)) H := hI
  refine lv_pop hx hb d_Mo_store_150 rfl ?_
  refine lv_iconst (v := 0) hx hb d_Mo_store_151 (by decide) ?_
  refine lv_istore hx hb d_Mo_store_152 hl (Nat.le_of_ble_eq_true rfl) rfl (fun ls hl => ?_)
  have hl : lv_has ls 7 [(6, .int (0 : Int32)), (0, .ref (a0 0)), (3, .int x3), (5, .int x5)] := hl
  exact T_Mo_store_154 X (lv_sub hl [1, 2, 3, 0] rfl) hI hS h
set_option maxRecDepth 100000 in
set_option maxHeartbeats 4000000 in
theorem t_Mo_store_139 {p : Program} {l : Launch} {e : Env} {s : State} {m : MethodId} {args : Array Value} {below : List Frame} {meth : Method} {c : Code} {D : va_G} {A : Nat → Prop} {g : Nat → ClassId} {rest : va_W} {a0 : Nat → Nat} {ls : Array Slot} {H : Heap} {locs : List Loc} {s0 : S_Mo} {out : S_Mo} (X : Cx p s m args meth c prog_11_method_45_code 7 ws_Mo_store R_Mo none D g) (hl : lv_has ls 7 [(0, .ref (a0 0))]) (hI : Iw D A (w_Mo g a0 s0 ++ (rest)) H) (hS : va_S A s.heap H locs) (h : B_Mo_store_139  s0 = some out) : W p l e (headSpec ws_Mo_store { frames := 7, cells := 0, slots := 0, locals := 175 }).room s m args below meth c H locs 0 0 (MQ below (QcV D A g (fun (_ : Unit) => w_Mo g a0 out ++ (rest))) args s 0 0 A) (F0 m 139 ls []) := by
  have X1 := X
  obtain ⟨hx, hb, hml, hown, hts, hr, hlocks, hKK⟩ := X1
  have ht : ∀ w ∈ TB, w.before args s = true := fun w h => hts w (List.mem_cons_of_mem _ h)
  have hK := hKK.1
  unfold B_Mo_store_139 at h
  refine lv_iconst (v := 5) hx hb d_Mo_store_139 (by decide) ?_
  refine lv_istore_n hx hb d_Mo_store_140 rfl hl (Nat.le_of_ble_eq_true rfl) rfl (fun ls hl => ?_)
  have hl : lv_has ls 7 [(3, .int (5 : Int32)), (0, .ref (a0 0))] := hl
  refine lv_goto (tgt := 227) hx hb d_Mo_store_141 (by decide) ?_
  exact t_Mo_store_227 X (lv_sub hl [1, 0] rfl) hI hS h
set_option maxRecDepth 100000 in
set_option maxHeartbeats 4000000 in
theorem t_Mo_store_122 {p : Program} {l : Launch} {e : Env} {s : State} {m : MethodId} {args : Array Value} {below : List Frame} {meth : Method} {c : Code} {D : va_G} {A : Nat → Prop} {g : Nat → ClassId} {rest : va_W} {a0 : Nat → Nat} {ls : Array Slot} {H : Heap} {locs : List Loc} {s0 : S_Mo} {x3 : Int32} {x4 : Int32} {out : S_Mo} (X : Cx p s m args meth c prog_11_method_45_code 7 ws_Mo_store R_Mo none D g) (hl : lv_has ls 7 [(0, .ref (a0 0)), (3, .int x3), (4, .int x4)]) (hI : Iw D A (w_Mo g a0 s0 ++ (rest)) H) (hS : va_S A s.heap H locs) (h : B_Mo_store_122  s0 x3 x4 = some out) : W p l e (headSpec ws_Mo_store { frames := 7, cells := 0, slots := 0, locals := 175 }).room s m args below meth c H locs 0 0 (MQ below (QcV D A g (fun (_ : Unit) => w_Mo g a0 out ++ (rest))) args s 0 0 A) (F0 m 122 ls []) := by
  have X1 := X
  obtain ⟨hx, hb, hml, hown, hts, hr, hlocks, hKK⟩ := X1
  have ht : ∀ w ∈ TB, w.before args s = true := fun w h => hts w (List.mem_cons_of_mem _ h)
  have hK := hKK.1
  unfold B_Mo_store_122 at h
  refine lv_aload_n hx hb d_Mo_store_122 rfl (lv_at hl 0 rfl) ?_
  refine lv_iload hx hb d_Mo_store_123 (lv_at hl 2 rfl) ?_
  obtain ⟨o1, ho2, h⟩ := bd_s h
  refine cl_i (W1 := fun (_ : Unit) => w_Mo g a0 o1.2 ++ (rest)) (va_runV (As := [.int x4]) (rest := []) ⟨hx, hb, hml, hown, ht⟩ (c_Mo_placeOf (l := l) (D := D) (A := A) (g := g) (rest := rest) (a0 := a0) ho2) (cwV 1 ht (gd_V m_1132 m_1134 mp_67 m_11 m_1135) rfl rfl rfl (by decide +kernel) ⟨(Nat.le_of_ble_eq_true rfl), (Nat.le_of_ble_eq_true rfl)⟩) (prV (ci := 9) (q0 := 0) hKK hI (List.Perm.refl _) rfl rfl rfl) rfl rfl hl.1 rfl (lv_room (Nat.le_of_ble_eq_true rfl)) d_Mo_store_125 ⟨(Nat.le_of_ble_eq_true rfl), (Nat.le_of_ble_eq_true rfl)⟩) hS (fun _ => ((List.Perm.refl _)).symm) (fun _ H locs hI hS => ?_)
  have hI : Iw D A (w_Mo g a0 o1.2 ++ (rest)) H := hI
  refine lv_istore hx hb d_Mo_store_128 hl (Nat.le_of_ble_eq_true rfl) rfl (fun ls hl => ?_)
  have hl : lv_has ls 7 [(5, .int o1.1), (0, .ref (a0 0)), (3, .int x3), (4, .int x4)] := hl
  refine lv_iload hx hb d_Mo_store_130 (lv_at hl 0 rfl) ?_
  refine lv_aload_n hx hb d_Mo_store_132 rfl (lv_at hl 1 rfl) ?_
  refine gt_Mo_room hx hb ht hown hK hI (ht _ m_816) d_Mo_store_133 ?_
  refine lv_icmp_ne (tgt := 144) hx hb d_Mo_store_136 (by decide) (fun hc => ?_) (fun hc => ?_)
  · have h := it_f h hc
    exact t_Mo_store_144 X (lv_sub hl [1, 2, 0] rfl) hI hS h
  · have h := it_t h hc
    exact t_Mo_store_139 X (lv_sub hl [1] rfl) hI hS h
set_option maxRecDepth 100000 in
set_option maxHeartbeats 4000000 in
theorem t_Mo_store_117 {p : Program} {l : Launch} {e : Env} {s : State} {m : MethodId} {args : Array Value} {below : List Frame} {meth : Method} {c : Code} {D : va_G} {A : Nat → Prop} {g : Nat → ClassId} {rest : va_W} {a0 : Nat → Nat} {ls : Array Slot} {H : Heap} {locs : List Loc} {s0 : S_Mo} {x3 : Int32} {x4 : Int32} {out : S_Mo} (X : Cx p s m args meth c prog_11_method_45_code 7 ws_Mo_store R_Mo none D g) (hl : lv_has ls 7 [(0, .ref (a0 0)), (3, .int x3), (4, .int x4)]) (hI : Iw D A (w_Mo g a0 s0 ++ (rest)) H) (hS : va_S A s.heap H locs) (h : B_Mo_store_117  s0 x3 x4 = some out) : W p l e (headSpec ws_Mo_store { frames := 7, cells := 0, slots := 0, locals := 175 }).room s m args below meth c H locs 0 0 (MQ below (QcV D A g (fun (_ : Unit) => w_Mo g a0 out ++ (rest))) args s 0 0 A) (F0 m 117 ls []) := by
  have X1 := X
  obtain ⟨hx, hb, hml, hown, hts, hr, hlocks, hKK⟩ := X1
  have ht : ∀ w ∈ TB, w.before args s = true := fun w h => hts w (List.mem_cons_of_mem _ h)
  have hK := hKK.1
  unfold B_Mo_store_117 at h
  refine lv_iload hx hb d_Mo_store_117 (lv_at hl 2 rfl) ?_
  refine lv_if_lt (tgt := 227) hx hb d_Mo_store_119 (by decide) (fun hc => ?_) (fun hc => ?_)
  · have h := it_t h hc
    exact t_Mo_store_227 X (lv_sub hl [0, 1] rfl) hI hS h
  · have h := it_f h hc
    exact t_Mo_store_122 X (lv_sub hl [0, 1, 2] rfl) hI hS h
set_option maxRecDepth 100000 in
set_option maxHeartbeats 4000000 in
theorem t_Mo_store_113 {p : Program} {l : Launch} {e : Env} {s : State} {m : MethodId} {args : Array Value} {below : List Frame} {meth : Method} {c : Code} {D : va_G} {A : Nat → Prop} {g : Nat → ClassId} {rest : va_W} {a0 : Nat → Nat} {ls : Array Slot} {H : Heap} {locs : List Loc} {s0 : S_Mo} {x2 : Int32} {x3 : Int32} {x4 : Int32} {out : S_Mo} (X : Cx p s m args meth c prog_11_method_45_code 7 ws_Mo_store R_Mo none D g) (hl : lv_has ls 7 [(0, .ref (a0 0)), (2, .int x2), (3, .int x3), (4, .int x4)]) (hI : Iw D A (w_Mo g a0 s0 ++ (rest)) H) (hS : va_S A s.heap H locs) (h : B_Mo_store_113  s0 x2 x3 x4 = some out) : W p l e (headSpec ws_Mo_store { frames := 7, cells := 0, slots := 0, locals := 175 }).room s m args below meth c H locs 0 0 (MQ below (QcV D A g (fun (_ : Unit) => w_Mo g a0 out ++ (rest))) args s 0 0 A) (F0 m 113 ls []) := by
  have X1 := X
  obtain ⟨hx, hb, hml, hown, hts, hr, hlocks, hKK⟩ := X1
  have ht : ∀ w ∈ TB, w.before args s = true := fun w h => hts w (List.mem_cons_of_mem _ h)
  have hK := hKK.1
  unfold B_Mo_store_113 at h
  refine lv_iload_n hx hb d_Mo_store_113 rfl (lv_at hl 1 rfl) ?_
  refine lv_if_eq (tgt := 227) hx hb d_Mo_store_114 (by decide) (fun hc => ?_) (fun hc => ?_)
  · have h := it_t h hc
    exact t_Mo_store_227 X (lv_sub hl [0, 2] rfl) hI hS h
  · have h := it_f h hc
    exact t_Mo_store_117 X (lv_sub hl [0, 2, 3] rfl) hI hS h
set_option maxRecDepth 100000 in
set_option maxHeartbeats 4000000 in
theorem t_Mo_store_111 {p : Program} {l : Launch} {e : Env} {s : State} {m : MethodId} {args : Array Value} {below : List Frame} {meth : Method} {c : Code} {D : va_G} {A : Nat → Prop} {g : Nat → ClassId} {rest : va_W} {a0 : Nat → Nat} {ls : Array Slot} {H : Heap} {locs : List Loc} {s0 : S_Mo} {x2 : Int32} {x4 : Int32} {out : S_Mo} (X : Cx p s m args meth c prog_11_method_45_code 7 ws_Mo_store R_Mo none D g) (hl : lv_has ls 7 [(0, .ref (a0 0)), (2, .int x2), (4, .int x4)]) (hI : Iw D A (w_Mo g a0 s0 ++ (rest)) H) (hS : va_S A s.heap H locs) (h : B_Mo_store_111  s0 x2 x4 = some out) : W p l e (headSpec ws_Mo_store { frames := 7, cells := 0, slots := 0, locals := 175 }).room s m args below meth c H locs 0 0 (MQ below (QcV D A g (fun (_ : Unit) => w_Mo g a0 out ++ (rest))) args s 0 0 A) (F0 m 111 ls []) := by
  have X1 := X
  obtain ⟨hx, hb, hml, hown, hts, hr, hlocks, hKK⟩ := X1
  have ht : ∀ w ∈ TB, w.before args s = true := fun w h => hts w (List.mem_cons_of_mem _ h)
  have hK := hKK.1
  unfold B_Mo_store_111 at h
  refine lv_iconst (v := 4) hx hb d_Mo_store_111 (by decide) ?_
  refine lv_istore_n hx hb d_Mo_store_112 rfl hl (Nat.le_of_ble_eq_true rfl) rfl (fun ls hl => ?_)
  have hl : lv_has ls 7 [(3, .int (4 : Int32)), (0, .ref (a0 0)), (2, .int x2), (4, .int x4)] := hl
  exact t_Mo_store_113 X (lv_sub hl [1, 2, 0, 3] rfl) hI hS h
set_option maxRecDepth 100000 in
set_option maxHeartbeats 4000000 in
theorem t_Mo_store_106 {p : Program} {l : Launch} {e : Env} {s : State} {m : MethodId} {args : Array Value} {below : List Frame} {meth : Method} {c : Code} {D : va_G} {A : Nat → Prop} {g : Nat → ClassId} {rest : va_W} {a0 : Nat → Nat} {ls : Array Slot} {H : Heap} {locs : List Loc} {s0 : S_Mo} {x2 : Int32} {x3 : Int32} {x4 : Int32} {out : S_Mo} (X : Cx p s m args meth c prog_11_method_45_code 7 ws_Mo_store R_Mo none D g) (hl : lv_has ls 7 [(0, .ref (a0 0)), (2, .int x2), (3, .int x3), (4, .int x4)]) (hI : Iw D A (w_Mo g a0 s0 ++ (rest)) H) (hS : va_S A s.heap H locs) (h : B_Mo_store_106  s0 x2 x3 x4 = some out) : W p l e (headSpec ws_Mo_store { frames := 7, cells := 0, slots := 0, locals := 175 }).room s m args below meth c H locs 0 0 (MQ below (QcV D A g (fun (_ : Unit) => w_Mo g a0 out ++ (rest))) args s 0 0 A) (F0 m 106 ls []) := by
  have X1 := X
  obtain ⟨hx, hb, hml, hown, hts, hr, hlocks, hKK⟩ := X1
  have ht : ∀ w ∈ TB, w.before args s = true := fun w h => hts w (List.mem_cons_of_mem _ h)
  have hK := hKK.1
  unfold B_Mo_store_106 at h
  refine lv_iload hx hb d_Mo_store_106 (lv_at hl 3 rfl) ?_
  refine lv_if_ge (tgt := 113) hx hb d_Mo_store_108 (by decide) (fun hc => ?_) (fun hc => ?_)
  · have h := it_t h hc
    exact t_Mo_store_113 X (lv_sub hl [0, 1, 2, 3] rfl) hI hS h
  · have h := it_f h hc
    exact t_Mo_store_111 X (lv_sub hl [0, 1, 3] rfl) hI hS h
set_option maxRecDepth 100000 in
set_option maxHeartbeats 4000000 in
theorem t_Mo_store_102 {p : Program} {l : Launch} {e : Env} {s : State} {m : MethodId} {args : Array Value} {below : List Frame} {meth : Method} {c : Code} {D : va_G} {A : Nat → Prop} {g : Nat → ClassId} {rest : va_W} {a0 : Nat → Nat} {ls : Array Slot} {H : Heap} {locs : List Loc} {s0 : S_Mo} {x2 : Int32} {x3 : Int32} {x4 : Int32} {out : S_Mo} (X : Cx p s m args meth c prog_11_method_45_code 7 ws_Mo_store R_Mo none D g) (hl : lv_has ls 7 [(0, .ref (a0 0)), (2, .int x2), (3, .int x3), (4, .int x4)]) (hI : Iw D A (w_Mo g a0 s0 ++ (rest)) H) (hS : va_S A s.heap H locs) (h : B_Mo_store_102  s0 x2 x3 x4 = some out) : W p l e (headSpec ws_Mo_store { frames := 7, cells := 0, slots := 0, locals := 175 }).room s m args below meth c H locs 0 0 (MQ below (QcV D A g (fun (_ : Unit) => w_Mo g a0 out ++ (rest))) args s 0 0 A) (F0 m 102 ls []) := by
  have X1 := X
  obtain ⟨hx, hb, hml, hown, hts, hr, hlocks, hKK⟩ := X1
  have ht : ∀ w ∈ TB, w.before args s = true := fun w h => hts w (List.mem_cons_of_mem _ h)
  have hK := hKK.1
  unfold B_Mo_store_102 at h
  refine lv_iload_n hx hb d_Mo_store_102 rfl (lv_at hl 1 rfl) ?_
  refine lv_if_eq (tgt := 113) hx hb d_Mo_store_103 (by decide) (fun hc => ?_) (fun hc => ?_)
  · have h := it_t h hc
    exact t_Mo_store_113 X (lv_sub hl [0, 1, 2, 3] rfl) hI hS h
  · have h := it_f h hc
    exact t_Mo_store_106 X (lv_sub hl [0, 1, 2, 3] rfl) hI hS h
set_option maxRecDepth 100000 in
set_option maxHeartbeats 4000000 in
theorem t_Mo_store_88 {p : Program} {l : Launch} {e : Env} {s : State} {m : MethodId} {args : Array Value} {below : List Frame} {meth : Method} {c : Code} {D : va_G} {A : Nat → Prop} {g : Nat → ClassId} {rest : va_W} {a0 : Nat → Nat} {ls : Array Slot} {H : Heap} {locs : List Loc} {k50 : S_Mo × Int32 × Int32 × Int32 × Int32 → Option S_Mo} {s0 : S_Mo} {x2 : Int32} {x3 : Int32} {x5 : Int32} {y0 : Int32} {out : S_Mo} (X : Cx p s m args meth c prog_11_method_45_code 7 ws_Mo_store R_Mo none D g) (hk50 : ∀ (v : S_Mo × Int32 × Int32 × Int32 × Int32) (ls : Array Slot) (H : Heap) (locs : List Loc), lv_has ls 7 [(0, .ref (a0 0)), (2, .int v.2.1), (3, .int v.2.2.1), (4, .int v.2.2.2.1), (5, .int v.2.2.2.2)] → Iw D A (w_Mo g a0 v.1 ++ (rest)) H → va_S A s.heap H locs → k50 v = some out → W p l e (headSpec ws_Mo_store { frames := 7, cells := 0, slots := 0, locals := 175 }).room s m args below meth c H locs 0 0 (MQ below (QcV D A g (fun (_ : Unit) => w_Mo g a0 out ++ (rest))) args s 0 0 A) (F0 m 50 ls [])) (hl : lv_has ls 7 [(0, .ref (a0 0)), (2, .int x2), (3, .int x3), (5, .int x5)]) (hI : Iw D A (w_Mo g a0 s0 ++ (rest)) H) (hS : va_S A s.heap H locs) (h : B_Mo_store_88 k50 s0 x2 x3 x5 y0 = some out) : W p l e (headSpec ws_Mo_store { frames := 7, cells := 0, slots := 0, locals := 175 }).room s m args below meth c H locs 0 0 (MQ below (QcV D A g (fun (_ : Unit) => w_Mo g a0 out ++ (rest))) args s 0 0 A) (F0 m 88 ls [.int y0]) := by
  have X1 := X
  obtain ⟨hx, hb, hml, hown, hts, hr, hlocks, hKK⟩ := X1
  have ht : ∀ w ∈ TB, w.before args s = true := fun w h => hts w (List.mem_cons_of_mem _ h)
  have hK := hKK.1
  unfold B_Mo_store_88 at h
  refine lv_istore hx hb d_Mo_store_88 hl (Nat.le_of_ble_eq_true rfl) rfl (fun ls hl => ?_)
  have hl : lv_has ls 7 [(4, .int y0), (0, .ref (a0 0)), (2, .int x2), (3, .int x3), (5, .int x5)] := hl
  refine lv_aload_n hx hb d_Mo_store_90 rfl (lv_at hl 1 rfl) ?_
  refine gt_Mo_next hx hb ht hown hK hI (ht _ m_829) d_Mo_store_91 ?_
  refine lv_iload hx hb d_Mo_store_94 (lv_at hl 4 rfl) ?_
  by_cases hc1 : (x5 < 0 ∨ 260 ≤ x5.toNatClampNeg)
  · exact no_s (it_t h hc1)
  have h := it_f h hc1
  refine al_Mo_next hx hb hK hI hc1 d_Mo_store_96 ?_
  refine lv_istore hx hb d_Mo_store_97 hl (Nat.le_of_ble_eq_true rfl) rfl (fun ls hl => ?_)
  have hl : lv_has ls 7 [(5, .int ((Mo_next s0) x5.toNatClampNeg)), (4, .int y0), (0, .ref (a0 0)), (2, .int x2), (3, .int x3)] := hl
  refine lv_goto (tgt := 50) hx hb d_Mo_store_99 (by decide) ?_
  exact hk50 (s0, x2, x3, y0, ((Mo_next s0) x5.toNatClampNeg)) _ _ _ (lv_sub hl [2, 3, 4, 1, 0] rfl) hI hS h
set_option maxRecDepth 100000 in
set_option maxHeartbeats 4000000 in
theorem t_Mo_store_86 {p : Program} {l : Launch} {e : Env} {s : State} {m : MethodId} {args : Array Value} {below : List Frame} {meth : Method} {c : Code} {D : va_G} {A : Nat → Prop} {g : Nat → ClassId} {rest : va_W} {a0 : Nat → Nat} {ls : Array Slot} {H : Heap} {locs : List Loc} {k50 : S_Mo × Int32 × Int32 × Int32 × Int32 → Option S_Mo} {s0 : S_Mo} {x2 : Int32} {x3 : Int32} {x4 : Int32} {x5 : Int32} {out : S_Mo} (X : Cx p s m args meth c prog_11_method_45_code 7 ws_Mo_store R_Mo none D g) (hk50 : ∀ (v : S_Mo × Int32 × Int32 × Int32 × Int32) (ls : Array Slot) (H : Heap) (locs : List Loc), lv_has ls 7 [(0, .ref (a0 0)), (2, .int v.2.1), (3, .int v.2.2.1), (4, .int v.2.2.2.1), (5, .int v.2.2.2.2)] → Iw D A (w_Mo g a0 v.1 ++ (rest)) H → va_S A s.heap H locs → k50 v = some out → W p l e (headSpec ws_Mo_store { frames := 7, cells := 0, slots := 0, locals := 175 }).room s m args below meth c H locs 0 0 (MQ below (QcV D A g (fun (_ : Unit) => w_Mo g a0 out ++ (rest))) args s 0 0 A) (F0 m 50 ls [])) (hl : lv_has ls 7 [(0, .ref (a0 0)), (2, .int x2), (3, .int x3), (4, .int x4), (5, .int x5)]) (hI : Iw D A (w_Mo g a0 s0 ++ (rest)) H) (hS : va_S A s.heap H locs) (h : B_Mo_store_86 k50 s0 x2 x3 x4 x5 = some out) : W p l e (headSpec ws_Mo_store { frames := 7, cells := 0, slots := 0, locals := 175 }).room s m args below meth c H locs 0 0 (MQ below (QcV D A g (fun (_ : Unit) => w_Mo g a0 out ++ (rest))) args s 0 0 A) (F0 m 86 ls []) := by
  have X1 := X
  obtain ⟨hx, hb, hml, hown, hts, hr, hlocks, hKK⟩ := X1
  have ht : ∀ w ∈ TB, w.before args s = true := fun w h => hts w (List.mem_cons_of_mem _ h)
  have hK := hKK.1
  unfold B_Mo_store_86 at h
  refine lv_iload hx hb d_Mo_store_86 (lv_at hl 3 rfl) ?_
  exact t_Mo_store_88 X hk50 (lv_sub hl [0, 1, 2, 4] rfl) hI hS h
set_option maxRecDepth 100000 in
set_option maxHeartbeats 4000000 in
theorem t_Mo_store_81 {p : Program} {l : Launch} {e : Env} {s : State} {m : MethodId} {args : Array Value} {below : List Frame} {meth : Method} {c : Code} {D : va_G} {A : Nat → Prop} {g : Nat → ClassId} {rest : va_W} {a0 : Nat → Nat} {ls : Array Slot} {H : Heap} {locs : List Loc} {k50 : S_Mo × Int32 × Int32 × Int32 × Int32 → Option S_Mo} {s0 : S_Mo} {x2 : Int32} {x3 : Int32} {x5 : Int32} {out : S_Mo} (X : Cx p s m args meth c prog_11_method_45_code 7 ws_Mo_store R_Mo none D g) (hk50 : ∀ (v : S_Mo × Int32 × Int32 × Int32 × Int32) (ls : Array Slot) (H : Heap) (locs : List Loc), lv_has ls 7 [(0, .ref (a0 0)), (2, .int v.2.1), (3, .int v.2.2.1), (4, .int v.2.2.2.1), (5, .int v.2.2.2.2)] → Iw D A (w_Mo g a0 v.1 ++ (rest)) H → va_S A s.heap H locs → k50 v = some out → W p l e (headSpec ws_Mo_store { frames := 7, cells := 0, slots := 0, locals := 175 }).room s m args below meth c H locs 0 0 (MQ below (QcV D A g (fun (_ : Unit) => w_Mo g a0 out ++ (rest))) args s 0 0 A) (F0 m 50 ls [])) (hl : lv_has ls 7 [(0, .ref (a0 0)), (2, .int x2), (3, .int x3), (5, .int x5)]) (hI : Iw D A (w_Mo g a0 s0 ++ (rest)) H) (hS : va_S A s.heap H locs) (h : B_Mo_store_81 k50 s0 x2 x3 x5 = some out) : W p l e (headSpec ws_Mo_store { frames := 7, cells := 0, slots := 0, locals := 175 }).room s m args below meth c H locs 0 0 (MQ below (QcV D A g (fun (_ : Unit) => w_Mo g a0 out ++ (rest))) args s 0 0 A) (F0 m 81 ls []) := by
  have X1 := X
  obtain ⟨hx, hb, hml, hown, hts, hr, hlocks, hKK⟩ := X1
  have ht : ∀ w ∈ TB, w.before args s = true := fun w h => hts w (List.mem_cons_of_mem _ h)
  have hK := hKK.1
  unfold B_Mo_store_81 at h
  refine lv_iload hx hb d_Mo_store_81 (lv_at hl 3 rfl) ?_
  refine lv_goto (tgt := 88) hx hb d_Mo_store_83 (by decide) ?_
  exact t_Mo_store_88 X hk50 (lv_sub hl [0, 1, 2, 3] rfl) hI hS h
set_option maxRecDepth 100000 in
set_option maxHeartbeats 4000000 in
theorem t_Mo_store_71 {p : Program} {l : Launch} {e : Env} {s : State} {m : MethodId} {args : Array Value} {below : List Frame} {meth : Method} {c : Code} {D : va_G} {A : Nat → Prop} {g : Nat → ClassId} {rest : va_W} {a0 : Nat → Nat} {ls : Array Slot} {H : Heap} {locs : List Loc} {k50 : S_Mo × Int32 × Int32 × Int32 × Int32 → Option S_Mo} {s0 : S_Mo} {x2 : Int32} {x3 : Int32} {x4 : Int32} {x5 : Int32} {out : S_Mo} (X : Cx p s m args meth c prog_11_method_45_code 7 ws_Mo_store R_Mo none D g) (hk50 : ∀ (v : S_Mo × Int32 × Int32 × Int32 × Int32) (ls : Array Slot) (H : Heap) (locs : List Loc), lv_has ls 7 [(0, .ref (a0 0)), (2, .int v.2.1), (3, .int v.2.2.1), (4, .int v.2.2.2.1), (5, .int v.2.2.2.2)] → Iw D A (w_Mo g a0 v.1 ++ (rest)) H → va_S A s.heap H locs → k50 v = some out → W p l e (headSpec ws_Mo_store { frames := 7, cells := 0, slots := 0, locals := 175 }).room s m args below meth c H locs 0 0 (MQ below (QcV D A g (fun (_ : Unit) => w_Mo g a0 out ++ (rest))) args s 0 0 A) (F0 m 50 ls [])) (hl : lv_has ls 7 [(0, .ref (a0 0)), (2, .int x2), (3, .int x3), (4, .int x4), (5, .int x5)]) (hI : Iw D A (w_Mo g a0 s0 ++ (rest)) H) (hS : va_S A s.heap H locs) (h : B_Mo_store_71 k50 s0 x2 x3 x4 x5 = some out) : W p l e (headSpec ws_Mo_store { frames := 7, cells := 0, slots := 0, locals := 175 }).room s m args below meth c H locs 0 0 (MQ below (QcV D A g (fun (_ : Unit) => w_Mo g a0 out ++ (rest))) args s 0 0 A) (F0 m 71 ls []) := by
  have X1 := X
  obtain ⟨hx, hb, hml, hown, hts, hr, hlocks, hKK⟩ := X1
  have ht : ∀ w ∈ TB, w.before args s = true := fun w h => hts w (List.mem_cons_of_mem _ h)
  have hK := hKK.1
  unfold B_Mo_store_71 at h
  refine lv_aload_n hx hb d_Mo_store_71 rfl (lv_at hl 0 rfl) ?_
  refine gt_Mo_value hx hb ht hown hK hI (ht _ m_825) d_Mo_store_72 ?_
  refine lv_iload hx hb d_Mo_store_75 (lv_at hl 4 rfl) ?_
  by_cases hc1 : (x5 < 0 ∨ 260 ≤ x5.toNatClampNeg)
  · exact no_s (it_t h hc1)
  have h := it_f h hc1
  refine al_Mo_value hx hb hK hI hc1 d_Mo_store_77 ?_
  refine lv_if_le (tgt := 86) hx hb d_Mo_store_78 (by decide) (fun hc => ?_) (fun hc => ?_)
  · have h := it_t h hc
    exact t_Mo_store_86 X hk50 (lv_sub hl [0, 1, 2, 3, 4] rfl) hI hS h
  · have h := it_f h hc
    exact t_Mo_store_81 X hk50 (lv_sub hl [0, 1, 2, 4] rfl) hI hS h
set_option maxRecDepth 100000 in
set_option maxHeartbeats 4000000 in
theorem t_Mo_store_59 {p : Program} {l : Launch} {e : Env} {s : State} {m : MethodId} {args : Array Value} {below : List Frame} {meth : Method} {c : Code} {D : va_G} {A : Nat → Prop} {g : Nat → ClassId} {rest : va_W} {a0 : Nat → Nat} {ls : Array Slot} {H : Heap} {locs : List Loc} {k50 : S_Mo × Int32 × Int32 × Int32 × Int32 → Option S_Mo} {s0 : S_Mo} {x2 : Int32} {x3 : Int32} {x4 : Int32} {x5 : Int32} {out : S_Mo} (X : Cx p s m args meth c prog_11_method_45_code 7 ws_Mo_store R_Mo none D g) (hk50 : ∀ (v : S_Mo × Int32 × Int32 × Int32 × Int32) (ls : Array Slot) (H : Heap) (locs : List Loc), lv_has ls 7 [(0, .ref (a0 0)), (2, .int v.2.1), (3, .int v.2.2.1), (4, .int v.2.2.2.1), (5, .int v.2.2.2.2)] → Iw D A (w_Mo g a0 v.1 ++ (rest)) H → va_S A s.heap H locs → k50 v = some out → W p l e (headSpec ws_Mo_store { frames := 7, cells := 0, slots := 0, locals := 175 }).room s m args below meth c H locs 0 0 (MQ below (QcV D A g (fun (_ : Unit) => w_Mo g a0 out ++ (rest))) args s 0 0 A) (F0 m 50 ls [])) (hl : lv_has ls 7 [(0, .ref (a0 0)), (2, .int x2), (3, .int x3), (4, .int x4), (5, .int x5)]) (hI : Iw D A (w_Mo g a0 s0 ++ (rest)) H) (hS : va_S A s.heap H locs) (h : B_Mo_store_59 k50 s0 x2 x3 x4 x5 = some out) : W p l e (headSpec ws_Mo_store { frames := 7, cells := 0, slots := 0, locals := 175 }).room s m args below meth c H locs 0 0 (MQ below (QcV D A g (fun (_ : Unit) => w_Mo g a0 out ++ (rest))) args s 0 0 A) (F0 m 59 ls []) := by
  have X1 := X
  obtain ⟨hx, hb, hml, hown, hts, hr, hlocks, hKK⟩ := X1
  have ht : ∀ w ∈ TB, w.before args s = true := fun w h => hts w (List.mem_cons_of_mem _ h)
  have hK := hKK.1
  unfold B_Mo_store_59 at h
  refine lv_aload_n hx hb d_Mo_store_59 rfl (lv_at hl 0 rfl) ?_
  refine gt_Mo_tag hx hb ht hown hK hI (ht _ m_824) d_Mo_store_60 ?_
  refine lv_iload hx hb d_Mo_store_63 (lv_at hl 4 rfl) ?_
  by_cases hc1 : (x5 < 0 ∨ 260 ≤ x5.toNatClampNeg)
  · exact no_s (it_t h hc1)
  have h := it_f h hc1
  refine al_Mo_tag hx hb hK hI hc1 d_Mo_store_65 ?_
  refine lv_bipush (v := 80) hx hb d_Mo_store_66 (by decide) ?_
  refine lv_icmp_ne (tgt := 86) hx hb d_Mo_store_68 (by decide) (fun hc => ?_) (fun hc => ?_)
  · have h := it_f h hc
    exact t_Mo_store_86 X hk50 (lv_sub hl [0, 1, 2, 3, 4] rfl) hI hS h
  · have h := it_t h hc
    exact t_Mo_store_71 X hk50 (lv_sub hl [0, 1, 2, 3, 4] rfl) hI hS h
set_option maxRecDepth 100000 in
set_option maxHeartbeats 4000000 in
theorem t_Mo_store_55 {p : Program} {l : Launch} {e : Env} {s : State} {m : MethodId} {args : Array Value} {below : List Frame} {meth : Method} {c : Code} {D : va_G} {A : Nat → Prop} {g : Nat → ClassId} {rest : va_W} {a0 : Nat → Nat} {ls : Array Slot} {H : Heap} {locs : List Loc} {k50 : S_Mo × Int32 × Int32 × Int32 × Int32 → Option S_Mo} {s0 : S_Mo} {x2 : Int32} {x3 : Int32} {x4 : Int32} {x5 : Int32} {out : S_Mo} (X : Cx p s m args meth c prog_11_method_45_code 7 ws_Mo_store R_Mo none D g) (hk50 : ∀ (v : S_Mo × Int32 × Int32 × Int32 × Int32) (ls : Array Slot) (H : Heap) (locs : List Loc), lv_has ls 7 [(0, .ref (a0 0)), (2, .int v.2.1), (3, .int v.2.2.1), (4, .int v.2.2.2.1), (5, .int v.2.2.2.2)] → Iw D A (w_Mo g a0 v.1 ++ (rest)) H → va_S A s.heap H locs → k50 v = some out → W p l e (headSpec ws_Mo_store { frames := 7, cells := 0, slots := 0, locals := 175 }).room s m args below meth c H locs 0 0 (MQ below (QcV D A g (fun (_ : Unit) => w_Mo g a0 out ++ (rest))) args s 0 0 A) (F0 m 50 ls [])) (hl : lv_has ls 7 [(0, .ref (a0 0)), (2, .int x2), (3, .int x3), (4, .int x4), (5, .int x5)]) (hI : Iw D A (w_Mo g a0 s0 ++ (rest)) H) (hS : va_S A s.heap H locs) (h : B_Mo_store_55 k50 s0 x2 x3 x4 x5 = some out) : W p l e (headSpec ws_Mo_store { frames := 7, cells := 0, slots := 0, locals := 175 }).room s m args below meth c H locs 0 0 (MQ below (QcV D A g (fun (_ : Unit) => w_Mo g a0 out ++ (rest))) args s 0 0 A) (F0 m 55 ls []) := by
  have X1 := X
  obtain ⟨hx, hb, hml, hown, hts, hr, hlocks, hKK⟩ := X1
  have ht : ∀ w ∈ TB, w.before args s = true := fun w h => hts w (List.mem_cons_of_mem _ h)
  have hK := hKK.1
  unfold B_Mo_store_55 at h
  refine lv_iload_n hx hb d_Mo_store_55 rfl (lv_at hl 1 rfl) ?_
  refine lv_if_eq (tgt := 102) hx hb d_Mo_store_56 (by decide) (fun hc => ?_) (fun hc => ?_)
  · have h := it_t h hc
    exact t_Mo_store_102 X (lv_sub hl [0, 1, 2, 3] rfl) hI hS h
  · have h := it_f h hc
    exact t_Mo_store_59 X hk50 (lv_sub hl [0, 1, 2, 3, 4] rfl) hI hS h
set_option maxRecDepth 100000 in
set_option maxHeartbeats 4000000 in
theorem t_Mo_store_50 {p : Program} {l : Launch} {e : Env} {s : State} {m : MethodId} {args : Array Value} {below : List Frame} {meth : Method} {c : Code} {D : va_G} {A : Nat → Prop} {g : Nat → ClassId} {rest : va_W} {a0 : Nat → Nat} {ls : Array Slot} {H : Heap} {locs : List Loc} {k50 : S_Mo × Int32 × Int32 × Int32 × Int32 → Option S_Mo} {s0 : S_Mo} {x2 : Int32} {x3 : Int32} {x4 : Int32} {x5 : Int32} {out : S_Mo} (X : Cx p s m args meth c prog_11_method_45_code 7 ws_Mo_store R_Mo none D g) (hk50 : ∀ (v : S_Mo × Int32 × Int32 × Int32 × Int32) (ls : Array Slot) (H : Heap) (locs : List Loc), lv_has ls 7 [(0, .ref (a0 0)), (2, .int v.2.1), (3, .int v.2.2.1), (4, .int v.2.2.2.1), (5, .int v.2.2.2.2)] → Iw D A (w_Mo g a0 v.1 ++ (rest)) H → va_S A s.heap H locs → k50 v = some out → W p l e (headSpec ws_Mo_store { frames := 7, cells := 0, slots := 0, locals := 175 }).room s m args below meth c H locs 0 0 (MQ below (QcV D A g (fun (_ : Unit) => w_Mo g a0 out ++ (rest))) args s 0 0 A) (F0 m 50 ls [])) (hl : lv_has ls 7 [(0, .ref (a0 0)), (2, .int x2), (3, .int x3), (4, .int x4), (5, .int x5)]) (hI : Iw D A (w_Mo g a0 s0 ++ (rest)) H) (hS : va_S A s.heap H locs) (h : B_Mo_store_50 k50 s0 x2 x3 x4 x5 = some out) : W p l e (headSpec ws_Mo_store { frames := 7, cells := 0, slots := 0, locals := 175 }).room s m args below meth c H locs 0 0 (MQ below (QcV D A g (fun (_ : Unit) => w_Mo g a0 out ++ (rest))) args s 0 0 A) (F0 m 50 ls []) := by
  have X1 := X
  obtain ⟨hx, hb, hml, hown, hts, hr, hlocks, hKK⟩ := X1
  have ht : ∀ w ∈ TB, w.before args s = true := fun w h => hts w (List.mem_cons_of_mem _ h)
  have hK := hKK.1
  unfold B_Mo_store_50 at h
  refine lv_iload hx hb d_Mo_store_50 (lv_at hl 4 rfl) ?_
  refine lv_if_lt (tgt := 102) hx hb d_Mo_store_52 (by decide) (fun hc => ?_) (fun hc => ?_)
  · have h := it_t h hc
    exact t_Mo_store_102 X (lv_sub hl [0, 1, 2, 3] rfl) hI hS h
  · have h := it_f h hc
    exact t_Mo_store_55 X hk50 (lv_sub hl [0, 1, 2, 3, 4] rfl) hI hS h
set_option maxRecDepth 100000 in
set_option maxHeartbeats 4000000 in
theorem T_Mo_store_50 {p : Program} {l : Launch} {e : Env} {s : State} {m : MethodId} {args : Array Value} {below : List Frame} {meth : Method} {c : Code} {D : va_G} {A : Nat → Prop} {g : Nat → ClassId} {rest : va_W} {a0 : Nat → Nat} {ls : Array Slot} {H : Heap} {locs : List Loc} {s0 : S_Mo} {x2 : Int32} {x3 : Int32} {x4 : Int32} {x5 : Int32} {out : S_Mo} (X : Cx p s m args meth c prog_11_method_45_code 7 ws_Mo_store R_Mo none D g) (hl : lv_has ls 7 [(0, .ref (a0 0)), (2, .int x2), (3, .int x3), (4, .int x4), (5, .int x5)]) (hI : Iw D A (w_Mo g a0 s0 ++ (rest)) H) (hS : va_S A s.heap H locs) (h : L_Mo_store_50   (s0, x2, x3, x4, x5) = some out) : W p l e (headSpec ws_Mo_store { frames := 7, cells := 0, slots := 0, locals := 175 }).room s m args below meth c H locs 0 0 (MQ below (QcV D A g (fun (_ : Unit) => w_Mo g a0 out ++ (rest))) args s 0 0 A) (F0 m 50 ls []) := by
  unfold L_Mo_store_50 at h
  exact lp_ind (P := fun v => ∀ (ls : Array Slot) (H : Heap) (locs : List Loc), lv_has ls 7 [(0, .ref (a0 0)), (2, .int v.2.1), (3, .int v.2.2.1), (4, .int v.2.2.2.1), (5, .int v.2.2.2.2)] → Iw D A (w_Mo g a0 v.1 ++ (rest)) H → va_S A s.heap H locs → W p l e (headSpec ws_Mo_store { frames := 7, cells := 0, slots := 0, locals := 175 }).room s m args below meth c H locs 0 0 (MQ below (QcV D A g (fun (_ : Unit) => w_Mo g a0 out ++ (rest))) args s 0 0 A) (F0 m 50 ls [])) (fun k v ih hb ls H locs  hl hI hS => t_Mo_store_50 X  (fun v' ls H locs  hl hI hS h' => ih v' h' ls H locs  hl hI hS) hl hI hS hb) FU _ h ls H locs  hl hI hS
set_option maxRecDepth 100000 in
set_option maxHeartbeats 4000000 in
theorem t_Mo_store_38 {p : Program} {l : Launch} {e : Env} {s : State} {m : MethodId} {args : Array Value} {below : List Frame} {meth : Method} {c : Code} {D : va_G} {A : Nat → Prop} {g : Nat → ClassId} {rest : va_W} {a0 : Nat → Nat} {ls : Array Slot} {H : Heap} {locs : List Loc} {s0 : S_Mo} {x2 : Int32} {y0 : Int32} {out : S_Mo} (X : Cx p s m args meth c prog_11_method_45_code 7 ws_Mo_store R_Mo none D g) (hl : lv_has ls 7 [(0, .ref (a0 0)), (2, .int x2)]) (hI : Iw D A (w_Mo g a0 s0 ++ (rest)) H) (hS : va_S A s.heap H locs) (h : B_Mo_store_38  s0 x2 y0 = some out) : W p l e (headSpec ws_Mo_store { frames := 7, cells := 0, slots := 0, locals := 175 }).room s m args below meth c H locs 0 0 (MQ below (QcV D A g (fun (_ : Unit) => w_Mo g a0 out ++ (rest))) args s 0 0 A) (F0 m 38 ls [.int y0]) := by
  have X1 := X
  obtain ⟨hx, hb, hml, hown, hts, hr, hlocks, hKK⟩ := X1
  have ht : ∀ w ∈ TB, w.before args s = true := fun w h => hts w (List.mem_cons_of_mem _ h)
  have hK := hKK.1
  unfold B_Mo_store_38 at h
  refine lv_istore_n hx hb d_Mo_store_38 rfl hl (Nat.le_of_ble_eq_true rfl) rfl (fun ls hl => ?_)
  have hl : lv_has ls 7 [(3, .int y0), (0, .ref (a0 0)), (2, .int x2)] := hl
  refine lv_iconst (v := (-1)) hx hb d_Mo_store_39 (by decide) ?_
  refine lv_istore hx hb d_Mo_store_40 hl (Nat.le_of_ble_eq_true rfl) rfl (fun ls hl => ?_)
  have hl : lv_has ls 7 [(4, .int ((-1) : Int32)), (3, .int y0), (0, .ref (a0 0)), (2, .int x2)] := hl
  refine lv_aload_n hx hb d_Mo_store_42 rfl (lv_at hl 2 rfl) ?_
  refine gt_Mo_first hx hb ht hown hK hI (ht _ m_828) d_Mo_store_43 ?_
  refine lv_iconst (v := 0) hx hb d_Mo_store_46 (by decide) ?_
  by_cases hc1 : ((0 : Int32) < 0 ∨ 260 ≤ (0 : Int32).toNatClampNeg)
  · exact no_s (it_t h hc1)
  have h := it_f h hc1
  refine al_Mo_first hx hb hK hI hc1 d_Mo_store_47 ?_
  refine lv_istore hx hb d_Mo_store_48 hl (Nat.le_of_ble_eq_true rfl) rfl (fun ls hl => ?_)
  have hl : lv_has ls 7 [(5, .int ((Mo_first s0) (0 : Int32).toNatClampNeg)), (4, .int ((-1) : Int32)), (3, .int y0), (0, .ref (a0 0)), (2, .int x2)] := hl
  exact T_Mo_store_50 X (lv_sub hl [3, 4, 2, 1, 0] rfl) hI hS h
set_option maxRecDepth 100000 in
set_option maxHeartbeats 4000000 in
theorem t_Mo_store_37 {p : Program} {l : Launch} {e : Env} {s : State} {m : MethodId} {args : Array Value} {below : List Frame} {meth : Method} {c : Code} {D : va_G} {A : Nat → Prop} {g : Nat → ClassId} {rest : va_W} {a0 : Nat → Nat} {ls : Array Slot} {H : Heap} {locs : List Loc} {s0 : S_Mo} {x2 : Int32} {out : S_Mo} (X : Cx p s m args meth c prog_11_method_45_code 7 ws_Mo_store R_Mo none D g) (hl : lv_has ls 7 [(0, .ref (a0 0)), (2, .int x2)]) (hI : Iw D A (w_Mo g a0 s0 ++ (rest)) H) (hS : va_S A s.heap H locs) (h : B_Mo_store_37  s0 x2 = some out) : W p l e (headSpec ws_Mo_store { frames := 7, cells := 0, slots := 0, locals := 175 }).room s m args below meth c H locs 0 0 (MQ below (QcV D A g (fun (_ : Unit) => w_Mo g a0 out ++ (rest))) args s 0 0 A) (F0 m 37 ls []) := by
  have X1 := X
  obtain ⟨hx, hb, hml, hown, hts, hr, hlocks, hKK⟩ := X1
  have ht : ∀ w ∈ TB, w.before args s = true := fun w h => hts w (List.mem_cons_of_mem _ h)
  have hK := hKK.1
  unfold B_Mo_store_37 at h
  refine lv_iconst (v := 0) hx hb d_Mo_store_37 (by decide) ?_
  exact t_Mo_store_38 X (lv_sub hl [0, 1] rfl) hI hS h
set_option maxRecDepth 100000 in
set_option maxHeartbeats 4000000 in
theorem t_Mo_store_33 {p : Program} {l : Launch} {e : Env} {s : State} {m : MethodId} {args : Array Value} {below : List Frame} {meth : Method} {c : Code} {D : va_G} {A : Nat → Prop} {g : Nat → ClassId} {rest : va_W} {a0 : Nat → Nat} {ls : Array Slot} {H : Heap} {locs : List Loc} {s0 : S_Mo} {x2 : Int32} {out : S_Mo} (X : Cx p s m args meth c prog_11_method_45_code 7 ws_Mo_store R_Mo none D g) (hl : lv_has ls 7 [(0, .ref (a0 0)), (2, .int x2)]) (hI : Iw D A (w_Mo g a0 s0 ++ (rest)) H) (hS : va_S A s.heap H locs) (h : B_Mo_store_33  s0 x2 = some out) : W p l e (headSpec ws_Mo_store { frames := 7, cells := 0, slots := 0, locals := 175 }).room s m args below meth c H locs 0 0 (MQ below (QcV D A g (fun (_ : Unit) => w_Mo g a0 out ++ (rest))) args s 0 0 A) (F0 m 33 ls []) := by
  have X1 := X
  obtain ⟨hx, hb, hml, hown, hts, hr, hlocks, hKK⟩ := X1
  have ht : ∀ w ∈ TB, w.before args s = true := fun w h => hts w (List.mem_cons_of_mem _ h)
  have hK := hKK.1
  unfold B_Mo_store_33 at h
  refine lv_iconst (v := 3) hx hb d_Mo_store_33 (by decide) ?_
  refine lv_goto (tgt := 38) hx hb d_Mo_store_34 (by decide) ?_
  exact t_Mo_store_38 X (lv_sub hl [0, 1] rfl) hI hS h
set_option maxRecDepth 100000 in
set_option maxHeartbeats 4000000 in
theorem t_Mo_store_28 {p : Program} {l : Launch} {e : Env} {s : State} {m : MethodId} {args : Array Value} {below : List Frame} {meth : Method} {c : Code} {D : va_G} {A : Nat → Prop} {g : Nat → ClassId} {rest : va_W} {a0 : Nat → Nat} {ls : Array Slot} {H : Heap} {locs : List Loc} {s0 : S_Mo} {y0 : Int32} {out : S_Mo} (X : Cx p s m args meth c prog_11_method_45_code 7 ws_Mo_store R_Mo none D g) (hl : lv_has ls 7 [(0, .ref (a0 0))]) (hI : Iw D A (w_Mo g a0 s0 ++ (rest)) H) (hS : va_S A s.heap H locs) (h : B_Mo_store_28  s0 y0 = some out) : W p l e (headSpec ws_Mo_store { frames := 7, cells := 0, slots := 0, locals := 175 }).room s m args below meth c H locs 0 0 (MQ below (QcV D A g (fun (_ : Unit) => w_Mo g a0 out ++ (rest))) args s 0 0 A) (F0 m 28 ls [.int y0]) := by
  have X1 := X
  obtain ⟨hx, hb, hml, hown, hts, hr, hlocks, hKK⟩ := X1
  have ht : ∀ w ∈ TB, w.before args s = true := fun w h => hts w (List.mem_cons_of_mem _ h)
  have hK := hKK.1
  unfold B_Mo_store_28 at h
  refine lv_istore_n hx hb d_Mo_store_28 rfl hl (Nat.le_of_ble_eq_true rfl) rfl (fun ls hl => ?_)
  have hl : lv_has ls 7 [(2, .int y0), (0, .ref (a0 0))] := hl
  refine lv_iload_n hx hb d_Mo_store_29 rfl (lv_at hl 0 rfl) ?_
  refine lv_if_ne (tgt := 37) hx hb d_Mo_store_30 (by decide) (fun hc => ?_) (fun hc => ?_)
  · have h := it_f h hc
    exact t_Mo_store_37 X (lv_sub hl [1, 0] rfl) hI hS h
  · have h := it_t h hc
    exact t_Mo_store_33 X (lv_sub hl [1, 0] rfl) hI hS h
set_option maxRecDepth 100000 in
set_option maxHeartbeats 4000000 in
theorem t_Mo_store_27 {p : Program} {l : Launch} {e : Env} {s : State} {m : MethodId} {args : Array Value} {below : List Frame} {meth : Method} {c : Code} {D : va_G} {A : Nat → Prop} {g : Nat → ClassId} {rest : va_W} {a0 : Nat → Nat} {ls : Array Slot} {H : Heap} {locs : List Loc} {s0 : S_Mo} {out : S_Mo} (X : Cx p s m args meth c prog_11_method_45_code 7 ws_Mo_store R_Mo none D g) (hl : lv_has ls 7 [(0, .ref (a0 0))]) (hI : Iw D A (w_Mo g a0 s0 ++ (rest)) H) (hS : va_S A s.heap H locs) (h : B_Mo_store_27  s0 = some out) : W p l e (headSpec ws_Mo_store { frames := 7, cells := 0, slots := 0, locals := 175 }).room s m args below meth c H locs 0 0 (MQ below (QcV D A g (fun (_ : Unit) => w_Mo g a0 out ++ (rest))) args s 0 0 A) (F0 m 27 ls []) := by
  have X1 := X
  obtain ⟨hx, hb, hml, hown, hts, hr, hlocks, hKK⟩ := X1
  have ht : ∀ w ∈ TB, w.before args s = true := fun w h => hts w (List.mem_cons_of_mem _ h)
  have hK := hKK.1
  unfold B_Mo_store_27 at h
  refine lv_iconst (v := 0) hx hb d_Mo_store_27 (by decide) ?_
  exact t_Mo_store_28 X (lv_sub hl [0] rfl) hI hS h
set_option maxRecDepth 100000 in
set_option maxHeartbeats 4000000 in
theorem t_Mo_store_23 {p : Program} {l : Launch} {e : Env} {s : State} {m : MethodId} {args : Array Value} {below : List Frame} {meth : Method} {c : Code} {D : va_G} {A : Nat → Prop} {g : Nat → ClassId} {rest : va_W} {a0 : Nat → Nat} {ls : Array Slot} {H : Heap} {locs : List Loc} {s0 : S_Mo} {out : S_Mo} (X : Cx p s m args meth c prog_11_method_45_code 7 ws_Mo_store R_Mo none D g) (hl : lv_has ls 7 [(0, .ref (a0 0))]) (hI : Iw D A (w_Mo g a0 s0 ++ (rest)) H) (hS : va_S A s.heap H locs) (h : B_Mo_store_23  s0 = some out) : W p l e (headSpec ws_Mo_store { frames := 7, cells := 0, slots := 0, locals := 175 }).room s m args below meth c H locs 0 0 (MQ below (QcV D A g (fun (_ : Unit) => w_Mo g a0 out ++ (rest))) args s 0 0 A) (F0 m 23 ls []) := by
  have X1 := X
  obtain ⟨hx, hb, hml, hown, hts, hr, hlocks, hKK⟩ := X1
  have ht : ∀ w ∈ TB, w.before args s = true := fun w h => hts w (List.mem_cons_of_mem _ h)
  have hK := hKK.1
  unfold B_Mo_store_23 at h
  refine lv_iconst (v := 1) hx hb d_Mo_store_23 (by decide) ?_
  refine lv_goto (tgt := 28) hx hb d_Mo_store_24 (by decide) ?_
  exact t_Mo_store_28 X (lv_sub hl [0] rfl) hI hS h
set_option maxRecDepth 100000 in
set_option maxHeartbeats 4000000 in
theorem t_Mo_store_13 {p : Program} {l : Launch} {e : Env} {s : State} {m : MethodId} {args : Array Value} {below : List Frame} {meth : Method} {c : Code} {D : va_G} {A : Nat → Prop} {g : Nat → ClassId} {rest : va_W} {a0 : Nat → Nat} {ls : Array Slot} {H : Heap} {locs : List Loc} {s0 : S_Mo} {out : S_Mo} (X : Cx p s m args meth c prog_11_method_45_code 7 ws_Mo_store R_Mo none D g) (hl : lv_has ls 7 [(0, .ref (a0 0))]) (hI : Iw D A (w_Mo g a0 s0 ++ (rest)) H) (hS : va_S A s.heap H locs) (h : B_Mo_store_13  s0 = some out) : W p l e (headSpec ws_Mo_store { frames := 7, cells := 0, slots := 0, locals := 175 }).room s m args below meth c H locs 0 0 (MQ below (QcV D A g (fun (_ : Unit) => w_Mo g a0 out ++ (rest))) args s 0 0 A) (F0 m 13 ls []) := by
  have X1 := X
  obtain ⟨hx, hb, hml, hown, hts, hr, hlocks, hKK⟩ := X1
  have ht : ∀ w ∈ TB, w.before args s = true := fun w h => hts w (List.mem_cons_of_mem _ h)
  have hK := hKK.1
  unfold B_Mo_store_13 at h
  refine lv_aload_n hx hb d_Mo_store_13 rfl (lv_at hl 0 rfl) ?_
  refine gt_Mo_makes hx hb ht hown hK hI (ht _ m_843) d_Mo_store_14 ?_
  refine lv_sipush (v := 198) hx hb d_Mo_store_17 (by decide) ?_
  refine lv_icmp_gt (tgt := 27) hx hb d_Mo_store_20 (by decide) (fun hc => ?_) (fun hc => ?_)
  · have h := it_t h hc
    exact t_Mo_store_27 X (lv_sub hl [0] rfl) hI hS h
  · have h := it_f h hc
    exact t_Mo_store_23 X (lv_sub hl [0] rfl) hI hS h
set_option maxRecDepth 100000 in
set_option maxHeartbeats 4000000 in
theorem t_Mo_store_4 {p : Program} {l : Launch} {e : Env} {s : State} {m : MethodId} {args : Array Value} {below : List Frame} {meth : Method} {c : Code} {D : va_G} {A : Nat → Prop} {g : Nat → ClassId} {rest : va_W} {a0 : Nat → Nat} {ls : Array Slot} {H : Heap} {locs : List Loc} {s0 : S_Mo} {out : S_Mo} (X : Cx p s m args meth c prog_11_method_45_code 7 ws_Mo_store R_Mo none D g) (hl : lv_has ls 7 [(0, .ref (a0 0))]) (hI : Iw D A (w_Mo g a0 s0 ++ (rest)) H) (hS : va_S A s.heap H locs) (h : B_Mo_store_4  s0 = some out) : W p l e (headSpec ws_Mo_store { frames := 7, cells := 0, slots := 0, locals := 175 }).room s m args below meth c H locs 0 0 (MQ below (QcV D A g (fun (_ : Unit) => w_Mo g a0 out ++ (rest))) args s 0 0 A) (F0 m 4 ls []) := by
  have X1 := X
  obtain ⟨hx, hb, hml, hown, hts, hr, hlocks, hKK⟩ := X1
  have ht : ∀ w ∈ TB, w.before args s = true := fun w h => hts w (List.mem_cons_of_mem _ h)
  have hK := hKK.1
  unfold B_Mo_store_4 at h
  refine lv_aload_n hx hb d_Mo_store_4 rfl (lv_at hl 0 rfl) ?_
  refine lv_iconst (v := 0) hx hb d_Mo_store_5 (by decide) ?_
  refine lv_iconst (v := 0) hx hb d_Mo_store_6 (by decide) ?_
  obtain ⟨o1, ho2, h⟩ := bd_s h
  refine cl_i (W1 := fun (_ : Unit) => w_Mo g a0 o1.2 ++ (rest)) (va_runV (As := [.int (0 : Int32), .int (0 : Int32)]) (rest := []) ⟨hx, hb, hml, hown, ht⟩ (c_Mo_canonical (l := l) (D := D) (A := A) (g := g) (rest := rest) (a0 := a0) ho2) (cwV 2 ht (gd_V m_1031 m_1033 mp_47 m_11 m_1034) rfl rfl rfl (by decide +kernel) ⟨(Nat.le_of_ble_eq_true rfl), (Nat.le_of_ble_eq_true rfl)⟩) (prV (ci := 9) (q0 := 0) hKK hI (List.Perm.refl _) rfl rfl rfl) rfl rfl hl.1 rfl (lv_room (Nat.le_of_ble_eq_true rfl)) d_Mo_store_7 ⟨(Nat.le_of_ble_eq_true rfl), (Nat.le_of_ble_eq_true rfl)⟩) hS (fun _ => ((List.Perm.refl _)).symm) (fun _ H locs hI hS => ?_)
  have hI : Iw D A (w_Mo g a0 o1.2 ++ (rest)) H := hI
  refine lv_if_eq (tgt := 27) hx hb d_Mo_store_10 (by decide) (fun hc => ?_) (fun hc => ?_)
  · have h := it_t h hc
    exact t_Mo_store_27 X (lv_sub hl [0] rfl) hI hS h
  · have h := it_f h hc
    exact t_Mo_store_13 X (lv_sub hl [0] rfl) hI hS h
set_option maxRecDepth 100000 in
set_option maxHeartbeats 4000000 in
theorem t_Mo_store_0 {p : Program} {l : Launch} {e : Env} {s : State} {m : MethodId} {args : Array Value} {below : List Frame} {meth : Method} {c : Code} {D : va_G} {A : Nat → Prop} {g : Nat → ClassId} {rest : va_W} {a0 : Nat → Nat} {ls : Array Slot} {H : Heap} {locs : List Loc} {s0 : S_Mo} {x1 : Int32} {out : S_Mo} (X : Cx p s m args meth c prog_11_method_45_code 7 ws_Mo_store R_Mo none D g) (hl : lv_has ls 7 [(0, .ref (a0 0)), (1, .int x1)]) (hI : Iw D A (w_Mo g a0 s0 ++ (rest)) H) (hS : va_S A s.heap H locs) (h : B_Mo_store_0  s0 x1 = some out) : W p l e (headSpec ws_Mo_store { frames := 7, cells := 0, slots := 0, locals := 175 }).room s m args below meth c H locs 0 0 (MQ below (QcV D A g (fun (_ : Unit) => w_Mo g a0 out ++ (rest))) args s 0 0 A) (F0 m 0 ls []) := by
  have X1 := X
  obtain ⟨hx, hb, hml, hown, hts, hr, hlocks, hKK⟩ := X1
  have ht : ∀ w ∈ TB, w.before args s = true := fun w h => hts w (List.mem_cons_of_mem _ h)
  have hK := hKK.1
  unfold B_Mo_store_0 at h
  refine lv_iload_n hx hb d_Mo_store_0 rfl (lv_at hl 1 rfl) ?_
  refine lv_if_eq (tgt := 27) hx hb d_Mo_store_1 (by decide) (fun hc => ?_) (fun hc => ?_)
  · have h := it_t h hc
    exact t_Mo_store_27 X (lv_sub hl [0] rfl) hI hS h
  · have h := it_f h hc
    exact t_Mo_store_4 X (lv_sub hl [0] rfl) hI hS h
set_option maxRecDepth 100000 in
set_option maxHeartbeats 4000000 in
theorem c_Mo_store {l : Launch} {D : va_G} {A : Nat → Prop} {g : Nat → ClassId} {rest : va_W} {a0 : Nat → Nat} {s0 : S_Mo} {x1 : Int32} {out : S_Mo} (h : F_Mo_store s0 x1 = some out) : Met l y_Mo_store ws_Mo_store { frames := 7, cells := 0, slots := 0, locals := 175 } (PcW D A g [.ref (a0 0), .int x1] (w_Mo g a0 s0 ++ (rest))) (QcV D A g (fun (_ : Unit) => w_Mo g a0 out ++ (rest))) 0 0 A := by
  refine Met.ofW (cc := prog_11_method_45_code) (maxL := 7) (ret := none) (by decide) rfl ?_
  intro p e s m args below meth c s₁ B hml hv
  obtain ⟨rfl, hI, hK⟩ := hv
  have hl := lv_entry [.ref (a0 0), .int x1] (n := 7) (Nat.le_of_ble_eq_true rfl)
  rw [lg_entry_eq]
  generalize (lg_sl [.ref (a0 0), .int x1] ++ List.replicate (7 - (lg_sl [.ref (a0 0), .int x1]).length) Slot.unset).toArray = ls at hl ⊢
  have hl : lv_has ls 7 [(0, .ref (a0 0)), (1, .int x1)] := hl
  exact t_Mo_store_0 ⟨B.exec, B.bytes, hml, findClass_of_methodNamed B.named, atoms_spec (ws := ws_Mo_store) B.pre, B.returns, B.notSynchronized, hK⟩ (lv_sub hl [0, 1] rfl) hI va_S.rf h
def ws_Mo_answer : List Cond := .code y_Mo_answer prog_11_method_44_code 5 none :: TB
def B_Mo_answer_148 (s0 : S_Mo) : Option S_Mo :=
  ((F_Mo_forget s0).bind fun o1 => some o1)
def B_Mo_answer_143 (s0 : S_Mo) (x2 : Int32) : Option S_Mo :=
  ((F_Mo_find s0 x2).bind fun o1 => (B_Mo_answer_148 o1))
def B_Mo_answer_133 (s0 : S_Mo) : Option S_Mo :=
  ((F_Mo_replies s0 (3 : Int32) (0 : Int32)).bind fun o1 => (B_Mo_answer_148 o1.2))
def B_Mo_answer_129 (s0 : S_Mo) (x2 : Int32) (x3 : Int32) : Option S_Mo :=
  (if x3 = 0 then (B_Mo_answer_133 s0) else (B_Mo_answer_143 s0 x2))
def B_Mo_answer_121 (s0 : S_Mo) (x3 : Int32) : Option S_Mo :=
  ((F_Mo_store s0 x3).bind fun o1 => (B_Mo_answer_148 o1))
def B_Mo_answer_113 (s0 : S_Mo) (x2 : Int32) (x3 : Int32) : Option S_Mo :=
  (if (Mo_what s0) = (2 : Int32) then (B_Mo_answer_121 s0 x3) else (B_Mo_answer_129 s0 x2 x3))
def B_Mo_answer_103 (s0 : S_Mo) : Option S_Mo :=
  ((F_Mo_replies s0 (0 : Int32) (0 : Int32)).bind fun o1 => (B_Mo_answer_148 o1.2))
def B_Mo_answer_95 (s0 : S_Mo) (x2 : Int32) (x3 : Int32) : Option S_Mo :=
  (if (Mo_what s0) = (1 : Int32) then (B_Mo_answer_103 s0) else (B_Mo_answer_113 s0 x2 x3))
def B_Mo_answer_85 (s0 : S_Mo) : Option S_Mo :=
  ((F_Mo_replies s0 (2 : Int32) (0 : Int32)).bind fun o1 => (B_Mo_answer_148 o1.2))
def B_Mo_answer_69 (s0 : S_Mo) (x2 : Int32) (x3 : Int32) : Option S_Mo :=
  (if ((Mo_speaker s0) < 0 ∨ 4 ≤ (Mo_speaker s0).toNatClampNeg) then none else (if (Mo_what s0) = ((Mo_services s0) (Mo_speaker s0).toNatClampNeg) then (B_Mo_answer_95 s0 x2 x3) else (B_Mo_answer_85 s0)))
def B_Mo_answer_58 (s0 : S_Mo) (x2 : Int32) : Option S_Mo :=
  ((F_Mo_read s0 (0 : Int32) (Mo_bodies s0) x2).bind fun o1 => (B_Mo_answer_69 o1.2 x2 o1.1))
def B_Mo_answer_38 (k29 : S_Mo × Int32 × Int32 → Option S_Mo) (s0 : S_Mo) (x2 : Int32) (x4 : Int32) : Option S_Mo :=
  (if (x4 < 0 ∨ 200 ≤ x4.toNatClampNeg) then none else (if (x4 < 0 ∨ 240 ≤ x4.toNatClampNeg) then none else (k29 ((Mo_set_source s0 (upd (Mo_source s0) x4.toNatClampNeg ((Mo_body s0) x4.toNatClampNeg))), x2, (x4 + 1)))))
def B_Mo_answer_29 (k29 : S_Mo × Int32 × Int32 → Option S_Mo) (s0 : S_Mo) (x2 : Int32) (x4 : Int32) : Option S_Mo :=
  (if (Mo_bodies s0) ≤ x4 then (B_Mo_answer_58 s0 x2) else (B_Mo_answer_38 k29 s0 x2 x4))
def L_Mo_answer_29 (v : S_Mo × Int32 × Int32) : Option S_Mo := lp (fun k29 v => B_Mo_answer_29  k29  v.1 v.2.1 v.2.2) FU v
def B_Mo_answer_26 (s0 : S_Mo) (x2 : Int32) : Option S_Mo :=
  (L_Mo_answer_29 (s0, x2, (0 : Int32)))
def B_Mo_answer_0 (s0 : S_Mo) (x1 : Int32) : Option S_Mo :=
  (if ((Mo_speaker (Mo_set_answered s0 ((Mo_answered s0) + (1 : Int32)))) < 0 ∨ 4 ≤ (Mo_speaker (Mo_set_answered s0 ((Mo_answered s0) + (1 : Int32)))).toNatClampNeg) then none else (if x1 = 0 then (B_Mo_answer_69 (Mo_set_answered s0 ((Mo_answered s0) + (1 : Int32))) ((Mo_results (Mo_set_answered s0 ((Mo_answered s0) + (1 : Int32)))) (Mo_speaker (Mo_set_answered s0 ((Mo_answered s0) + (1 : Int32)))).toNatClampNeg) x1) else (B_Mo_answer_26 (Mo_set_answered s0 ((Mo_answered s0) + (1 : Int32))) ((Mo_results (Mo_set_answered s0 ((Mo_answered s0) + (1 : Int32)))) (Mo_speaker (Mo_set_answered s0 ((Mo_answered s0) + (1 : Int32)))).toNatClampNeg))))
def F_Mo_answer (s0 : S_Mo) (x1 : Int32) : Option S_Mo := B_Mo_answer_0 s0 x1
set_option maxRecDepth 100000 in
set_option maxHeartbeats 4000000 in
theorem t_Mo_answer_148 {p : Program} {l : Launch} {e : Env} {s : State} {m : MethodId} {args : Array Value} {below : List Frame} {meth : Method} {c : Code} {D : va_G} {A : Nat → Prop} {g : Nat → ClassId} {rest : va_W} {a0 : Nat → Nat} {ls : Array Slot} {H : Heap} {locs : List Loc} {s0 : S_Mo} {out : S_Mo} (X : Cx p s m args meth c prog_11_method_44_code 5 ws_Mo_answer R_Mo none D g) (hl : lv_has ls 5 [(0, .ref (a0 0))]) (hI : Iw D A (w_Mo g a0 s0 ++ (rest)) H) (hS : va_S A s.heap H locs) (h : B_Mo_answer_148  s0 = some out) : W p l e (headSpec ws_Mo_answer { frames := 8, cells := 0, slots := 0, locals := 201 }).room s m args below meth c H locs 0 0 (MQ below (QcV D A g (fun (_ : Unit) => w_Mo g a0 out ++ (rest))) args s 0 0 A) (F0 m 148 ls []) := by
  have X1 := X
  obtain ⟨hx, hb, hml, hown, hts, hr, hlocks, hKK⟩ := X1
  have ht : ∀ w ∈ TB, w.before args s = true := fun w h => hts w (List.mem_cons_of_mem _ h)
  have hK := hKK.1
  unfold B_Mo_answer_148 at h
  refine lv_aload_n hx hb d_Mo_answer_148 rfl (lv_at hl 0 rfl) ?_
  obtain ⟨o1, ho2, h⟩ := bd_s h
  refine cl_v (W1 := fun (_ : Unit) => w_Mo g a0 o1 ++ (rest)) (va_runV (As := []) (rest := []) ⟨hx, hb, hml, hown, ht⟩ (c_Mo_forget (l := l) (D := D) (A := A) (g := g) (rest := rest) (a0 := a0) ho2) (cwV 0 ht (gd_V m_1068 m_1070 mp_53 m_11 m_1071) rfl rfl rfl (by decide +kernel) ⟨(Nat.le_of_ble_eq_true rfl), (Nat.le_of_ble_eq_true rfl)⟩) (prV (ci := 9) (q0 := 0) hKK hI (List.Perm.refl _) rfl rfl rfl) rfl rfl hl.1 rfl (lv_room (Nat.le_of_ble_eq_true rfl)) d_Mo_answer_149 ⟨(Nat.le_of_ble_eq_true rfl), (Nat.le_of_ble_eq_true rfl)⟩) hS (fun _ => ((List.Perm.refl _)).symm) (fun _ H locs hI hS => ?_)
  have hI : Iw D A (w_Mo g a0 o1 ++ (rest)) H := hI
  have h9 := Option.some.inj h
  subst h9
  exact W.vret hx hb hr (fun t ht hW => ⟨⟨(), rfl, trivial, ⟨by rw [ht]; exact hI, hKK.moved hW⟩⟩, hS.F ht⟩) hS.2.2 d_Mo_answer_152
set_option maxRecDepth 100000 in
set_option maxHeartbeats 4000000 in
theorem t_Mo_answer_143 {p : Program} {l : Launch} {e : Env} {s : State} {m : MethodId} {args : Array Value} {below : List Frame} {meth : Method} {c : Code} {D : va_G} {A : Nat → Prop} {g : Nat → ClassId} {rest : va_W} {a0 : Nat → Nat} {ls : Array Slot} {H : Heap} {locs : List Loc} {s0 : S_Mo} {x2 : Int32} {out : S_Mo} (X : Cx p s m args meth c prog_11_method_44_code 5 ws_Mo_answer R_Mo none D g) (hl : lv_has ls 5 [(0, .ref (a0 0)), (2, .int x2)]) (hI : Iw D A (w_Mo g a0 s0 ++ (rest)) H) (hS : va_S A s.heap H locs) (h : B_Mo_answer_143  s0 x2 = some out) : W p l e (headSpec ws_Mo_answer { frames := 8, cells := 0, slots := 0, locals := 201 }).room s m args below meth c H locs 0 0 (MQ below (QcV D A g (fun (_ : Unit) => w_Mo g a0 out ++ (rest))) args s 0 0 A) (F0 m 143 ls []) := by
  have X1 := X
  obtain ⟨hx, hb, hml, hown, hts, hr, hlocks, hKK⟩ := X1
  have ht : ∀ w ∈ TB, w.before args s = true := fun w h => hts w (List.mem_cons_of_mem _ h)
  have hK := hKK.1
  unfold B_Mo_answer_143 at h
  refine lv_aload_n hx hb d_Mo_answer_143 rfl (lv_at hl 0 rfl) ?_
  refine lv_iload_n hx hb d_Mo_answer_144 rfl (lv_at hl 1 rfl) ?_
  obtain ⟨o1, ho2, h⟩ := bd_s h
  refine cl_v (W1 := fun (_ : Unit) => w_Mo g a0 o1 ++ (rest)) (va_runV (As := [.int x2]) (rest := []) ⟨hx, hb, hml, hown, ht⟩ (c_Mo_find (l := l) (D := D) (A := A) (g := g) (rest := rest) (a0 := a0) ho2) (cwV 1 ht (gd_V m_1140 m_1142 mp_69 m_11 m_1143) rfl rfl rfl (by decide +kernel) ⟨(Nat.le_of_ble_eq_true rfl), (Nat.le_of_ble_eq_true rfl)⟩) (prV (ci := 9) (q0 := 0) hKK hI (List.Perm.refl _) rfl rfl rfl) rfl rfl hl.1 rfl (lv_room (Nat.le_of_ble_eq_true rfl)) d_Mo_answer_145 ⟨(Nat.le_of_ble_eq_true rfl), (Nat.le_of_ble_eq_true rfl)⟩) hS (fun _ => ((List.Perm.refl _)).symm) (fun _ H locs hI hS => ?_)
  have hI : Iw D A (w_Mo g a0 o1 ++ (rest)) H := hI
  exact t_Mo_answer_148 X (lv_sub hl [0] rfl) hI hS h
set_option maxRecDepth 100000 in
set_option maxHeartbeats 4000000 in
theorem t_Mo_answer_133 {p : Program} {l : Launch} {e : Env} {s : State} {m : MethodId} {args : Array Value} {below : List Frame} {meth : Method} {c : Code} {D : va_G} {A : Nat → Prop} {g : Nat → ClassId} {rest : va_W} {a0 : Nat → Nat} {ls : Array Slot} {H : Heap} {locs : List Loc} {s0 : S_Mo} {out : S_Mo} (X : Cx p s m args meth c prog_11_method_44_code 5 ws_Mo_answer R_Mo none D g) (hl : lv_has ls 5 [(0, .ref (a0 0))]) (hI : Iw D A (w_Mo g a0 s0 ++ (rest)) H) (hS : va_S A s.heap H locs) (h : B_Mo_answer_133  s0 = some out) : W p l e (headSpec ws_Mo_answer { frames := 8, cells := 0, slots := 0, locals := 201 }).room s m args below meth c H locs 0 0 (MQ below (QcV D A g (fun (_ : Unit) => w_Mo g a0 out ++ (rest))) args s 0 0 A) (F0 m 133 ls []) := by
  have X1 := X
  obtain ⟨hx, hb, hml, hown, hts, hr, hlocks, hKK⟩ := X1
  have ht : ∀ w ∈ TB, w.before args s = true := fun w h => hts w (List.mem_cons_of_mem _ h)
  have hK := hKK.1
  unfold B_Mo_answer_133 at h
  refine lv_aload_n hx hb d_Mo_answer_133 rfl (lv_at hl 0 rfl) ?_
  refine lv_iconst (v := 3) hx hb d_Mo_answer_134 (by decide) ?_
  refine lv_iconst (v := 0) hx hb d_Mo_answer_135 (by decide) ?_
  obtain ⟨o1, ho2, h⟩ := bd_s h
  refine cl_i (W1 := fun (_ : Unit) => w_Mo g a0 o1.2 ++ (rest)) (va_runV (As := [.int (3 : Int32), .int (0 : Int32)]) (rest := []) ⟨hx, hb, hml, hown, ht⟩ (c_Mo_replies (l := l) (D := D) (A := A) (g := g) (rest := rest) (a0 := a0) ho2) (cwV 2 ht (gd_V m_1120 m_1122 mp_64 m_11 m_1123) rfl rfl rfl (by decide +kernel) ⟨(Nat.le_of_ble_eq_true rfl), (Nat.le_of_ble_eq_true rfl)⟩) (prV (ci := 9) (q0 := 0) hKK hI (List.Perm.refl _) rfl rfl rfl) rfl rfl hl.1 rfl (lv_room (Nat.le_of_ble_eq_true rfl)) d_Mo_answer_136 ⟨(Nat.le_of_ble_eq_true rfl), (Nat.le_of_ble_eq_true rfl)⟩) hS (fun _ => ((List.Perm.refl _)).symm) (fun _ H locs hI hS => ?_)
  have hI : Iw D A (w_Mo g a0 o1.2 ++ (rest)) H := hI
  refine lv_pop hx hb d_Mo_answer_139 rfl ?_
  refine lv_goto (tgt := 148) hx hb d_Mo_answer_140 (by decide) ?_
  exact t_Mo_answer_148 X (lv_sub hl [0] rfl) hI hS h
set_option maxRecDepth 100000 in
set_option maxHeartbeats 4000000 in
theorem t_Mo_answer_129 {p : Program} {l : Launch} {e : Env} {s : State} {m : MethodId} {args : Array Value} {below : List Frame} {meth : Method} {c : Code} {D : va_G} {A : Nat → Prop} {g : Nat → ClassId} {rest : va_W} {a0 : Nat → Nat} {ls : Array Slot} {H : Heap} {locs : List Loc} {s0 : S_Mo} {x2 : Int32} {x3 : Int32} {out : S_Mo} (X : Cx p s m args meth c prog_11_method_44_code 5 ws_Mo_answer R_Mo none D g) (hl : lv_has ls 5 [(0, .ref (a0 0)), (2, .int x2), (3, .int x3)]) (hI : Iw D A (w_Mo g a0 s0 ++ (rest)) H) (hS : va_S A s.heap H locs) (h : B_Mo_answer_129  s0 x2 x3 = some out) : W p l e (headSpec ws_Mo_answer { frames := 8, cells := 0, slots := 0, locals := 201 }).room s m args below meth c H locs 0 0 (MQ below (QcV D A g (fun (_ : Unit) => w_Mo g a0 out ++ (rest))) args s 0 0 A) (F0 m 129 ls []) := by
  have X1 := X
  obtain ⟨hx, hb, hml, hown, hts, hr, hlocks, hKK⟩ := X1
  have ht : ∀ w ∈ TB, w.before args s = true := fun w h => hts w (List.mem_cons_of_mem _ h)
  have hK := hKK.1
  unfold B_Mo_answer_129 at h
  refine lv_iload_n hx hb d_Mo_answer_129 rfl (lv_at hl 2 rfl) ?_
  refine lv_if_ne (tgt := 143) hx hb d_Mo_answer_130 (by decide) (fun hc => ?_) (fun hc => ?_)
  · have h := it_f h hc
    exact t_Mo_answer_143 X (lv_sub hl [0, 1] rfl) hI hS h
  · have h := it_t h hc
    exact t_Mo_answer_133 X (lv_sub hl [0] rfl) hI hS h
set_option maxRecDepth 100000 in
set_option maxHeartbeats 4000000 in
theorem t_Mo_answer_121 {p : Program} {l : Launch} {e : Env} {s : State} {m : MethodId} {args : Array Value} {below : List Frame} {meth : Method} {c : Code} {D : va_G} {A : Nat → Prop} {g : Nat → ClassId} {rest : va_W} {a0 : Nat → Nat} {ls : Array Slot} {H : Heap} {locs : List Loc} {s0 : S_Mo} {x3 : Int32} {out : S_Mo} (X : Cx p s m args meth c prog_11_method_44_code 5 ws_Mo_answer R_Mo none D g) (hl : lv_has ls 5 [(0, .ref (a0 0)), (3, .int x3)]) (hI : Iw D A (w_Mo g a0 s0 ++ (rest)) H) (hS : va_S A s.heap H locs) (h : B_Mo_answer_121  s0 x3 = some out) : W p l e (headSpec ws_Mo_answer { frames := 8, cells := 0, slots := 0, locals := 201 }).room s m args below meth c H locs 0 0 (MQ below (QcV D A g (fun (_ : Unit) => w_Mo g a0 out ++ (rest))) args s 0 0 A) (F0 m 121 ls []) := by
  have X1 := X
  obtain ⟨hx, hb, hml, hown, hts, hr, hlocks, hKK⟩ := X1
  have ht : ∀ w ∈ TB, w.before args s = true := fun w h => hts w (List.mem_cons_of_mem _ h)
  have hK := hKK.1
  unfold B_Mo_answer_121 at h
  refine lv_aload_n hx hb d_Mo_answer_121 rfl (lv_at hl 0 rfl) ?_
  refine lv_iload_n hx hb d_Mo_answer_122 rfl (lv_at hl 1 rfl) ?_
  obtain ⟨o1, ho2, h⟩ := bd_s h
  refine cl_v (W1 := fun (_ : Unit) => w_Mo g a0 o1 ++ (rest)) (va_runV (As := [.int x3]) (rest := []) ⟨hx, hb, hml, hown, ht⟩ (c_Mo_store (l := l) (D := D) (A := A) (g := g) (rest := rest) (a0 := a0) ho2) (cwV 1 ht (gd_V m_1128 m_1130 mp_66 m_11 m_1131) rfl rfl rfl (by decide +kernel) ⟨(Nat.le_of_ble_eq_true rfl), (Nat.le_of_ble_eq_true rfl)⟩) (prV (ci := 9) (q0 := 0) hKK hI (List.Perm.refl _) rfl rfl rfl) rfl rfl hl.1 rfl (lv_room (Nat.le_of_ble_eq_true rfl)) d_Mo_answer_123 ⟨(Nat.le_of_ble_eq_true rfl), (Nat.le_of_ble_eq_true rfl)⟩) hS (fun _ => ((List.Perm.refl _)).symm) (fun _ H locs hI hS => ?_)
  have hI : Iw D A (w_Mo g a0 o1 ++ (rest)) H := hI
  refine lv_goto (tgt := 148) hx hb d_Mo_answer_126 (by decide) ?_
  exact t_Mo_answer_148 X (lv_sub hl [0] rfl) hI hS h
set_option maxRecDepth 100000 in
set_option maxHeartbeats 4000000 in
theorem t_Mo_answer_113 {p : Program} {l : Launch} {e : Env} {s : State} {m : MethodId} {args : Array Value} {below : List Frame} {meth : Method} {c : Code} {D : va_G} {A : Nat → Prop} {g : Nat → ClassId} {rest : va_W} {a0 : Nat → Nat} {ls : Array Slot} {H : Heap} {locs : List Loc} {s0 : S_Mo} {x2 : Int32} {x3 : Int32} {out : S_Mo} (X : Cx p s m args meth c prog_11_method_44_code 5 ws_Mo_answer R_Mo none D g) (hl : lv_has ls 5 [(0, .ref (a0 0)), (2, .int x2), (3, .int x3)]) (hI : Iw D A (w_Mo g a0 s0 ++ (rest)) H) (hS : va_S A s.heap H locs) (h : B_Mo_answer_113  s0 x2 x3 = some out) : W p l e (headSpec ws_Mo_answer { frames := 8, cells := 0, slots := 0, locals := 201 }).room s m args below meth c H locs 0 0 (MQ below (QcV D A g (fun (_ : Unit) => w_Mo g a0 out ++ (rest))) args s 0 0 A) (F0 m 113 ls []) := by
  have X1 := X
  obtain ⟨hx, hb, hml, hown, hts, hr, hlocks, hKK⟩ := X1
  have ht : ∀ w ∈ TB, w.before args s = true := fun w h => hts w (List.mem_cons_of_mem _ h)
  have hK := hKK.1
  unfold B_Mo_answer_113 at h
  refine lv_aload_n hx hb d_Mo_answer_113 rfl (lv_at hl 0 rfl) ?_
  refine gt_Mo_what hx hb ht hown hK hI (ht _ m_860) d_Mo_answer_114 ?_
  refine lv_iconst (v := 2) hx hb d_Mo_answer_117 (by decide) ?_
  refine lv_icmp_ne (tgt := 129) hx hb d_Mo_answer_118 (by decide) (fun hc => ?_) (fun hc => ?_)
  · have h := it_f h hc
    exact t_Mo_answer_129 X (lv_sub hl [0, 1, 2] rfl) hI hS h
  · have h := it_t h hc
    exact t_Mo_answer_121 X (lv_sub hl [0, 2] rfl) hI hS h
set_option maxRecDepth 100000 in
set_option maxHeartbeats 4000000 in
theorem t_Mo_answer_103 {p : Program} {l : Launch} {e : Env} {s : State} {m : MethodId} {args : Array Value} {below : List Frame} {meth : Method} {c : Code} {D : va_G} {A : Nat → Prop} {g : Nat → ClassId} {rest : va_W} {a0 : Nat → Nat} {ls : Array Slot} {H : Heap} {locs : List Loc} {s0 : S_Mo} {out : S_Mo} (X : Cx p s m args meth c prog_11_method_44_code 5 ws_Mo_answer R_Mo none D g) (hl : lv_has ls 5 [(0, .ref (a0 0))]) (hI : Iw D A (w_Mo g a0 s0 ++ (rest)) H) (hS : va_S A s.heap H locs) (h : B_Mo_answer_103  s0 = some out) : W p l e (headSpec ws_Mo_answer { frames := 8, cells := 0, slots := 0, locals := 201 }).room s m args below meth c H locs 0 0 (MQ below (QcV D A g (fun (_ : Unit) => w_Mo g a0 out ++ (rest))) args s 0 0 A) (F0 m 103 ls []) := by
  have X1 := X
  obtain ⟨hx, hb, hml, hown, hts, hr, hlocks, hKK⟩ := X1
  have ht : ∀ w ∈ TB, w.before args s = true := fun w h => hts w (List.mem_cons_of_mem _ h)
  have hK := hKK.1
  unfold B_Mo_answer_103 at h
  refine lv_aload_n hx hb d_Mo_answer_103 rfl (lv_at hl 0 rfl) ?_
  refine lv_iconst (v := 0) hx hb d_Mo_answer_104 (by decide) ?_
  refine lv_iconst (v := 0) hx hb d_Mo_answer_105 (by decide) ?_
  obtain ⟨o1, ho2, h⟩ := bd_s h
  refine cl_i (W1 := fun (_ : Unit) => w_Mo g a0 o1.2 ++ (rest)) (va_runV (As := [.int (0 : Int32), .int (0 : Int32)]) (rest := []) ⟨hx, hb, hml, hown, ht⟩ (c_Mo_replies (l := l) (D := D) (A := A) (g := g) (rest := rest) (a0 := a0) ho2) (cwV 2 ht (gd_V m_1120 m_1122 mp_64 m_11 m_1123) rfl rfl rfl (by decide +kernel) ⟨(Nat.le_of_ble_eq_true rfl), (Nat.le_of_ble_eq_true rfl)⟩) (prV (ci := 9) (q0 := 0) hKK hI (List.Perm.refl _) rfl rfl rfl) rfl rfl hl.1 rfl (lv_room (Nat.le_of_ble_eq_true rfl)) d_Mo_answer_106 ⟨(Nat.le_of_ble_eq_true rfl), (Nat.le_of_ble_eq_true rfl)⟩) hS (fun _ => ((List.Perm.refl _)).symm) (fun _ H locs hI hS => ?_)
  have hI : Iw D A (w_Mo g a0 o1.2 ++ (rest)) H := hI
  refine lv_pop hx hb d_Mo_answer_109 rfl ?_
  refine lv_goto (tgt := 148) hx hb d_Mo_answer_110 (by decide) ?_
  exact t_Mo_answer_148 X (lv_sub hl [0] rfl) hI hS h
set_option maxRecDepth 100000 in
set_option maxHeartbeats 4000000 in
theorem t_Mo_answer_95 {p : Program} {l : Launch} {e : Env} {s : State} {m : MethodId} {args : Array Value} {below : List Frame} {meth : Method} {c : Code} {D : va_G} {A : Nat → Prop} {g : Nat → ClassId} {rest : va_W} {a0 : Nat → Nat} {ls : Array Slot} {H : Heap} {locs : List Loc} {s0 : S_Mo} {x2 : Int32} {x3 : Int32} {out : S_Mo} (X : Cx p s m args meth c prog_11_method_44_code 5 ws_Mo_answer R_Mo none D g) (hl : lv_has ls 5 [(0, .ref (a0 0)), (2, .int x2), (3, .int x3)]) (hI : Iw D A (w_Mo g a0 s0 ++ (rest)) H) (hS : va_S A s.heap H locs) (h : B_Mo_answer_95  s0 x2 x3 = some out) : W p l e (headSpec ws_Mo_answer { frames := 8, cells := 0, slots := 0, locals := 201 }).room s m args below meth c H locs 0 0 (MQ below (QcV D A g (fun (_ : Unit) => w_Mo g a0 out ++ (rest))) args s 0 0 A) (F0 m 95 ls []) := by
  have X1 := X
  obtain ⟨hx, hb, hml, hown, hts, hr, hlocks, hKK⟩ := X1
  have ht : ∀ w ∈ TB, w.before args s = true := fun w h => hts w (List.mem_cons_of_mem _ h)
  have hK := hKK.1
  unfold B_Mo_answer_95 at h
  refine lv_aload_n hx hb d_Mo_answer_95 rfl (lv_at hl 0 rfl) ?_
  refine gt_Mo_what hx hb ht hown hK hI (ht _ m_860) d_Mo_answer_96 ?_
  refine lv_iconst (v := 1) hx hb d_Mo_answer_99 (by decide) ?_
  refine lv_icmp_ne (tgt := 113) hx hb d_Mo_answer_100 (by decide) (fun hc => ?_) (fun hc => ?_)
  · have h := it_f h hc
    exact t_Mo_answer_113 X (lv_sub hl [0, 1, 2] rfl) hI hS h
  · have h := it_t h hc
    exact t_Mo_answer_103 X (lv_sub hl [0] rfl) hI hS h
set_option maxRecDepth 100000 in
set_option maxHeartbeats 4000000 in
theorem t_Mo_answer_85 {p : Program} {l : Launch} {e : Env} {s : State} {m : MethodId} {args : Array Value} {below : List Frame} {meth : Method} {c : Code} {D : va_G} {A : Nat → Prop} {g : Nat → ClassId} {rest : va_W} {a0 : Nat → Nat} {ls : Array Slot} {H : Heap} {locs : List Loc} {s0 : S_Mo} {out : S_Mo} (X : Cx p s m args meth c prog_11_method_44_code 5 ws_Mo_answer R_Mo none D g) (hl : lv_has ls 5 [(0, .ref (a0 0))]) (hI : Iw D A (w_Mo g a0 s0 ++ (rest)) H) (hS : va_S A s.heap H locs) (h : B_Mo_answer_85  s0 = some out) : W p l e (headSpec ws_Mo_answer { frames := 8, cells := 0, slots := 0, locals := 201 }).room s m args below meth c H locs 0 0 (MQ below (QcV D A g (fun (_ : Unit) => w_Mo g a0 out ++ (rest))) args s 0 0 A) (F0 m 85 ls []) := by
  have X1 := X
  obtain ⟨hx, hb, hml, hown, hts, hr, hlocks, hKK⟩ := X1
  have ht : ∀ w ∈ TB, w.before args s = true := fun w h => hts w (List.mem_cons_of_mem _ h)
  have hK := hKK.1
  unfold B_Mo_answer_85 at h
  refine lv_aload_n hx hb d_Mo_answer_85 rfl (lv_at hl 0 rfl) ?_
  refine lv_iconst (v := 2) hx hb d_Mo_answer_86 (by decide) ?_
  refine lv_iconst (v := 0) hx hb d_Mo_answer_87 (by decide) ?_
  obtain ⟨o1, ho2, h⟩ := bd_s h
  refine cl_i (W1 := fun (_ : Unit) => w_Mo g a0 o1.2 ++ (rest)) (va_runV (As := [.int (2 : Int32), .int (0 : Int32)]) (rest := []) ⟨hx, hb, hml, hown, ht⟩ (c_Mo_replies (l := l) (D := D) (A := A) (g := g) (rest := rest) (a0 := a0) ho2) (cwV 2 ht (gd_V m_1120 m_1122 mp_64 m_11 m_1123) rfl rfl rfl (by decide +kernel) ⟨(Nat.le_of_ble_eq_true rfl), (Nat.le_of_ble_eq_true rfl)⟩) (prV (ci := 9) (q0 := 0) hKK hI (List.Perm.refl _) rfl rfl rfl) rfl rfl hl.1 rfl (lv_room (Nat.le_of_ble_eq_true rfl)) d_Mo_answer_88 ⟨(Nat.le_of_ble_eq_true rfl), (Nat.le_of_ble_eq_true rfl)⟩) hS (fun _ => ((List.Perm.refl _)).symm) (fun _ H locs hI hS => ?_)
  have hI : Iw D A (w_Mo g a0 o1.2 ++ (rest)) H := hI
  refine lv_pop hx hb d_Mo_answer_91 rfl ?_
  refine lv_goto (tgt := 148) hx hb d_Mo_answer_92 (by decide) ?_
  exact t_Mo_answer_148 X (lv_sub hl [0] rfl) hI hS h
set_option maxRecDepth 100000 in
set_option maxHeartbeats 4000000 in
theorem t_Mo_answer_69 {p : Program} {l : Launch} {e : Env} {s : State} {m : MethodId} {args : Array Value} {below : List Frame} {meth : Method} {c : Code} {D : va_G} {A : Nat → Prop} {g : Nat → ClassId} {rest : va_W} {a0 : Nat → Nat} {ls : Array Slot} {H : Heap} {locs : List Loc} {s0 : S_Mo} {x2 : Int32} {x3 : Int32} {out : S_Mo} (X : Cx p s m args meth c prog_11_method_44_code 5 ws_Mo_answer R_Mo none D g) (hl : lv_has ls 5 [(0, .ref (a0 0)), (2, .int x2), (3, .int x3)]) (hI : Iw D A (w_Mo g a0 s0 ++ (rest)) H) (hS : va_S A s.heap H locs) (h : B_Mo_answer_69  s0 x2 x3 = some out) : W p l e (headSpec ws_Mo_answer { frames := 8, cells := 0, slots := 0, locals := 201 }).room s m args below meth c H locs 0 0 (MQ below (QcV D A g (fun (_ : Unit) => w_Mo g a0 out ++ (rest))) args s 0 0 A) (F0 m 69 ls []) := by
  have X1 := X
  obtain ⟨hx, hb, hml, hown, hts, hr, hlocks, hKK⟩ := X1
  have ht : ∀ w ∈ TB, w.before args s = true := fun w h => hts w (List.mem_cons_of_mem _ h)
  have hK := hKK.1
  unfold B_Mo_answer_69 at h
  refine lv_aload_n hx hb d_Mo_answer_69 rfl (lv_at hl 0 rfl) ?_
  refine gt_Mo_what hx hb ht hown hK hI (ht _ m_860) d_Mo_answer_70 ?_
  refine lv_aload_n hx hb d_Mo_answer_73 rfl (lv_at hl 0 rfl) ?_
  refine gt_Mo_services hx hb ht hown hK hI (ht _ m_852) d_Mo_answer_74 ?_
  refine lv_aload_n hx hb d_Mo_answer_77 rfl (lv_at hl 0 rfl) ?_
  refine gt_Mo_speaker hx hb ht hown hK hI (ht _ m_859) d_Mo_answer_78 ?_
  by_cases hc1 : ((Mo_speaker s0) < 0 ∨ 4 ≤ (Mo_speaker s0).toNatClampNeg)
  · exact no_s (it_t h hc1)
  have h := it_f h hc1
  refine al_Mo_services hx hb hK hI hc1 d_Mo_answer_81 ?_
  refine lv_icmp_eq (tgt := 95) hx hb d_Mo_answer_82 (by decide) (fun hc => ?_) (fun hc => ?_)
  · have h := it_t h hc
    exact t_Mo_answer_95 X (lv_sub hl [0, 1, 2] rfl) hI hS h
  · have h := it_f h hc
    exact t_Mo_answer_85 X (lv_sub hl [0] rfl) hI hS h
set_option maxRecDepth 100000 in
set_option maxHeartbeats 4000000 in
theorem t_Mo_answer_58 {p : Program} {l : Launch} {e : Env} {s : State} {m : MethodId} {args : Array Value} {below : List Frame} {meth : Method} {c : Code} {D : va_G} {A : Nat → Prop} {g : Nat → ClassId} {rest : va_W} {a0 : Nat → Nat} {ls : Array Slot} {H : Heap} {locs : List Loc} {s0 : S_Mo} {x2 : Int32} {out : S_Mo} (X : Cx p s m args meth c prog_11_method_44_code 5 ws_Mo_answer R_Mo none D g) (hl : lv_has ls 5 [(0, .ref (a0 0)), (2, .int x2)]) (hI : Iw D A (w_Mo g a0 s0 ++ (rest)) H) (hS : va_S A s.heap H locs) (h : B_Mo_answer_58  s0 x2 = some out) : W p l e (headSpec ws_Mo_answer { frames := 8, cells := 0, slots := 0, locals := 201 }).room s m args below meth c H locs 0 0 (MQ below (QcV D A g (fun (_ : Unit) => w_Mo g a0 out ++ (rest))) args s 0 0 A) (F0 m 58 ls []) := by
  have X1 := X
  obtain ⟨hx, hb, hml, hown, hts, hr, hlocks, hKK⟩ := X1
  have ht : ∀ w ∈ TB, w.before args s = true := fun w h => hts w (List.mem_cons_of_mem _ h)
  have hK := hKK.1
  unfold B_Mo_answer_58 at h
  refine lv_aload_n hx hb d_Mo_answer_58 rfl (lv_at hl 0 rfl) ?_
  refine lv_iconst (v := 0) hx hb d_Mo_answer_59 (by decide) ?_
  refine lv_aload_n hx hb d_Mo_answer_60 rfl (lv_at hl 0 rfl) ?_
  refine gt_Mo_bodies hx hb ht hown hK hI (ht _ m_858) d_Mo_answer_61 ?_
  refine lv_iload_n hx hb d_Mo_answer_64 rfl (lv_at hl 1 rfl) ?_
  obtain ⟨o1, ho2, h⟩ := bd_s h
  refine cl_i (W1 := fun (_ : Unit) => w_Mo g a0 o1.2 ++ (rest)) (va_runV (As := [.int (0 : Int32), .int (Mo_bodies s0), .int x2]) (rest := []) ⟨hx, hb, hml, hown, ht⟩ (c_Mo_read (l := l) (D := D) (A := A) (g := g) (rest := rest) (a0 := a0) ho2) (cwV 3 ht (gd_V m_991 m_993 mp_38 m_11 m_994) rfl rfl rfl (by decide +kernel) ⟨(Nat.le_of_ble_eq_true rfl), (Nat.le_of_ble_eq_true rfl)⟩) (prV (ci := 9) (q0 := 0) hKK hI (List.Perm.refl _) rfl rfl rfl) rfl rfl hl.1 rfl (lv_room (Nat.le_of_ble_eq_true rfl)) d_Mo_answer_65 ⟨(Nat.le_of_ble_eq_true rfl), (Nat.le_of_ble_eq_true rfl)⟩) hS (fun _ => ((List.Perm.refl _)).symm) (fun _ H locs hI hS => ?_)
  have hI : Iw D A (w_Mo g a0 o1.2 ++ (rest)) H := hI
  refine lv_istore_n hx hb d_Mo_answer_68 rfl hl (Nat.le_of_ble_eq_true rfl) rfl (fun ls hl => ?_)
  have hl : lv_has ls 5 [(3, .int o1.1), (0, .ref (a0 0)), (2, .int x2)] := hl
  exact t_Mo_answer_69 X (lv_sub hl [1, 2, 0] rfl) hI hS h
set_option maxRecDepth 100000 in
set_option maxHeartbeats 4000000 in
theorem t_Mo_answer_38 {p : Program} {l : Launch} {e : Env} {s : State} {m : MethodId} {args : Array Value} {below : List Frame} {meth : Method} {c : Code} {D : va_G} {A : Nat → Prop} {g : Nat → ClassId} {rest : va_W} {a0 : Nat → Nat} {ls : Array Slot} {H : Heap} {locs : List Loc} {k29 : S_Mo × Int32 × Int32 → Option S_Mo} {s0 : S_Mo} {x2 : Int32} {x4 : Int32} {out : S_Mo} (X : Cx p s m args meth c prog_11_method_44_code 5 ws_Mo_answer R_Mo none D g) (hk29 : ∀ (v : S_Mo × Int32 × Int32) (ls : Array Slot) (H : Heap) (locs : List Loc), lv_has ls 5 [(0, .ref (a0 0)), (2, .int v.2.1), (4, .int v.2.2)] → Iw D A (w_Mo g a0 v.1 ++ (rest)) H → va_S A s.heap H locs → k29 v = some out → W p l e (headSpec ws_Mo_answer { frames := 8, cells := 0, slots := 0, locals := 201 }).room s m args below meth c H locs 0 0 (MQ below (QcV D A g (fun (_ : Unit) => w_Mo g a0 out ++ (rest))) args s 0 0 A) (F0 m 29 ls [])) (hl : lv_has ls 5 [(0, .ref (a0 0)), (2, .int x2), (4, .int x4)]) (hI : Iw D A (w_Mo g a0 s0 ++ (rest)) H) (hS : va_S A s.heap H locs) (h : B_Mo_answer_38 k29 s0 x2 x4 = some out) : W p l e (headSpec ws_Mo_answer { frames := 8, cells := 0, slots := 0, locals := 201 }).room s m args below meth c H locs 0 0 (MQ below (QcV D A g (fun (_ : Unit) => w_Mo g a0 out ++ (rest))) args s 0 0 A) (F0 m 38 ls []) := by
  have X1 := X
  obtain ⟨hx, hb, hml, hown, hts, hr, hlocks, hKK⟩ := X1
  have ht : ∀ w ∈ TB, w.before args s = true := fun w h => hts w (List.mem_cons_of_mem _ h)
  have hK := hKK.1
  unfold B_Mo_answer_38 at h
  refine lv_aload_n hx hb d_Mo_answer_38 rfl (lv_at hl 0 rfl) ?_
  refine gt_Mo_source hx hb ht hown hK hI (ht _ m_820) d_Mo_answer_39 ?_
  refine lv_iload hx hb d_Mo_answer_42 (lv_at hl 2 rfl) ?_
  refine lv_aload_n hx hb d_Mo_answer_44 rfl (lv_at hl 0 rfl) ?_
  refine gt_Mo_body hx hb ht hown hK hI (ht _ m_857) d_Mo_answer_45 ?_
  refine lv_iload hx hb d_Mo_answer_48 (lv_at hl 2 rfl) ?_
  by_cases hc1 : (x4 < 0 ∨ 200 ≤ x4.toNatClampNeg)
  · exact no_s (it_t h hc1)
  have h := it_f h hc1
  refine al_Mo_body hx hb hK hI hc1 d_Mo_answer_50 ?_
  by_cases hc2 : (x4 < 0 ∨ 240 ≤ x4.toNatClampNeg)
  · exact no_s (it_t h hc2)
  have h := it_f h hc2
  refine as_Mo_source hx hb hK hI hS hc2 d_Mo_answer_51 (fun H locs hI hS => ?_)
  refine lv_iinc (k := 2) (v := (x4 + 1)) hx hb d_Mo_answer_52 hl rfl (congrArg (fun z => x4 + z) (by decide)) (Nat.le_of_ble_eq_true rfl) rfl (fun ls hl => ?_)
  have hl : lv_has ls 5 [(4, .int (x4 + 1)), (0, .ref (a0 0)), (2, .int x2)] := hl
  refine lv_goto (tgt := 29) hx hb d_Mo_answer_55 (by decide) ?_
  exact hk29 ((Mo_set_source s0 (upd (Mo_source s0) x4.toNatClampNeg ((Mo_body s0) x4.toNatClampNeg))), x2, (x4 + 1)) _ _ _ (lv_sub hl [1, 2, 0] rfl) hI hS h
set_option maxRecDepth 100000 in
set_option maxHeartbeats 4000000 in
theorem t_Mo_answer_29 {p : Program} {l : Launch} {e : Env} {s : State} {m : MethodId} {args : Array Value} {below : List Frame} {meth : Method} {c : Code} {D : va_G} {A : Nat → Prop} {g : Nat → ClassId} {rest : va_W} {a0 : Nat → Nat} {ls : Array Slot} {H : Heap} {locs : List Loc} {k29 : S_Mo × Int32 × Int32 → Option S_Mo} {s0 : S_Mo} {x2 : Int32} {x4 : Int32} {out : S_Mo} (X : Cx p s m args meth c prog_11_method_44_code 5 ws_Mo_answer R_Mo none D g) (hk29 : ∀ (v : S_Mo × Int32 × Int32) (ls : Array Slot) (H : Heap) (locs : List Loc), lv_has ls 5 [(0, .ref (a0 0)), (2, .int v.2.1), (4, .int v.2.2)] → Iw D A (w_Mo g a0 v.1 ++ (rest)) H → va_S A s.heap H locs → k29 v = some out → W p l e (headSpec ws_Mo_answer { frames := 8, cells := 0, slots := 0, locals := 201 }).room s m args below meth c H locs 0 0 (MQ below (QcV D A g (fun (_ : Unit) => w_Mo g a0 out ++ (rest))) args s 0 0 A) (F0 m 29 ls [])) (hl : lv_has ls 5 [(0, .ref (a0 0)), (2, .int x2), (4, .int x4)]) (hI : Iw D A (w_Mo g a0 s0 ++ (rest)) H) (hS : va_S A s.heap H locs) (h : B_Mo_answer_29 k29 s0 x2 x4 = some out) : W p l e (headSpec ws_Mo_answer { frames := 8, cells := 0, slots := 0, locals := 201 }).room s m args below meth c H locs 0 0 (MQ below (QcV D A g (fun (_ : Unit) => w_Mo g a0 out ++ (rest))) args s 0 0 A) (F0 m 29 ls []) := by
  have X1 := X
  obtain ⟨hx, hb, hml, hown, hts, hr, hlocks, hKK⟩ := X1
  have ht : ∀ w ∈ TB, w.before args s = true := fun w h => hts w (List.mem_cons_of_mem _ h)
  have hK := hKK.1
  unfold B_Mo_answer_29 at h
  refine lv_iload hx hb d_Mo_answer_29 (lv_at hl 2 rfl) ?_
  refine lv_aload_n hx hb d_Mo_answer_31 rfl (lv_at hl 0 rfl) ?_
  refine gt_Mo_bodies hx hb ht hown hK hI (ht _ m_858) d_Mo_answer_32 ?_
  refine lv_icmp_ge (tgt := 58) hx hb d_Mo_answer_35 (by decide) (fun hc => ?_) (fun hc => ?_)
  · have h := it_t h hc
    exact t_Mo_answer_58 X (lv_sub hl [0, 1] rfl) hI hS h
  · have h := it_f h hc
    exact t_Mo_answer_38 X hk29 (lv_sub hl [0, 1, 2] rfl) hI hS h
set_option maxRecDepth 100000 in
set_option maxHeartbeats 4000000 in
theorem T_Mo_answer_29 {p : Program} {l : Launch} {e : Env} {s : State} {m : MethodId} {args : Array Value} {below : List Frame} {meth : Method} {c : Code} {D : va_G} {A : Nat → Prop} {g : Nat → ClassId} {rest : va_W} {a0 : Nat → Nat} {ls : Array Slot} {H : Heap} {locs : List Loc} {s0 : S_Mo} {x2 : Int32} {x4 : Int32} {out : S_Mo} (X : Cx p s m args meth c prog_11_method_44_code 5 ws_Mo_answer R_Mo none D g) (hl : lv_has ls 5 [(0, .ref (a0 0)), (2, .int x2), (4, .int x4)]) (hI : Iw D A (w_Mo g a0 s0 ++ (rest)) H) (hS : va_S A s.heap H locs) (h : L_Mo_answer_29   (s0, x2, x4) = some out) : W p l e (headSpec ws_Mo_answer { frames := 8, cells := 0, slots := 0, locals := 201 }).room s m args below meth c H locs 0 0 (MQ below (QcV D A g (fun (_ : Unit) => w_Mo g a0 out ++ (rest))) args s 0 0 A) (F0 m 29 ls []) := by
  unfold L_Mo_answer_29 at h
  exact lp_ind (P := fun v => ∀ (ls : Array Slot) (H : Heap) (locs : List Loc), lv_has ls 5 [(0, .ref (a0 0)), (2, .int v.2.1), (4, .int v.2.2)] → Iw D A (w_Mo g a0 v.1 ++ (rest)) H → va_S A s.heap H locs → W p l e (headSpec ws_Mo_answer { frames := 8, cells := 0, slots := 0, locals := 201 }).room s m args below meth c H locs 0 0 (MQ below (QcV D A g (fun (_ : Unit) => w_Mo g a0 out ++ (rest))) args s 0 0 A) (F0 m 29 ls [])) (fun k v ih hb ls H locs  hl hI hS => t_Mo_answer_29 X  (fun v' ls H locs  hl hI hS h' => ih v' h' ls H locs  hl hI hS) hl hI hS hb) FU _ h ls H locs  hl hI hS
set_option maxRecDepth 100000 in
set_option maxHeartbeats 4000000 in
theorem t_Mo_answer_26 {p : Program} {l : Launch} {e : Env} {s : State} {m : MethodId} {args : Array Value} {below : List Frame} {meth : Method} {c : Code} {D : va_G} {A : Nat → Prop} {g : Nat → ClassId} {rest : va_W} {a0 : Nat → Nat} {ls : Array Slot} {H : Heap} {locs : List Loc} {s0 : S_Mo} {x2 : Int32} {out : S_Mo} (X : Cx p s m args meth c prog_11_method_44_code 5 ws_Mo_answer R_Mo none D g) (hl : lv_has ls 5 [(0, .ref (a0 0)), (2, .int x2)]) (hI : Iw D A (w_Mo g a0 s0 ++ (rest)) H) (hS : va_S A s.heap H locs) (h : B_Mo_answer_26  s0 x2 = some out) : W p l e (headSpec ws_Mo_answer { frames := 8, cells := 0, slots := 0, locals := 201 }).room s m args below meth c H locs 0 0 (MQ below (QcV D A g (fun (_ : Unit) => w_Mo g a0 out ++ (rest))) args s 0 0 A) (F0 m 26 ls []) := by
  have X1 := X
  obtain ⟨hx, hb, hml, hown, hts, hr, hlocks, hKK⟩ := X1
  have ht : ∀ w ∈ TB, w.before args s = true := fun w h => hts w (List.mem_cons_of_mem _ h)
  have hK := hKK.1
  unfold B_Mo_answer_26 at h
  refine lv_iconst (v := 0) hx hb d_Mo_answer_26 (by decide) ?_
  refine lv_istore hx hb d_Mo_answer_27 hl (Nat.le_of_ble_eq_true rfl) rfl (fun ls hl => ?_)
  have hl : lv_has ls 5 [(4, .int (0 : Int32)), (0, .ref (a0 0)), (2, .int x2)] := hl
  exact T_Mo_answer_29 X (lv_sub hl [1, 2, 0] rfl) hI hS h
set_option maxRecDepth 100000 in
set_option maxHeartbeats 4000000 in
theorem t_Mo_answer_0 {p : Program} {l : Launch} {e : Env} {s : State} {m : MethodId} {args : Array Value} {below : List Frame} {meth : Method} {c : Code} {D : va_G} {A : Nat → Prop} {g : Nat → ClassId} {rest : va_W} {a0 : Nat → Nat} {ls : Array Slot} {H : Heap} {locs : List Loc} {s0 : S_Mo} {x1 : Int32} {out : S_Mo} (X : Cx p s m args meth c prog_11_method_44_code 5 ws_Mo_answer R_Mo none D g) (hl : lv_has ls 5 [(0, .ref (a0 0)), (1, .int x1)]) (hI : Iw D A (w_Mo g a0 s0 ++ (rest)) H) (hS : va_S A s.heap H locs) (h : B_Mo_answer_0  s0 x1 = some out) : W p l e (headSpec ws_Mo_answer { frames := 8, cells := 0, slots := 0, locals := 201 }).room s m args below meth c H locs 0 0 (MQ below (QcV D A g (fun (_ : Unit) => w_Mo g a0 out ++ (rest))) args s 0 0 A) (F0 m 0 ls []) := by
  have X1 := X
  obtain ⟨hx, hb, hml, hown, hts, hr, hlocks, hKK⟩ := X1
  have ht : ∀ w ∈ TB, w.before args s = true := fun w h => hts w (List.mem_cons_of_mem _ h)
  have hK := hKK.1
  unfold B_Mo_answer_0 at h
  refine lv_aload_n hx hb d_Mo_answer_0 rfl (lv_at hl 0 rfl) ?_
  refine lv_dup hx hb d_Mo_answer_1 rfl ?_
  refine gt_Mo_answered hx hb ht hown hK hI (ht _ m_862) d_Mo_answer_2 ?_
  refine lv_iconst (v := 1) hx hb d_Mo_answer_5 (by decide) ?_
  refine lv_iadd hx hb d_Mo_answer_6 ?_
  refine pt_Mo_answered hx hb ht hown hK hI hS (ht _ m_862) d_Mo_answer_7 (fun H locs hI hS => ?_)
  refine lv_aload_n hx hb d_Mo_answer_10 rfl (lv_at hl 0 rfl) ?_
  refine gt_Mo_results hx hb ht hown hK hI (ht _ m_853) d_Mo_answer_11 ?_
  refine lv_aload_n hx hb d_Mo_answer_14 rfl (lv_at hl 0 rfl) ?_
  refine gt_Mo_speaker hx hb ht hown hK hI (ht _ m_859) d_Mo_answer_15 ?_
  by_cases hc1 : ((Mo_speaker (Mo_set_answered s0 ((Mo_answered s0) + (1 : Int32)))) < 0 ∨ 4 ≤ (Mo_speaker (Mo_set_answered s0 ((Mo_answered s0) + (1 : Int32)))).toNatClampNeg)
  · exact no_s (it_t h hc1)
  have h := it_f h hc1
  refine al_Mo_results hx hb hK hI hc1 d_Mo_answer_18 ?_
  refine lv_istore_n hx hb d_Mo_answer_19 rfl hl (Nat.le_of_ble_eq_true rfl) rfl (fun ls hl => ?_)
  have hl : lv_has ls 5 [(2, .int ((Mo_results (Mo_set_answered s0 ((Mo_answered s0) + (1 : Int32)))) (Mo_speaker (Mo_set_answered s0 ((Mo_answered s0) + (1 : Int32)))).toNatClampNeg)), (0, .ref (a0 0)), (1, .int x1)] := hl
  refine lv_iload_n hx hb d_Mo_answer_20 rfl (lv_at hl 2 rfl) ?_
  refine lv_istore_n hx hb d_Mo_answer_21 rfl hl (Nat.le_of_ble_eq_true rfl) rfl (fun ls hl => ?_)
  have hl : lv_has ls 5 [(3, .int x1), (2, .int ((Mo_results (Mo_set_answered s0 ((Mo_answered s0) + (1 : Int32)))) (Mo_speaker (Mo_set_answered s0 ((Mo_answered s0) + (1 : Int32)))).toNatClampNeg)), (0, .ref (a0 0)), (1, .int x1)] := hl
  refine lv_iload_n hx hb d_Mo_answer_22 rfl (lv_at hl 3 rfl) ?_
  refine lv_if_eq (tgt := 69) hx hb d_Mo_answer_23 (by decide) (fun hc => ?_) (fun hc => ?_)
  · have h := it_t h hc
    exact t_Mo_answer_69 X (lv_sub hl [2, 1, 0] rfl) hI hS h
  · have h := it_f h hc
    exact t_Mo_answer_26 X (lv_sub hl [2, 1] rfl) hI hS h
set_option maxRecDepth 100000 in
set_option maxHeartbeats 4000000 in
theorem c_Mo_answer {l : Launch} {D : va_G} {A : Nat → Prop} {g : Nat → ClassId} {rest : va_W} {a0 : Nat → Nat} {s0 : S_Mo} {x1 : Int32} {out : S_Mo} (h : F_Mo_answer s0 x1 = some out) : Met l y_Mo_answer ws_Mo_answer { frames := 8, cells := 0, slots := 0, locals := 201 } (PcW D A g [.ref (a0 0), .int x1] (w_Mo g a0 s0 ++ (rest))) (QcV D A g (fun (_ : Unit) => w_Mo g a0 out ++ (rest))) 0 0 A := by
  refine Met.ofW (cc := prog_11_method_44_code) (maxL := 5) (ret := none) (by decide) rfl ?_
  intro p e s m args below meth c s₁ B hml hv
  obtain ⟨rfl, hI, hK⟩ := hv
  have hl := lv_entry [.ref (a0 0), .int x1] (n := 5) (Nat.le_of_ble_eq_true rfl)
  rw [lg_entry_eq]
  generalize (lg_sl [.ref (a0 0), .int x1] ++ List.replicate (5 - (lg_sl [.ref (a0 0), .int x1]).length) Slot.unset).toArray = ls at hl ⊢
  have hl : lv_has ls 5 [(0, .ref (a0 0)), (1, .int x1)] := hl
  exact t_Mo_answer_0 ⟨B.exec, B.bytes, hml, findClass_of_methodNamed B.named, atoms_spec (ws := ws_Mo_answer) B.pre, B.returns, B.notSynchronized, hK⟩ (lv_sub hl [0, 1] rfl) hI va_S.rf h
def ws_Mo_commanded : List Cond := .code y_Mo_commanded prog_11_method_41_code 4 (some .boolean) :: TB
def B_Mo_commanded_83 (s0 : S_Mo) : Option (Int32 × S_Mo) :=
  some ((0 : Int32), s0)
def B_Mo_commanded_128 (s0 : S_Mo) : Option (Int32 × S_Mo) :=
  some ((1 : Int32), s0)
def B_Mo_commanded_123 (s0 : S_Mo) : Option (Int32 × S_Mo) :=
  ((F_Mo_answer s0 (0 : Int32)).bind fun o1 => (B_Mo_commanded_128 o1))
def B_Mo_commanded_115 (s0 : S_Mo) : Option (Int32 × S_Mo) :=
  (B_Mo_commanded_128 (Mo_set_wanted s0 (1 : Int32)))
def B_Mo_commanded_85 (s0 : S_Mo) (x1 : Int32) (x2 : Int32) (x3 : Int32) : Option (Int32 × S_Mo) :=
  (if (x1 < 0 ∨ 260 ≤ x1.toNatClampNeg) then none else (if (x2 < 0 ∨ 260 ≤ x2.toNatClampNeg) then none else (if (x3 < 0 ∨ 260 ≤ x3.toNatClampNeg) then none else (if ((Mo_value (Mo_set_message (Mo_set_what s0 ((Mo_value s0) x1.toNatClampNeg)) ((Mo_value (Mo_set_what s0 ((Mo_value s0) x1.toNatClampNeg))) x2.toNatClampNeg))) x3.toNatClampNeg) = (1 : Int32) then (B_Mo_commanded_115 (Mo_set_message (Mo_set_what s0 ((Mo_value s0) x1.toNatClampNeg)) ((Mo_value (Mo_set_what s0 ((Mo_value s0) x1.toNatClampNeg))) x2.toNatClampNeg))) else (B_Mo_commanded_123 (Mo_set_message (Mo_set_what s0 ((Mo_value s0) x1.toNatClampNeg)) ((Mo_value (Mo_set_what s0 ((Mo_value s0) x1.toNatClampNeg))) x2.toNatClampNeg)))))))
def B_Mo_commanded_79 (s0 : S_Mo) (x1 : Int32) (x2 : Int32) (x3 : Int32) : Option (Int32 × S_Mo) :=
  (if 0 ≤ x3 then (B_Mo_commanded_85 s0 x1 x2 x3) else (B_Mo_commanded_83 s0))
def B_Mo_commanded_75 (s0 : S_Mo) (x1 : Int32) (x2 : Int32) (x3 : Int32) : Option (Int32 × S_Mo) :=
  (if x2 < 0 then (B_Mo_commanded_83 s0) else (B_Mo_commanded_79 s0 x1 x2 x3))
def B_Mo_commanded_43 (s0 : S_Mo) : Option (Int32 × S_Mo) :=
  ((F_Mo_numberAt s0 (1 : Int32) (1 : Int32) (3 : Int32)).bind fun o1 => ((F_Mo_numberAt s0 (2 : Int32) ((-2147483648) : Int32) (2147483647 : Int32)).bind fun o3 => ((F_Mo_numberAt s0 (3 : Int32) (0 : Int32) (1 : Int32)).bind fun o5 => (if o1 < 0 then (B_Mo_commanded_83 s0) else (B_Mo_commanded_75 s0 o1 o3 o5)))))
def B_Mo_commanded_41 (s0 : S_Mo) : Option (Int32 × S_Mo) :=
  some ((0 : Int32), s0)
def B_Mo_commanded_28 (s0 : S_Mo) : Option (Int32 × S_Mo) :=
  ((F_Mo_read s0 (0 : Int32) (Mo_commands s0) (1 : Int32)).bind fun o1 => (if o1.1 = 0 then (B_Mo_commanded_41 o1.2) else (B_Mo_commanded_43 o1.2)))
def B_Mo_commanded_10 (k2 : S_Mo × Int32 → Option (Int32 × S_Mo)) (s0 : S_Mo) (x1 : Int32) : Option (Int32 × S_Mo) :=
  (if (x1 < 0 ∨ 200 ≤ x1.toNatClampNeg) then none else (if (x1 < 0 ∨ 240 ≤ x1.toNatClampNeg) then none else (k2 ((Mo_set_source s0 (upd (Mo_source s0) x1.toNatClampNeg ((Mo_command s0) x1.toNatClampNeg))), (x1 + 1)))))
def B_Mo_commanded_2 (k2 : S_Mo × Int32 → Option (Int32 × S_Mo)) (s0 : S_Mo) (x1 : Int32) : Option (Int32 × S_Mo) :=
  (if (Mo_commands s0) ≤ x1 then (B_Mo_commanded_28 s0) else (B_Mo_commanded_10 k2 s0 x1))
def L_Mo_commanded_2 (v : S_Mo × Int32) : Option (Int32 × S_Mo) := lp (fun k2 v => B_Mo_commanded_2  k2  v.1 v.2) FU v
def B_Mo_commanded_0 (s0 : S_Mo) : Option (Int32 × S_Mo) :=
  (L_Mo_commanded_2 (s0, (0 : Int32)))
def F_Mo_commanded (s0 : S_Mo) : Option (Int32 × S_Mo) := B_Mo_commanded_0 s0
set_option maxRecDepth 100000 in
set_option maxHeartbeats 4000000 in
theorem t_Mo_commanded_83 {p : Program} {l : Launch} {e : Env} {s : State} {m : MethodId} {args : Array Value} {below : List Frame} {meth : Method} {c : Code} {D : va_G} {A : Nat → Prop} {g : Nat → ClassId} {rest : va_W} {a0 : Nat → Nat} {ls : Array Slot} {H : Heap} {locs : List Loc} {s0 : S_Mo} {out : Int32 × S_Mo} (X : Cx p s m args meth c prog_11_method_41_code 4 ws_Mo_commanded R_Mo (some .boolean) D g) (hl : lv_has ls 4 []) (hI : Iw D A (w_Mo g a0 s0 ++ (rest)) H) (hS : va_S A s.heap H locs) (h : B_Mo_commanded_83  s0 = some out) : W p l e (headSpec ws_Mo_commanded { frames := 9, cells := 0, slots := 0, locals := 225 }).room s m args below meth c H locs 0 0 (MQ below (QcI D A g out.1 (fun (_ : Unit) => w_Mo g a0 out.2 ++ (rest))) args s 0 0 A) (F0 m 83 ls []) := by
  have X1 := X
  obtain ⟨hx, hb, hml, hown, hts, hr, hlocks, hKK⟩ := X1
  have ht : ∀ w ∈ TB, w.before args s = true := fun w h => hts w (List.mem_cons_of_mem _ h)
  have hK := hKK.1
  unfold B_Mo_commanded_83 at h
  refine lv_iconst (v := 0) hx hb d_Mo_commanded_83 (by decide) ?_
  have h9 := Option.some.inj h
  subst h9
  exact W.zret (v := (0 : Int32)) hx hb hr rfl (fun t ht hW => ⟨⟨_, (), rfl, rfl, ⟨by rw [ht]; exact hI, hKK.moved hW⟩⟩, hS.F ht⟩) hS.2.2 d_Mo_commanded_84
set_option maxRecDepth 100000 in
set_option maxHeartbeats 4000000 in
theorem t_Mo_commanded_128 {p : Program} {l : Launch} {e : Env} {s : State} {m : MethodId} {args : Array Value} {below : List Frame} {meth : Method} {c : Code} {D : va_G} {A : Nat → Prop} {g : Nat → ClassId} {rest : va_W} {a0 : Nat → Nat} {ls : Array Slot} {H : Heap} {locs : List Loc} {s0 : S_Mo} {out : Int32 × S_Mo} (X : Cx p s m args meth c prog_11_method_41_code 4 ws_Mo_commanded R_Mo (some .boolean) D g) (hl : lv_has ls 4 []) (hI : Iw D A (w_Mo g a0 s0 ++ (rest)) H) (hS : va_S A s.heap H locs) (h : B_Mo_commanded_128  s0 = some out) : W p l e (headSpec ws_Mo_commanded { frames := 9, cells := 0, slots := 0, locals := 225 }).room s m args below meth c H locs 0 0 (MQ below (QcI D A g out.1 (fun (_ : Unit) => w_Mo g a0 out.2 ++ (rest))) args s 0 0 A) (F0 m 128 ls []) := by
  have X1 := X
  obtain ⟨hx, hb, hml, hown, hts, hr, hlocks, hKK⟩ := X1
  have ht : ∀ w ∈ TB, w.before args s = true := fun w h => hts w (List.mem_cons_of_mem _ h)
  have hK := hKK.1
  unfold B_Mo_commanded_128 at h
  refine lv_iconst (v := 1) hx hb d_Mo_commanded_128 (by decide) ?_
  have h9 := Option.some.inj h
  subst h9
  exact W.zret (v := (1 : Int32)) hx hb hr rfl (fun t ht hW => ⟨⟨_, (), rfl, rfl, ⟨by rw [ht]; exact hI, hKK.moved hW⟩⟩, hS.F ht⟩) hS.2.2 d_Mo_commanded_129
set_option maxRecDepth 100000 in
set_option maxHeartbeats 4000000 in
theorem t_Mo_commanded_123 {p : Program} {l : Launch} {e : Env} {s : State} {m : MethodId} {args : Array Value} {below : List Frame} {meth : Method} {c : Code} {D : va_G} {A : Nat → Prop} {g : Nat → ClassId} {rest : va_W} {a0 : Nat → Nat} {ls : Array Slot} {H : Heap} {locs : List Loc} {s0 : S_Mo} {out : Int32 × S_Mo} (X : Cx p s m args meth c prog_11_method_41_code 4 ws_Mo_commanded R_Mo (some .boolean) D g) (hl : lv_has ls 4 [(0, .ref (a0 0))]) (hI : Iw D A (w_Mo g a0 s0 ++ (rest)) H) (hS : va_S A s.heap H locs) (h : B_Mo_commanded_123  s0 = some out) : W p l e (headSpec ws_Mo_commanded { frames := 9, cells := 0, slots := 0, locals := 225 }).room s m args below meth c H locs 0 0 (MQ below (QcI D A g out.1 (fun (_ : Unit) => w_Mo g a0 out.2 ++ (rest))) args s 0 0 A) (F0 m 123 ls []) := by
  have X1 := X
  obtain ⟨hx, hb, hml, hown, hts, hr, hlocks, hKK⟩ := X1
  have ht : ∀ w ∈ TB, w.before args s = true := fun w h => hts w (List.mem_cons_of_mem _ h)
  have hK := hKK.1
  unfold B_Mo_commanded_123 at h
  refine lv_aload_n hx hb d_Mo_commanded_123 rfl (lv_at hl 0 rfl) ?_
  refine lv_iconst (v := 0) hx hb d_Mo_commanded_124 (by decide) ?_
  obtain ⟨o1, ho2, h⟩ := bd_s h
  refine cl_v (W1 := fun (_ : Unit) => w_Mo g a0 o1 ++ (rest)) (va_runV (As := [.int (0 : Int32)]) (rest := []) ⟨hx, hb, hml, hown, ht⟩ (c_Mo_answer (l := l) (D := D) (A := A) (g := g) (rest := rest) (a0 := a0) ho2) (cwV 1 ht (gd_V m_1116 m_1118 mp_63 m_11 m_1119) rfl rfl rfl (by decide +kernel) ⟨(Nat.le_of_ble_eq_true rfl), (Nat.le_of_ble_eq_true rfl)⟩) (prV (ci := 9) (q0 := 0) hKK hI (List.Perm.refl _) rfl rfl rfl) rfl rfl hl.1 rfl (lv_room (Nat.le_of_ble_eq_true rfl)) d_Mo_commanded_125 ⟨(Nat.le_of_ble_eq_true rfl), (Nat.le_of_ble_eq_true rfl)⟩) hS (fun _ => ((List.Perm.refl _)).symm) (fun _ H locs hI hS => ?_)
  have hI : Iw D A (w_Mo g a0 o1 ++ (rest)) H := hI
  exact t_Mo_commanded_128 X (lv_sub hl [] rfl) hI hS h
set_option maxRecDepth 100000 in
set_option maxHeartbeats 4000000 in
theorem t_Mo_commanded_115 {p : Program} {l : Launch} {e : Env} {s : State} {m : MethodId} {args : Array Value} {below : List Frame} {meth : Method} {c : Code} {D : va_G} {A : Nat → Prop} {g : Nat → ClassId} {rest : va_W} {a0 : Nat → Nat} {ls : Array Slot} {H : Heap} {locs : List Loc} {s0 : S_Mo} {out : Int32 × S_Mo} (X : Cx p s m args meth c prog_11_method_41_code 4 ws_Mo_commanded R_Mo (some .boolean) D g) (hl : lv_has ls 4 [(0, .ref (a0 0))]) (hI : Iw D A (w_Mo g a0 s0 ++ (rest)) H) (hS : va_S A s.heap H locs) (h : B_Mo_commanded_115  s0 = some out) : W p l e (headSpec ws_Mo_commanded { frames := 9, cells := 0, slots := 0, locals := 225 }).room s m args below meth c H locs 0 0 (MQ below (QcI D A g out.1 (fun (_ : Unit) => w_Mo g a0 out.2 ++ (rest))) args s 0 0 A) (F0 m 115 ls []) := by
  have X1 := X
  obtain ⟨hx, hb, hml, hown, hts, hr, hlocks, hKK⟩ := X1
  have ht : ∀ w ∈ TB, w.before args s = true := fun w h => hts w (List.mem_cons_of_mem _ h)
  have hK := hKK.1
  unfold B_Mo_commanded_115 at h
  refine lv_aload_n hx hb d_Mo_commanded_115 rfl (lv_at hl 0 rfl) ?_
  refine lv_iconst (v := 1) hx hb d_Mo_commanded_116 (by decide) ?_
  refine pt_Mo_wanted hx hb ht hown hK hI hS (ht _ m_854) d_Mo_commanded_117 (fun H locs hI hS => ?_)
  refine lv_goto (tgt := 128) hx hb d_Mo_commanded_120 (by decide) ?_
  exact t_Mo_commanded_128 X (lv_sub hl [] rfl) hI hS h
set_option maxRecDepth 100000 in
set_option maxHeartbeats 4000000 in
theorem t_Mo_commanded_85 {p : Program} {l : Launch} {e : Env} {s : State} {m : MethodId} {args : Array Value} {below : List Frame} {meth : Method} {c : Code} {D : va_G} {A : Nat → Prop} {g : Nat → ClassId} {rest : va_W} {a0 : Nat → Nat} {ls : Array Slot} {H : Heap} {locs : List Loc} {s0 : S_Mo} {x1 : Int32} {x2 : Int32} {x3 : Int32} {out : Int32 × S_Mo} (X : Cx p s m args meth c prog_11_method_41_code 4 ws_Mo_commanded R_Mo (some .boolean) D g) (hl : lv_has ls 4 [(0, .ref (a0 0)), (1, .int x1), (2, .int x2), (3, .int x3)]) (hI : Iw D A (w_Mo g a0 s0 ++ (rest)) H) (hS : va_S A s.heap H locs) (h : B_Mo_commanded_85  s0 x1 x2 x3 = some out) : W p l e (headSpec ws_Mo_commanded { frames := 9, cells := 0, slots := 0, locals := 225 }).room s m args below meth c H locs 0 0 (MQ below (QcI D A g out.1 (fun (_ : Unit) => w_Mo g a0 out.2 ++ (rest))) args s 0 0 A) (F0 m 85 ls []) := by
  have X1 := X
  obtain ⟨hx, hb, hml, hown, hts, hr, hlocks, hKK⟩ := X1
  have ht : ∀ w ∈ TB, w.before args s = true := fun w h => hts w (List.mem_cons_of_mem _ h)
  have hK := hKK.1
  unfold B_Mo_commanded_85 at h
  refine lv_aload_n hx hb d_Mo_commanded_85 rfl (lv_at hl 0 rfl) ?_
  refine lv_aload_n hx hb d_Mo_commanded_86 rfl (lv_at hl 0 rfl) ?_
  refine gt_Mo_value hx hb ht hown hK hI (ht _ m_825) d_Mo_commanded_87 ?_
  refine lv_iload_n hx hb d_Mo_commanded_90 rfl (lv_at hl 1 rfl) ?_
  by_cases hc1 : (x1 < 0 ∨ 260 ≤ x1.toNatClampNeg)
  · exact no_s (it_t h hc1)
  have h := it_f h hc1
  refine al_Mo_value hx hb hK hI hc1 d_Mo_commanded_91 ?_
  refine pt_Mo_what hx hb ht hown hK hI hS (ht _ m_860) d_Mo_commanded_92 (fun H locs hI hS => ?_)
  refine lv_aload_n hx hb d_Mo_commanded_95 rfl (lv_at hl 0 rfl) ?_
  refine lv_aload_n hx hb d_Mo_commanded_96 rfl (lv_at hl 0 rfl) ?_
  refine gt_Mo_value hx hb ht hown hK hI (ht _ m_825) d_Mo_commanded_97 ?_
  refine lv_iload_n hx hb d_Mo_commanded_100 rfl (lv_at hl 2 rfl) ?_
  by_cases hc2 : (x2 < 0 ∨ 260 ≤ x2.toNatClampNeg)
  · exact no_s (it_t h hc2)
  have h := it_f h hc2
  refine al_Mo_value hx hb hK hI hc2 d_Mo_commanded_101 ?_
  refine pt_Mo_message hx hb ht hown hK hI hS (ht _ m_861) d_Mo_commanded_102 (fun H locs hI hS => ?_)
  refine lv_aload_n hx hb d_Mo_commanded_105 rfl (lv_at hl 0 rfl) ?_
  refine gt_Mo_value hx hb ht hown hK hI (ht _ m_825) d_Mo_commanded_106 ?_
  refine lv_iload_n hx hb d_Mo_commanded_109 rfl (lv_at hl 3 rfl) ?_
  by_cases hc3 : (x3 < 0 ∨ 260 ≤ x3.toNatClampNeg)
  · exact no_s (it_t h hc3)
  have h := it_f h hc3
  refine al_Mo_value hx hb hK hI hc3 d_Mo_commanded_110 ?_
  refine lv_iconst (v := 1) hx hb d_Mo_commanded_111 (by decide) ?_
  refine lv_icmp_ne (tgt := 123) hx hb d_Mo_commanded_112 (by decide) (fun hc => ?_) (fun hc => ?_)
  · have h := it_f h hc
    exact t_Mo_commanded_123 X (lv_sub hl [0] rfl) hI hS h
  · have h := it_t h hc
    exact t_Mo_commanded_115 X (lv_sub hl [0] rfl) hI hS h
set_option maxRecDepth 100000 in
set_option maxHeartbeats 4000000 in
theorem t_Mo_commanded_79 {p : Program} {l : Launch} {e : Env} {s : State} {m : MethodId} {args : Array Value} {below : List Frame} {meth : Method} {c : Code} {D : va_G} {A : Nat → Prop} {g : Nat → ClassId} {rest : va_W} {a0 : Nat → Nat} {ls : Array Slot} {H : Heap} {locs : List Loc} {s0 : S_Mo} {x1 : Int32} {x2 : Int32} {x3 : Int32} {out : Int32 × S_Mo} (X : Cx p s m args meth c prog_11_method_41_code 4 ws_Mo_commanded R_Mo (some .boolean) D g) (hl : lv_has ls 4 [(0, .ref (a0 0)), (1, .int x1), (2, .int x2), (3, .int x3)]) (hI : Iw D A (w_Mo g a0 s0 ++ (rest)) H) (hS : va_S A s.heap H locs) (h : B_Mo_commanded_79  s0 x1 x2 x3 = some out) : W p l e (headSpec ws_Mo_commanded { frames := 9, cells := 0, slots := 0, locals := 225 }).room s m args below meth c H locs 0 0 (MQ below (QcI D A g out.1 (fun (_ : Unit) => w_Mo g a0 out.2 ++ (rest))) args s 0 0 A) (F0 m 79 ls []) := by
  have X1 := X
  obtain ⟨hx, hb, hml, hown, hts, hr, hlocks, hKK⟩ := X1
  have ht : ∀ w ∈ TB, w.before args s = true := fun w h => hts w (List.mem_cons_of_mem _ h)
  have hK := hKK.1
  unfold B_Mo_commanded_79 at h
  refine lv_iload_n hx hb d_Mo_commanded_79 rfl (lv_at hl 3 rfl) ?_
  refine lv_if_ge (tgt := 85) hx hb d_Mo_commanded_80 (by decide) (fun hc => ?_) (fun hc => ?_)
  · have h := it_t h hc
    exact t_Mo_commanded_85 X (lv_sub hl [0, 1, 2, 3] rfl) hI hS h
  · have h := it_f h hc
    exact t_Mo_commanded_83 X (lv_sub hl [] rfl) hI hS h
set_option maxRecDepth 100000 in
set_option maxHeartbeats 4000000 in
theorem t_Mo_commanded_75 {p : Program} {l : Launch} {e : Env} {s : State} {m : MethodId} {args : Array Value} {below : List Frame} {meth : Method} {c : Code} {D : va_G} {A : Nat → Prop} {g : Nat → ClassId} {rest : va_W} {a0 : Nat → Nat} {ls : Array Slot} {H : Heap} {locs : List Loc} {s0 : S_Mo} {x1 : Int32} {x2 : Int32} {x3 : Int32} {out : Int32 × S_Mo} (X : Cx p s m args meth c prog_11_method_41_code 4 ws_Mo_commanded R_Mo (some .boolean) D g) (hl : lv_has ls 4 [(0, .ref (a0 0)), (1, .int x1), (2, .int x2), (3, .int x3)]) (hI : Iw D A (w_Mo g a0 s0 ++ (rest)) H) (hS : va_S A s.heap H locs) (h : B_Mo_commanded_75  s0 x1 x2 x3 = some out) : W p l e (headSpec ws_Mo_commanded { frames := 9, cells := 0, slots := 0, locals := 225 }).room s m args below meth c H locs 0 0 (MQ below (QcI D A g out.1 (fun (_ : Unit) => w_Mo g a0 out.2 ++ (rest))) args s 0 0 A) (F0 m 75 ls []) := by
  have X1 := X
  obtain ⟨hx, hb, hml, hown, hts, hr, hlocks, hKK⟩ := X1
  have ht : ∀ w ∈ TB, w.before args s = true := fun w h => hts w (List.mem_cons_of_mem _ h)
  have hK := hKK.1
  unfold B_Mo_commanded_75 at h
  refine lv_iload_n hx hb d_Mo_commanded_75 rfl (lv_at hl 2 rfl) ?_
  refine lv_if_lt (tgt := 83) hx hb d_Mo_commanded_76 (by decide) (fun hc => ?_) (fun hc => ?_)
  · have h := it_t h hc
    exact t_Mo_commanded_83 X (lv_sub hl [] rfl) hI hS h
  · have h := it_f h hc
    exact t_Mo_commanded_79 X (lv_sub hl [0, 1, 2, 3] rfl) hI hS h
set_option maxRecDepth 100000 in
set_option maxHeartbeats 4000000 in
theorem t_Mo_commanded_43 {p : Program} {l : Launch} {e : Env} {s : State} {m : MethodId} {args : Array Value} {below : List Frame} {meth : Method} {c : Code} {D : va_G} {A : Nat → Prop} {g : Nat → ClassId} {rest : va_W} {a0 : Nat → Nat} {ls : Array Slot} {H : Heap} {locs : List Loc} {s0 : S_Mo} {out : Int32 × S_Mo} (X : Cx p s m args meth c prog_11_method_41_code 4 ws_Mo_commanded R_Mo (some .boolean) D g) (hl : lv_has ls 4 [(0, .ref (a0 0))]) (hI : Iw D A (w_Mo g a0 s0 ++ (rest)) H) (hS : va_S A s.heap H locs) (h : B_Mo_commanded_43  s0 = some out) : W p l e (headSpec ws_Mo_commanded { frames := 9, cells := 0, slots := 0, locals := 225 }).room s m args below meth c H locs 0 0 (MQ below (QcI D A g out.1 (fun (_ : Unit) => w_Mo g a0 out.2 ++ (rest))) args s 0 0 A) (F0 m 43 ls []) := by
  have X1 := X
  obtain ⟨hx, hb, hml, hown, hts, hr, hlocks, hKK⟩ := X1
  have ht : ∀ w ∈ TB, w.before args s = true := fun w h => hts w (List.mem_cons_of_mem _ h)
  have hK := hKK.1
  unfold B_Mo_commanded_43 at h
  refine lv_aload_n hx hb d_Mo_commanded_43 rfl (lv_at hl 0 rfl) ?_
  refine lv_iconst (v := 1) hx hb d_Mo_commanded_44 (by decide) ?_
  refine lv_iconst (v := 1) hx hb d_Mo_commanded_45 (by decide) ?_
  refine lv_iconst (v := 3) hx hb d_Mo_commanded_46 (by decide) ?_
  obtain ⟨o1, ho2, h⟩ := bd_s h
  refine cl_i (W1 := fun (_ : Unit) => w_Mo g a0 s0 ++ (rest)) (va_runV (As := [.int (1 : Int32), .int (1 : Int32), .int (3 : Int32)]) (rest := []) ⟨hx, hb, hml, hown, ht⟩ (c_Mo_numberAt (l := l) (D := D) (A := A) (g := g) (rest := rest) (a0 := a0) ho2) (cwV 3 ht (gd_V m_1172 m_1174 mp_77 m_11 m_1175) rfl rfl rfl (by decide +kernel) ⟨(Nat.le_of_ble_eq_true rfl), (Nat.le_of_ble_eq_true rfl)⟩) (prV (ci := 9) (q0 := 0) hKK hI (List.Perm.refl _) rfl rfl rfl) rfl rfl hl.1 rfl (lv_room (Nat.le_of_ble_eq_true rfl)) d_Mo_commanded_47 ⟨(Nat.le_of_ble_eq_true rfl), (Nat.le_of_ble_eq_true rfl)⟩) hS (fun _ => ((List.Perm.refl _)).symm) (fun _ H locs hI hS => ?_)
  have hI : Iw D A (w_Mo g a0 s0 ++ (rest)) H := hI
  refine lv_istore_n hx hb d_Mo_commanded_50 rfl hl (Nat.le_of_ble_eq_true rfl) rfl (fun ls hl => ?_)
  have hl : lv_has ls 4 [(1, .int o1), (0, .ref (a0 0))] := hl
  refine lv_aload_n hx hb d_Mo_commanded_51 rfl (lv_at hl 1 rfl) ?_
  refine lv_iconst (v := 2) hx hb d_Mo_commanded_52 (by decide) ?_
  refine lv_ldcw (v := (-2147483648)) hx hb hown (ht _ m_1176) d_Mo_commanded_53 ?_
  refine lv_ldcw (v := 2147483647) hx hb hown (ht _ m_1177) d_Mo_commanded_56 ?_
  obtain ⟨o3, ho4, h⟩ := bd_s h
  refine cl_i (W1 := fun (_ : Unit) => w_Mo g a0 s0 ++ (rest)) (va_runV (As := [.int (2 : Int32), .int ((-2147483648) : Int32), .int (2147483647 : Int32)]) (rest := []) ⟨hx, hb, hml, hown, ht⟩ (c_Mo_numberAt (l := l) (D := D) (A := A) (g := g) (rest := rest) (a0 := a0) ho4) (cwV 3 ht (gd_V m_1172 m_1174 mp_77 m_11 m_1175) rfl rfl rfl (by decide +kernel) ⟨(Nat.le_of_ble_eq_true rfl), (Nat.le_of_ble_eq_true rfl)⟩) (prV (ci := 9) (q0 := 0) hKK hI (List.Perm.refl _) rfl rfl rfl) rfl rfl hl.1 rfl (lv_room (Nat.le_of_ble_eq_true rfl)) d_Mo_commanded_59 ⟨(Nat.le_of_ble_eq_true rfl), (Nat.le_of_ble_eq_true rfl)⟩) hS (fun _ => ((List.Perm.refl _)).symm) (fun _ H locs hI hS => ?_)
  have hI : Iw D A (w_Mo g a0 s0 ++ (rest)) H := hI
  refine lv_istore_n hx hb d_Mo_commanded_62 rfl hl (Nat.le_of_ble_eq_true rfl) rfl (fun ls hl => ?_)
  have hl : lv_has ls 4 [(2, .int o3), (1, .int o1), (0, .ref (a0 0))] := hl
  refine lv_aload_n hx hb d_Mo_commanded_63 rfl (lv_at hl 2 rfl) ?_
  refine lv_iconst (v := 3) hx hb d_Mo_commanded_64 (by decide) ?_
  refine lv_iconst (v := 0) hx hb d_Mo_commanded_65 (by decide) ?_
  refine lv_iconst (v := 1) hx hb d_Mo_commanded_66 (by decide) ?_
  obtain ⟨o5, ho6, h⟩ := bd_s h
  refine cl_i (W1 := fun (_ : Unit) => w_Mo g a0 s0 ++ (rest)) (va_runV (As := [.int (3 : Int32), .int (0 : Int32), .int (1 : Int32)]) (rest := []) ⟨hx, hb, hml, hown, ht⟩ (c_Mo_numberAt (l := l) (D := D) (A := A) (g := g) (rest := rest) (a0 := a0) ho6) (cwV 3 ht (gd_V m_1172 m_1174 mp_77 m_11 m_1175) rfl rfl rfl (by decide +kernel) ⟨(Nat.le_of_ble_eq_true rfl), (Nat.le_of_ble_eq_true rfl)⟩) (prV (ci := 9) (q0 := 0) hKK hI (List.Perm.refl _) rfl rfl rfl) rfl rfl hl.1 rfl (lv_room (Nat.le_of_ble_eq_true rfl)) d_Mo_commanded_67 ⟨(Nat.le_of_ble_eq_true rfl), (Nat.le_of_ble_eq_true rfl)⟩) hS (fun _ => ((List.Perm.refl _)).symm) (fun _ H locs hI hS => ?_)
  have hI : Iw D A (w_Mo g a0 s0 ++ (rest)) H := hI
  refine lv_istore_n hx hb d_Mo_commanded_70 rfl hl (Nat.le_of_ble_eq_true rfl) rfl (fun ls hl => ?_)
  have hl : lv_has ls 4 [(3, .int o5), (2, .int o3), (1, .int o1), (0, .ref (a0 0))] := hl
  refine lv_iload_n hx hb d_Mo_commanded_71 rfl (lv_at hl 2 rfl) ?_
  refine lv_if_lt (tgt := 83) hx hb d_Mo_commanded_72 (by decide) (fun hc => ?_) (fun hc => ?_)
  · have h := it_t h hc
    exact t_Mo_commanded_83 X (lv_sub hl [] rfl) hI hS h
  · have h := it_f h hc
    exact t_Mo_commanded_75 X (lv_sub hl [3, 2, 1, 0] rfl) hI hS h
set_option maxRecDepth 100000 in
set_option maxHeartbeats 4000000 in
theorem t_Mo_commanded_41 {p : Program} {l : Launch} {e : Env} {s : State} {m : MethodId} {args : Array Value} {below : List Frame} {meth : Method} {c : Code} {D : va_G} {A : Nat → Prop} {g : Nat → ClassId} {rest : va_W} {a0 : Nat → Nat} {ls : Array Slot} {H : Heap} {locs : List Loc} {s0 : S_Mo} {out : Int32 × S_Mo} (X : Cx p s m args meth c prog_11_method_41_code 4 ws_Mo_commanded R_Mo (some .boolean) D g) (hl : lv_has ls 4 []) (hI : Iw D A (w_Mo g a0 s0 ++ (rest)) H) (hS : va_S A s.heap H locs) (h : B_Mo_commanded_41  s0 = some out) : W p l e (headSpec ws_Mo_commanded { frames := 9, cells := 0, slots := 0, locals := 225 }).room s m args below meth c H locs 0 0 (MQ below (QcI D A g out.1 (fun (_ : Unit) => w_Mo g a0 out.2 ++ (rest))) args s 0 0 A) (F0 m 41 ls []) := by
  have X1 := X
  obtain ⟨hx, hb, hml, hown, hts, hr, hlocks, hKK⟩ := X1
  have ht : ∀ w ∈ TB, w.before args s = true := fun w h => hts w (List.mem_cons_of_mem _ h)
  have hK := hKK.1
  unfold B_Mo_commanded_41 at h
  refine lv_iconst (v := 0) hx hb d_Mo_commanded_41 (by decide) ?_
  have h9 := Option.some.inj h
  subst h9
  exact W.zret (v := (0 : Int32)) hx hb hr rfl (fun t ht hW => ⟨⟨_, (), rfl, rfl, ⟨by rw [ht]; exact hI, hKK.moved hW⟩⟩, hS.F ht⟩) hS.2.2 d_Mo_commanded_42
set_option maxRecDepth 100000 in
set_option maxHeartbeats 4000000 in
theorem t_Mo_commanded_28 {p : Program} {l : Launch} {e : Env} {s : State} {m : MethodId} {args : Array Value} {below : List Frame} {meth : Method} {c : Code} {D : va_G} {A : Nat → Prop} {g : Nat → ClassId} {rest : va_W} {a0 : Nat → Nat} {ls : Array Slot} {H : Heap} {locs : List Loc} {s0 : S_Mo} {out : Int32 × S_Mo} (X : Cx p s m args meth c prog_11_method_41_code 4 ws_Mo_commanded R_Mo (some .boolean) D g) (hl : lv_has ls 4 [(0, .ref (a0 0))]) (hI : Iw D A (w_Mo g a0 s0 ++ (rest)) H) (hS : va_S A s.heap H locs) (h : B_Mo_commanded_28  s0 = some out) : W p l e (headSpec ws_Mo_commanded { frames := 9, cells := 0, slots := 0, locals := 225 }).room s m args below meth c H locs 0 0 (MQ below (QcI D A g out.1 (fun (_ : Unit) => w_Mo g a0 out.2 ++ (rest))) args s 0 0 A) (F0 m 28 ls []) := by
  have X1 := X
  obtain ⟨hx, hb, hml, hown, hts, hr, hlocks, hKK⟩ := X1
  have ht : ∀ w ∈ TB, w.before args s = true := fun w h => hts w (List.mem_cons_of_mem _ h)
  have hK := hKK.1
  unfold B_Mo_commanded_28 at h
  refine lv_aload_n hx hb d_Mo_commanded_28 rfl (lv_at hl 0 rfl) ?_
  refine lv_iconst (v := 0) hx hb d_Mo_commanded_29 (by decide) ?_
  refine lv_aload_n hx hb d_Mo_commanded_30 rfl (lv_at hl 0 rfl) ?_
  refine gt_Mo_commands hx hb ht hown hK hI (ht _ m_856) d_Mo_commanded_31 ?_
  refine lv_iconst (v := 1) hx hb d_Mo_commanded_34 (by decide) ?_
  obtain ⟨o1, ho2, h⟩ := bd_s h
  refine cl_i (W1 := fun (_ : Unit) => w_Mo g a0 o1.2 ++ (rest)) (va_runV (As := [.int (0 : Int32), .int (Mo_commands s0), .int (1 : Int32)]) (rest := []) ⟨hx, hb, hml, hown, ht⟩ (c_Mo_read (l := l) (D := D) (A := A) (g := g) (rest := rest) (a0 := a0) ho2) (cwV 3 ht (gd_V m_991 m_993 mp_38 m_11 m_994) rfl rfl rfl (by decide +kernel) ⟨(Nat.le_of_ble_eq_true rfl), (Nat.le_of_ble_eq_true rfl)⟩) (prV (ci := 9) (q0 := 0) hKK hI (List.Perm.refl _) rfl rfl rfl) rfl rfl hl.1 rfl (lv_room (Nat.le_of_ble_eq_true rfl)) d_Mo_commanded_35 ⟨(Nat.le_of_ble_eq_true rfl), (Nat.le_of_ble_eq_true rfl)⟩) hS (fun _ => ((List.Perm.refl _)).symm) (fun _ H locs hI hS => ?_)
  have hI : Iw D A (w_Mo g a0 o1.2 ++ (rest)) H := hI
  refine lv_if_ne (tgt := 43) hx hb d_Mo_commanded_38 (by decide) (fun hc => ?_) (fun hc => ?_)
  · have h := it_f h hc
    exact t_Mo_commanded_43 X (lv_sub hl [0] rfl) hI hS h
  · have h := it_t h hc
    exact t_Mo_commanded_41 X (lv_sub hl [] rfl) hI hS h
set_option maxRecDepth 100000 in
set_option maxHeartbeats 4000000 in
theorem t_Mo_commanded_10 {p : Program} {l : Launch} {e : Env} {s : State} {m : MethodId} {args : Array Value} {below : List Frame} {meth : Method} {c : Code} {D : va_G} {A : Nat → Prop} {g : Nat → ClassId} {rest : va_W} {a0 : Nat → Nat} {ls : Array Slot} {H : Heap} {locs : List Loc} {k2 : S_Mo × Int32 → Option (Int32 × S_Mo)} {s0 : S_Mo} {x1 : Int32} {out : Int32 × S_Mo} (X : Cx p s m args meth c prog_11_method_41_code 4 ws_Mo_commanded R_Mo (some .boolean) D g) (hk2 : ∀ (v : S_Mo × Int32) (ls : Array Slot) (H : Heap) (locs : List Loc), lv_has ls 4 [(0, .ref (a0 0)), (1, .int v.2)] → Iw D A (w_Mo g a0 v.1 ++ (rest)) H → va_S A s.heap H locs → k2 v = some out → W p l e (headSpec ws_Mo_commanded { frames := 9, cells := 0, slots := 0, locals := 225 }).room s m args below meth c H locs 0 0 (MQ below (QcI D A g out.1 (fun (_ : Unit) => w_Mo g a0 out.2 ++ (rest))) args s 0 0 A) (F0 m 2 ls [])) (hl : lv_has ls 4 [(0, .ref (a0 0)), (1, .int x1)]) (hI : Iw D A (w_Mo g a0 s0 ++ (rest)) H) (hS : va_S A s.heap H locs) (h : B_Mo_commanded_10 k2 s0 x1 = some out) : W p l e (headSpec ws_Mo_commanded { frames := 9, cells := 0, slots := 0, locals := 225 }).room s m args below meth c H locs 0 0 (MQ below (QcI D A g out.1 (fun (_ : Unit) => w_Mo g a0 out.2 ++ (rest))) args s 0 0 A) (F0 m 10 ls []) := by
  have X1 := X
  obtain ⟨hx, hb, hml, hown, hts, hr, hlocks, hKK⟩ := X1
  have ht : ∀ w ∈ TB, w.before args s = true := fun w h => hts w (List.mem_cons_of_mem _ h)
  have hK := hKK.1
  unfold B_Mo_commanded_10 at h
  refine lv_aload_n hx hb d_Mo_commanded_10 rfl (lv_at hl 0 rfl) ?_
  refine gt_Mo_source hx hb ht hown hK hI (ht _ m_820) d_Mo_commanded_11 ?_
  refine lv_iload_n hx hb d_Mo_commanded_14 rfl (lv_at hl 1 rfl) ?_
  refine lv_aload_n hx hb d_Mo_commanded_15 rfl (lv_at hl 0 rfl) ?_
  refine gt_Mo_command hx hb ht hown hK hI (ht _ m_855) d_Mo_commanded_16 ?_
  refine lv_iload_n hx hb d_Mo_commanded_19 rfl (lv_at hl 1 rfl) ?_
  by_cases hc1 : (x1 < 0 ∨ 200 ≤ x1.toNatClampNeg)
  · exact no_s (it_t h hc1)
  have h := it_f h hc1
  refine al_Mo_command hx hb hK hI hc1 d_Mo_commanded_20 ?_
  by_cases hc2 : (x1 < 0 ∨ 240 ≤ x1.toNatClampNeg)
  · exact no_s (it_t h hc2)
  have h := it_f h hc2
  refine as_Mo_source hx hb hK hI hS hc2 d_Mo_commanded_21 (fun H locs hI hS => ?_)
  refine lv_iinc (k := 1) (v := (x1 + 1)) hx hb d_Mo_commanded_22 hl rfl (congrArg (fun z => x1 + z) (by decide)) (Nat.le_of_ble_eq_true rfl) rfl (fun ls hl => ?_)
  have hl : lv_has ls 4 [(1, .int (x1 + 1)), (0, .ref (a0 0))] := hl
  refine lv_goto (tgt := 2) hx hb d_Mo_commanded_25 (by decide) ?_
  exact hk2 ((Mo_set_source s0 (upd (Mo_source s0) x1.toNatClampNeg ((Mo_command s0) x1.toNatClampNeg))), (x1 + 1)) _ _ _ (lv_sub hl [1, 0] rfl) hI hS h
set_option maxRecDepth 100000 in
set_option maxHeartbeats 4000000 in
theorem t_Mo_commanded_2 {p : Program} {l : Launch} {e : Env} {s : State} {m : MethodId} {args : Array Value} {below : List Frame} {meth : Method} {c : Code} {D : va_G} {A : Nat → Prop} {g : Nat → ClassId} {rest : va_W} {a0 : Nat → Nat} {ls : Array Slot} {H : Heap} {locs : List Loc} {k2 : S_Mo × Int32 → Option (Int32 × S_Mo)} {s0 : S_Mo} {x1 : Int32} {out : Int32 × S_Mo} (X : Cx p s m args meth c prog_11_method_41_code 4 ws_Mo_commanded R_Mo (some .boolean) D g) (hk2 : ∀ (v : S_Mo × Int32) (ls : Array Slot) (H : Heap) (locs : List Loc), lv_has ls 4 [(0, .ref (a0 0)), (1, .int v.2)] → Iw D A (w_Mo g a0 v.1 ++ (rest)) H → va_S A s.heap H locs → k2 v = some out → W p l e (headSpec ws_Mo_commanded { frames := 9, cells := 0, slots := 0, locals := 225 }).room s m args below meth c H locs 0 0 (MQ below (QcI D A g out.1 (fun (_ : Unit) => w_Mo g a0 out.2 ++ (rest))) args s 0 0 A) (F0 m 2 ls [])) (hl : lv_has ls 4 [(0, .ref (a0 0)), (1, .int x1)]) (hI : Iw D A (w_Mo g a0 s0 ++ (rest)) H) (hS : va_S A s.heap H locs) (h : B_Mo_commanded_2 k2 s0 x1 = some out) : W p l e (headSpec ws_Mo_commanded { frames := 9, cells := 0, slots := 0, locals := 225 }).room s m args below meth c H locs 0 0 (MQ below (QcI D A g out.1 (fun (_ : Unit) => w_Mo g a0 out.2 ++ (rest))) args s 0 0 A) (F0 m 2 ls []) := by
  have X1 := X
  obtain ⟨hx, hb, hml, hown, hts, hr, hlocks, hKK⟩ := X1
  have ht : ∀ w ∈ TB, w.before args s = true := fun w h => hts w (List.mem_cons_of_mem _ h)
  have hK := hKK.1
  unfold B_Mo_commanded_2 at h
  refine lv_iload_n hx hb d_Mo_commanded_2 rfl (lv_at hl 1 rfl) ?_
  refine lv_aload_n hx hb d_Mo_commanded_3 rfl (lv_at hl 0 rfl) ?_
  refine gt_Mo_commands hx hb ht hown hK hI (ht _ m_856) d_Mo_commanded_4 ?_
  refine lv_icmp_ge (tgt := 28) hx hb d_Mo_commanded_7 (by decide) (fun hc => ?_) (fun hc => ?_)
  · have h := it_t h hc
    exact t_Mo_commanded_28 X (lv_sub hl [0] rfl) hI hS h
  · have h := it_f h hc
    exact t_Mo_commanded_10 X hk2 (lv_sub hl [0, 1] rfl) hI hS h
set_option maxRecDepth 100000 in
set_option maxHeartbeats 4000000 in
theorem T_Mo_commanded_2 {p : Program} {l : Launch} {e : Env} {s : State} {m : MethodId} {args : Array Value} {below : List Frame} {meth : Method} {c : Code} {D : va_G} {A : Nat → Prop} {g : Nat → ClassId} {rest : va_W} {a0 : Nat → Nat} {ls : Array Slot} {H : Heap} {locs : List Loc} {s0 : S_Mo} {x1 : Int32} {out : Int32 × S_Mo} (X : Cx p s m args meth c prog_11_method_41_code 4 ws_Mo_commanded R_Mo (some .boolean) D g) (hl : lv_has ls 4 [(0, .ref (a0 0)), (1, .int x1)]) (hI : Iw D A (w_Mo g a0 s0 ++ (rest)) H) (hS : va_S A s.heap H locs) (h : L_Mo_commanded_2   (s0, x1) = some out) : W p l e (headSpec ws_Mo_commanded { frames := 9, cells := 0, slots := 0, locals := 225 }).room s m args below meth c H locs 0 0 (MQ below (QcI D A g out.1 (fun (_ : Unit) => w_Mo g a0 out.2 ++ (rest))) args s 0 0 A) (F0 m 2 ls []) := by
  unfold L_Mo_commanded_2 at h
  exact lp_ind (P := fun v => ∀ (ls : Array Slot) (H : Heap) (locs : List Loc), lv_has ls 4 [(0, .ref (a0 0)), (1, .int v.2)] → Iw D A (w_Mo g a0 v.1 ++ (rest)) H → va_S A s.heap H locs → W p l e (headSpec ws_Mo_commanded { frames := 9, cells := 0, slots := 0, locals := 225 }).room s m args below meth c H locs 0 0 (MQ below (QcI D A g out.1 (fun (_ : Unit) => w_Mo g a0 out.2 ++ (rest))) args s 0 0 A) (F0 m 2 ls [])) (fun k v ih hb ls H locs  hl hI hS => t_Mo_commanded_2 X  (fun v' ls H locs  hl hI hS h' => ih v' h' ls H locs  hl hI hS) hl hI hS hb) FU _ h ls H locs  hl hI hS
set_option maxRecDepth 100000 in
set_option maxHeartbeats 4000000 in
theorem t_Mo_commanded_0 {p : Program} {l : Launch} {e : Env} {s : State} {m : MethodId} {args : Array Value} {below : List Frame} {meth : Method} {c : Code} {D : va_G} {A : Nat → Prop} {g : Nat → ClassId} {rest : va_W} {a0 : Nat → Nat} {ls : Array Slot} {H : Heap} {locs : List Loc} {s0 : S_Mo} {out : Int32 × S_Mo} (X : Cx p s m args meth c prog_11_method_41_code 4 ws_Mo_commanded R_Mo (some .boolean) D g) (hl : lv_has ls 4 [(0, .ref (a0 0))]) (hI : Iw D A (w_Mo g a0 s0 ++ (rest)) H) (hS : va_S A s.heap H locs) (h : B_Mo_commanded_0  s0 = some out) : W p l e (headSpec ws_Mo_commanded { frames := 9, cells := 0, slots := 0, locals := 225 }).room s m args below meth c H locs 0 0 (MQ below (QcI D A g out.1 (fun (_ : Unit) => w_Mo g a0 out.2 ++ (rest))) args s 0 0 A) (F0 m 0 ls []) := by
  have X1 := X
  obtain ⟨hx, hb, hml, hown, hts, hr, hlocks, hKK⟩ := X1
  have ht : ∀ w ∈ TB, w.before args s = true := fun w h => hts w (List.mem_cons_of_mem _ h)
  have hK := hKK.1
  unfold B_Mo_commanded_0 at h
  refine lv_iconst (v := 0) hx hb d_Mo_commanded_0 (by decide) ?_
  refine lv_istore_n hx hb d_Mo_commanded_1 rfl hl (Nat.le_of_ble_eq_true rfl) rfl (fun ls hl => ?_)
  have hl : lv_has ls 4 [(1, .int (0 : Int32)), (0, .ref (a0 0))] := hl
  exact T_Mo_commanded_2 X (lv_sub hl [1, 0] rfl) hI hS h
set_option maxRecDepth 100000 in
set_option maxHeartbeats 4000000 in
theorem c_Mo_commanded {l : Launch} {D : va_G} {A : Nat → Prop} {g : Nat → ClassId} {rest : va_W} {a0 : Nat → Nat} {s0 : S_Mo} {out : Int32 × S_Mo} (h : F_Mo_commanded s0 = some out) : Met l y_Mo_commanded ws_Mo_commanded { frames := 9, cells := 0, slots := 0, locals := 225 } (PcW D A g [.ref (a0 0)] (w_Mo g a0 s0 ++ (rest))) (QcI D A g out.1 (fun (_ : Unit) => w_Mo g a0 out.2 ++ (rest))) 0 0 A := by
  refine Met.ofW (cc := prog_11_method_41_code) (maxL := 4) (ret := (some .boolean)) (by decide) rfl ?_
  intro p e s m args below meth c s₁ B hml hv
  obtain ⟨rfl, hI, hK⟩ := hv
  have hl := lv_entry [.ref (a0 0)] (n := 4) (Nat.le_of_ble_eq_true rfl)
  rw [lg_entry_eq]
  generalize (lg_sl [.ref (a0 0)] ++ List.replicate (4 - (lg_sl [.ref (a0 0)]).length) Slot.unset).toArray = ls at hl ⊢
  have hl : lv_has ls 4 [(0, .ref (a0 0))] := hl
  exact t_Mo_commanded_0 ⟨B.exec, B.bytes, hml, findClass_of_methodNamed B.named, atoms_spec (ws := ws_Mo_commanded) B.pre, B.returns, B.notSynchronized, hK⟩ (lv_sub hl [0] rfl) hI va_S.rf h
