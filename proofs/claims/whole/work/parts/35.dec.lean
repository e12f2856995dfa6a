theorem d_Rn_store_0 : decode prog_1_method_36_code 0 = .ok (.aload_n 0, 1) := by decide +kernel
theorem d_Rn_store_1 : decode prog_1_method_36_code 1 = .ok (.getfield 64, 3) := by decide +kernel
theorem d_Rn_store_4 : decode prog_1_method_36_code 4 = .ok (.invokevirtual 115, 3) := by decide +kernel
theorem d_Rn_store_7 : decode prog_1_method_36_code 7 = .ok (.astore_n 1, 1) := by decide +kernel
theorem d_Rn_store_8 : decode prog_1_method_36_code 8 = .ok (.aload_n 1, 1) := by decide +kernel
theorem d_Rn_store_9 : decode prog_1_method_36_code 9 = .ok (.iconst 0, 1) := by decide +kernel
theorem d_Rn_store_10 : decode prog_1_method_36_code 10 = .ok (.aload_n 0, 1) := by decide +kernel
theorem d_Rn_store_11 : decode prog_1_method_36_code 11 = .ok (.getfield 18, 3) := by decide +kernel
theorem d_Rn_store_14 : decode prog_1_method_36_code 14 = .ok (.invokevirtual 119, 3) := by decide +kernel
theorem d_Rn_store_17 : decode prog_1_method_36_code 17 = .ok (.ifCond .eq 16, 3) := by decide +kernel
theorem d_Rn_store_20 : decode prog_1_method_36_code 20 = .ok (.aload_n 0, 1) := by decide +kernel
theorem d_Rn_store_21 : decode prog_1_method_36_code 21 = .ok (.getfield 18, 3) := by decide +kernel
theorem d_Rn_store_24 : decode prog_1_method_36_code 24 = .ok (.invokevirtual 125, 3) := by decide +kernel
theorem d_Rn_store_27 : decode prog_1_method_36_code 27 = .ok (.sipush 198, 3) := by decide +kernel
theorem d_Rn_store_30 : decode prog_1_method_36_code 30 = .ok (.if_icmp .le 5, 3) := by decide +kernel
theorem d_Rn_store_33 : decode prog_1_method_36_code 33 = .ok (.iconst 3, 1) := by decide +kernel
theorem d_Rn_store_34 : decode prog_1_method_36_code 34 = .ok (.ireturn, 1) := by decide +kernel
theorem d_Rn_store_35 : decode prog_1_method_36_code 35 = .ok (.aload_n 1, 1) := by decide +kernel
theorem d_Rn_store_36 : decode prog_1_method_36_code 36 = .ok (.iconst 0, 1) := by decide +kernel
theorem d_Rn_store_37 : decode prog_1_method_36_code 37 = .ok (.bipush 80, 2) := by decide +kernel
theorem d_Rn_store_39 : decode prog_1_method_36_code 39 = .ok (.invokevirtual 268, 3) := by decide +kernel
theorem d_Rn_store_42 : decode prog_1_method_36_code 42 = .ok (.istore_n 2, 1) := by decide +kernel
theorem d_Rn_store_43 : decode prog_1_method_36_code 43 = .ok (.iload_n 2, 1) := by decide +kernel
theorem d_Rn_store_44 : decode prog_1_method_36_code 44 = .ok (.iconst (-1), 1) := by decide +kernel
theorem d_Rn_store_45 : decode prog_1_method_36_code 45 = .ok (.if_icmp .eq 11, 3) := by decide +kernel
theorem d_Rn_store_48 : decode prog_1_method_36_code 48 = .ok (.aload_n 1, 1) := by decide +kernel
theorem d_Rn_store_49 : decode prog_1_method_36_code 49 = .ok (.iload_n 2, 1) := by decide +kernel
theorem d_Rn_store_50 : decode prog_1_method_36_code 50 = .ok (.invokevirtual 271, 3) := by decide +kernel
theorem d_Rn_store_53 : decode prog_1_method_36_code 53 = .ok (.ifCond .ne 5, 3) := by decide +kernel
theorem d_Rn_store_56 : decode prog_1_method_36_code 56 = .ok (.iconst 4, 1) := by decide +kernel
theorem d_Rn_store_57 : decode prog_1_method_36_code 57 = .ok (.ireturn, 1) := by decide +kernel
theorem d_Rn_store_58 : decode prog_1_method_36_code 58 = .ok (.aload_n 0, 1) := by decide +kernel
theorem d_Rn_store_59 : decode prog_1_method_36_code 59 = .ok (.getfield 21, 3) := by decide +kernel
theorem d_Rn_store_62 : decode prog_1_method_36_code 62 = .ok (.invokevirtual 102, 3) := by decide +kernel
theorem d_Rn_store_65 : decode prog_1_method_36_code 65 = .ok (.aload_n 1, 1) := by decide +kernel
theorem d_Rn_store_66 : decode prog_1_method_36_code 66 = .ok (.iload_n 2, 1) := by decide +kernel
theorem d_Rn_store_67 : decode prog_1_method_36_code 67 = .ok (.aload_n 0, 1) := by decide +kernel
theorem d_Rn_store_68 : decode prog_1_method_36_code 68 = .ok (.getfield 21, 3) := by decide +kernel
theorem d_Rn_store_71 : decode prog_1_method_36_code 71 = .ok (.invokevirtual 274, 3) := by decide +kernel
theorem d_Rn_store_74 : decode prog_1_method_36_code 74 = .ok (.aload_n 0, 1) := by decide +kernel
theorem d_Rn_store_75 : decode prog_1_method_36_code 75 = .ok (.getfield 57, 3) := by decide +kernel
theorem d_Rn_store_78 : decode prog_1_method_36_code 78 = .ok (.aload_n 0, 1) := by decide +kernel
theorem d_Rn_store_79 : decode prog_1_method_36_code 79 = .ok (.getfield 21, 3) := by decide +kernel
theorem d_Rn_store_82 : decode prog_1_method_36_code 82 = .ok (.aload_n 0, 1) := by decide +kernel
theorem d_Rn_store_83 : decode prog_1_method_36_code 83 = .ok (.getfield 18, 3) := by decide +kernel
theorem d_Rn_store_86 : decode prog_1_method_36_code 86 = .ok (.invokevirtual 278, 3) := by decide +kernel
theorem d_Rn_store_89 : decode prog_1_method_36_code 89 = .ok (.ifCond .eq 7, 3) := by decide +kernel
theorem d_Rn_store_92 : decode prog_1_method_36_code 92 = .ok (.iconst 0, 1) := by decide +kernel
theorem d_Rn_store_93 : decode prog_1_method_36_code 93 = .ok (.goto 4, 3) := by decide +kernel
theorem d_Rn_store_96 : decode prog_1_method_36_code 96 = .ok (.iconst 5, 1) := by decide +kernel
theorem d_Rn_store_97 : decode prog_1_method_36_code 97 = .ok (.ireturn, 1) := by decide +kernel
def ws_Rn_store : List Cond := .code y_Rn_store prog_1_method_36_code 3 (some .int) :: TB
theorem d_Rn_find_0 : decode prog_1_method_37_code 0 = .ok (.aload_n 0, 1) := by decide +kernel
theorem d_Rn_find_1 : decode prog_1_method_37_code 1 = .ok (.getfield 64, 3) := by decide +kernel
theorem d_Rn_find_4 : decode prog_1_method_37_code 4 = .ok (.invokevirtual 115, 3) := by decide +kernel
theorem d_Rn_find_7 : decode prog_1_method_37_code 7 = .ok (.astore_n 1, 1) := by decide +kernel
theorem d_Rn_find_8 : decode prog_1_method_37_code 8 = .ok (.aload_n 0, 1) := by decide +kernel
theorem d_Rn_find_9 : decode prog_1_method_37_code 9 = .ok (.getfield 68, 3) := by decide +kernel
theorem d_Rn_find_12 : decode prog_1_method_37_code 12 = .ok (.invokevirtual 115, 3) := by decide +kernel
theorem d_Rn_find_15 : decode prog_1_method_37_code 15 = .ok (.astore_n 2, 1) := by decide +kernel
theorem d_Rn_find_16 : decode prog_1_method_37_code 16 = .ok (.aload_n 0, 1) := by decide +kernel
theorem d_Rn_find_17 : decode prog_1_method_37_code 17 = .ok (.getfield 43, 3) := by decide +kernel
theorem d_Rn_find_20 : decode prog_1_method_37_code 20 = .ok (.aload_n 0, 1) := by decide +kernel
theorem d_Rn_find_21 : decode prog_1_method_37_code 21 = .ok (.getfield 50, 3) := by decide +kernel
theorem d_Rn_find_24 : decode prog_1_method_37_code 24 = .ok (.invokevirtual 238, 3) := by decide +kernel
theorem d_Rn_find_27 : decode prog_1_method_37_code 27 = .ok (.invokevirtual 164, 3) := by decide +kernel
theorem d_Rn_find_30 : decode prog_1_method_37_code 30 = .ok (.istore_n 3, 1) := by decide +kernel
theorem d_Rn_find_31 : decode prog_1_method_37_code 31 = .ok (.iconst 0, 1) := by decide +kernel
theorem d_Rn_find_32 : decode prog_1_method_37_code 32 = .ok (.istore 4, 2) := by decide +kernel
theorem d_Rn_find_34 : decode prog_1_method_37_code 34 = .ok (.iload 4, 2) := by decide +kernel
theorem d_Rn_find_36 : decode prog_1_method_37_code 36 = .ok (.aload_n 0, 1) := by decide +kernel
theorem d_Rn_find_37 : decode prog_1_method_37_code 37 = .ok (.getfield 57, 3) := by decide +kernel
theorem d_Rn_find_40 : decode prog_1_method_37_code 40 = .ok (.invokevirtual 160, 3) := by decide +kernel
theorem d_Rn_find_43 : decode prog_1_method_37_code 43 = .ok (.if_icmp .ge 85, 3) := by decide +kernel
theorem d_Rn_find_46 : decode prog_1_method_37_code 46 = .ok (.aload_n 0, 1) := by decide +kernel
theorem d_Rn_find_47 : decode prog_1_method_37_code 47 = .ok (.getfield 78, 3) := by decide +kernel
theorem d_Rn_find_50 : decode prog_1_method_37_code 50 = .ok (.iconst 2, 1) := by decide +kernel
theorem d_Rn_find_51 : decode prog_1_method_37_code 51 = .ok (.if_icmp .ne 77, 3) := by decide +kernel
theorem d_Rn_find_54 : decode prog_1_method_37_code 54 = .ok (.aload_n 0, 1) := by decide +kernel
theorem d_Rn_find_55 : decode prog_1_method_37_code 55 = .ok (.getfield 68, 3) := by decide +kernel
theorem d_Rn_find_58 : decode prog_1_method_37_code 58 = .ok (.aload_n 0, 1) := by decide +kernel
theorem d_Rn_find_59 : decode prog_1_method_37_code 59 = .ok (.getfield 57, 3) := by decide +kernel
theorem d_Rn_find_62 : decode prog_1_method_37_code 62 = .ok (.iload 4, 2) := by decide +kernel
theorem d_Rn_find_64 : decode prog_1_method_37_code 64 = .ok (.invokevirtual 167, 3) := by decide +kernel
theorem d_Rn_find_67 : decode prog_1_method_37_code 67 = .ok (.iconst 0, 1) := by decide +kernel
theorem d_Rn_find_68 : decode prog_1_method_37_code 68 = .ok (.invokevirtual 111, 3) := by decide +kernel
theorem d_Rn_find_71 : decode prog_1_method_37_code 71 = .ok (.pop, 1) := by decide +kernel
theorem d_Rn_find_72 : decode prog_1_method_37_code 72 = .ok (.aload_n 0, 1) := by decide +kernel
theorem d_Rn_find_73 : decode prog_1_method_37_code 73 = .ok (.getfield 74, 3) := by decide +kernel
theorem d_Rn_find_76 : decode prog_1_method_37_code 76 = .ok (.aload_n 1, 1) := by decide +kernel
theorem d_Rn_find_77 : decode prog_1_method_37_code 77 = .ok (.iconst 0, 1) := by decide +kernel
theorem d_Rn_find_78 : decode prog_1_method_37_code 78 = .ok (.aload_n 2, 1) := by decide +kernel
theorem d_Rn_find_79 : decode prog_1_method_37_code 79 = .ok (.iconst 0, 1) := by decide +kernel
theorem d_Rn_find_80 : decode prog_1_method_37_code 80 = .ok (.iconst 0, 1) := by decide +kernel
theorem d_Rn_find_81 : decode prog_1_method_37_code 81 = .ok (.invokevirtual 282, 3) := by decide +kernel
theorem d_Rn_find_84 : decode prog_1_method_37_code 84 = .ok (.ifCond .eq 38, 3) := by decide +kernel
theorem d_Rn_find_87 : decode prog_1_method_37_code 87 = .ok (.aload_n 0, 1) := by decide +kernel
theorem d_Rn_find_88 : decode prog_1_method_37_code 88 = .ok (.iconst 1, 1) := by decide +kernel
theorem d_Rn_find_89 : decode prog_1_method_37_code 89 = .ok (.iconst 1, 1) := by decide +kernel
theorem d_Rn_find_90 : decode prog_1_method_37_code 90 = .ok (.invokevirtual 250, 3) := by decide +kernel
theorem d_Rn_find_93 : decode prog_1_method_37_code 93 = .ok (.aload_n 0, 1) := by decide +kernel
theorem d_Rn_find_94 : decode prog_1_method_37_code 94 = .ok (.getfield 78, 3) := by decide +kernel
theorem d_Rn_find_97 : decode prog_1_method_37_code 97 = .ok (.iconst 2, 1) := by decide +kernel
theorem d_Rn_find_98 : decode prog_1_method_37_code 98 = .ok (.if_icmp .ne 24, 3) := by decide +kernel
theorem d_Rn_find_101 : decode prog_1_method_37_code 101 = .ok (.aload_n 0, 1) := by decide +kernel
theorem d_Rn_find_102 : decode prog_1_method_37_code 102 = .ok (.iconst 2, 1) := by decide +kernel
theorem d_Rn_find_103 : decode prog_1_method_37_code 103 = .ok (.invokevirtual 258, 3) := by decide +kernel
theorem d_Rn_find_106 : decode prog_1_method_37_code 106 = .ok (.aload_n 2, 1) := by decide +kernel
theorem d_Rn_find_107 : decode prog_1_method_37_code 107 = .ok (.aload_n 1, 1) := by decide +kernel
theorem d_Rn_find_108 : decode prog_1_method_37_code 108 = .ok (.iload_n 3, 1) := by decide +kernel
theorem d_Rn_find_109 : decode prog_1_method_37_code 109 = .ok (.aload_n 0, 1) := by decide +kernel
theorem d_Rn_find_110 : decode prog_1_method_37_code 110 = .ok (.getfield 30, 3) := by decide +kernel
theorem d_Rn_find_113 : decode prog_1_method_37_code 113 = .ok (.invokevirtual 286, 3) := by decide +kernel
theorem d_Rn_find_116 : decode prog_1_method_37_code 116 = .ok (.aload_n 0, 1) := by decide +kernel
theorem d_Rn_find_117 : decode prog_1_method_37_code 117 = .ok (.iconst 4, 1) := by decide +kernel
theorem d_Rn_find_118 : decode prog_1_method_37_code 118 = .ok (.invokevirtual 172, 3) := by decide +kernel
theorem d_Rn_find_121 : decode prog_1_method_37_code 121 = .ok (.pop, 1) := by decide +kernel
theorem d_Rn_find_122 : decode prog_1_method_37_code 122 = .ok (.iinc 4 1, 3) := by decide +kernel
theorem d_Rn_find_125 : decode prog_1_method_37_code 125 = .ok (.goto (-91), 3) := by decide +kernel
theorem d_Rn_find_128 : decode prog_1_method_37_code 128 = .ok (.aload_n 0, 1) := by decide +kernel
theorem d_Rn_find_129 : decode prog_1_method_37_code 129 = .ok (.getfield 78, 3) := by decide +kernel
theorem d_Rn_find_132 : decode prog_1_method_37_code 132 = .ok (.iconst 2, 1) := by decide +kernel
theorem d_Rn_find_133 : decode prog_1_method_37_code 133 = .ok (.if_icmp .ne 9, 3) := by decide +kernel
theorem d_Rn_find_136 : decode prog_1_method_37_code 136 = .ok (.aload_n 0, 1) := by decide +kernel
theorem d_Rn_find_137 : decode prog_1_method_37_code 137 = .ok (.iconst 0, 1) := by decide +kernel
theorem d_Rn_find_138 : decode prog_1_method_37_code 138 = .ok (.iconst 0, 1) := by decide +kernel
theorem d_Rn_find_139 : decode prog_1_method_37_code 139 = .ok (.invokevirtual 250, 3) := by decide +kernel
theorem d_Rn_find_142 : decode prog_1_method_37_code 142 = .ok (.return_, 1) := by decide +kernel
def ws_Rn_find : List Cond := .code y_Rn_find prog_1_method_37_code 5 none :: TB
theorem d_Rn_record_0 : decode prog_1_method_15_code 0 = .ok (.iload_n 1, 1) := by decide +kernel
theorem d_Rn_record_1 : decode prog_1_method_15_code 1 = .ok (.ifCond .lt 34, 3) := by decide +kernel
theorem d_Rn_record_4 : decode prog_1_method_15_code 4 = .ok (.iload_n 1, 1) := by decide +kernel
theorem d_Rn_record_5 : decode prog_1_method_15_code 5 = .ok (.aload_n 0, 1) := by decide +kernel
theorem d_Rn_record_6 : decode prog_1_method_15_code 6 = .ok (.getfield 57, 3) := by decide +kernel
theorem d_Rn_record_9 : decode prog_1_method_15_code 9 = .ok (.invokevirtual 160, 3) := by decide +kernel
theorem d_Rn_record_12 : decode prog_1_method_15_code 12 = .ok (.if_icmp .ge 23, 3) := by decide +kernel
theorem d_Rn_record_15 : decode prog_1_method_15_code 15 = .ok (.iload_n 2, 1) := by decide +kernel
theorem d_Rn_record_16 : decode prog_1_method_15_code 16 = .ok (.iconst (-1), 1) := by decide +kernel
theorem d_Rn_record_17 : decode prog_1_method_15_code 17 = .ok (.if_icmp .lt 18, 3) := by decide +kernel
theorem d_Rn_record_20 : decode prog_1_method_15_code 20 = .ok (.iload_n 2, 1) := by decide +kernel
theorem d_Rn_record_21 : decode prog_1_method_15_code 21 = .ok (.aload_n 0, 1) := by decide +kernel
theorem d_Rn_record_22 : decode prog_1_method_15_code 22 = .ok (.getfield 57, 3) := by decide +kernel
theorem d_Rn_record_25 : decode prog_1_method_15_code 25 = .ok (.iload_n 1, 1) := by decide +kernel
theorem d_Rn_record_26 : decode prog_1_method_15_code 26 = .ok (.invokevirtual 167, 3) := by decide +kernel
theorem d_Rn_record_29 : decode prog_1_method_15_code 29 = .ok (.invokevirtual 125, 3) := by decide +kernel
theorem d_Rn_record_32 : decode prog_1_method_15_code 32 = .ok (.if_icmp .lt 11, 3) := by decide +kernel
theorem d_Rn_record_35 : decode prog_1_method_15_code 35 = .ok (.new 136, 3) := by decide +kernel
theorem d_Rn_record_38 : decode prog_1_method_15_code 38 = .ok (.dup, 1) := by decide +kernel
theorem d_Rn_record_39 : decode prog_1_method_15_code 39 = .ok (.invokespecial 138, 3) := by decide +kernel
theorem d_Rn_record_42 : decode prog_1_method_15_code 42 = .ok (.athrow, 1) := by decide +kernel
theorem d_Rn_record_43 : decode prog_1_method_15_code 43 = .ok (.iload_n 2, 1) := by decide +kernel
theorem d_Rn_record_44 : decode prog_1_method_15_code 44 = .ok (.iconst (-1), 1) := by decide +kernel
theorem d_Rn_record_45 : decode prog_1_method_15_code 45 = .ok (.if_icmp .ne 17, 3) := by decide +kernel
theorem d_Rn_record_48 : decode prog_1_method_15_code 48 = .ok (.aload_n 0, 1) := by decide +kernel
theorem d_Rn_record_49 : decode prog_1_method_15_code 49 = .ok (.getfield 57, 3) := by decide +kernel
theorem d_Rn_record_52 : decode prog_1_method_15_code 52 = .ok (.iload_n 1, 1) := by decide +kernel
theorem d_Rn_record_53 : decode prog_1_method_15_code 53 = .ok (.invokevirtual 167, 3) := by decide +kernel
theorem d_Rn_record_56 : decode prog_1_method_15_code 56 = .ok (.invokevirtual 125, 3) := by decide +kernel
theorem d_Rn_record_59 : decode prog_1_method_15_code 59 = .ok (.goto 15, 3) := by decide +kernel
theorem d_Rn_record_62 : decode prog_1_method_15_code 62 = .ok (.aload_n 0, 1) := by decide +kernel
theorem d_Rn_record_63 : decode prog_1_method_15_code 63 = .ok (.getfield 57, 3) := by decide +kernel
theorem d_Rn_record_66 : decode prog_1_method_15_code 66 = .ok (.iload_n 1, 1) := by decide +kernel
theorem d_Rn_record_67 : decode prog_1_method_15_code 67 = .ok (.invokevirtual 167, 3) := by decide +kernel
theorem d_Rn_record_70 : decode prog_1_method_15_code 70 = .ok (.iload_n 2, 1) := by decide +kernel
theorem d_Rn_record_71 : decode prog_1_method_15_code 71 = .ok (.invokevirtual 139, 3) := by decide +kernel
theorem d_Rn_record_74 : decode prog_1_method_15_code 74 = .ok (.ireturn, 1) := by decide +kernel
def ws_Rn_record : List Cond := .code y_Rn_record prog_1_method_15_code 3 (some .int) :: TB
theorem d_Rn_answer_0 : decode prog_1_method_33_code 0 = .ok (.aload_n 0, 1) := by decide +kernel
theorem d_Rn_answer_1 : decode prog_1_method_33_code 1 = .ok (.dup, 1) := by decide +kernel
theorem d_Rn_answer_2 : decode prog_1_method_33_code 2 = .ok (.getfield 85, 3) := by decide +kernel
theorem d_Rn_answer_5 : decode prog_1_method_33_code 5 = .ok (.iconst 1, 1) := by decide +kernel
theorem d_Rn_answer_6 : decode prog_1_method_33_code 6 = .ok (.iadd, 1) := by decide +kernel
theorem d_Rn_answer_7 : decode prog_1_method_33_code 7 = .ok (.putfield 85, 3) := by decide +kernel
theorem d_Rn_answer_10 : decode prog_1_method_33_code 10 = .ok (.aload_n 0, 1) := by decide +kernel
theorem d_Rn_answer_11 : decode prog_1_method_33_code 11 = .ok (.getfield 50, 3) := by decide +kernel
theorem d_Rn_answer_14 : decode prog_1_method_33_code 14 = .ok (.invokevirtual 238, 3) := by decide +kernel
theorem d_Rn_answer_17 : decode prog_1_method_33_code 17 = .ok (.istore_n 1, 1) := by decide +kernel
theorem d_Rn_answer_18 : decode prog_1_method_33_code 18 = .ok (.aload_n 0, 1) := by decide +kernel
theorem d_Rn_answer_19 : decode prog_1_method_33_code 19 = .ok (.getfield 50, 3) := by decide +kernel
theorem d_Rn_answer_22 : decode prog_1_method_33_code 22 = .ok (.invokevirtual 241, 3) := by decide +kernel
theorem d_Rn_answer_25 : decode prog_1_method_33_code 25 = .ok (.istore_n 2, 1) := by decide +kernel
theorem d_Rn_answer_26 : decode prog_1_method_33_code 26 = .ok (.aload_n 0, 1) := by decide +kernel
theorem d_Rn_answer_27 : decode prog_1_method_33_code 27 = .ok (.getfield 50, 3) := by decide +kernel
theorem d_Rn_answer_30 : decode prog_1_method_33_code 30 = .ok (.invokevirtual 244, 3) := by decide +kernel
theorem d_Rn_answer_33 : decode prog_1_method_33_code 33 = .ok (.ifCond .eq 29, 3) := by decide +kernel
theorem d_Rn_answer_36 : decode prog_1_method_33_code 36 = .ok (.aload_n 0, 1) := by decide +kernel
theorem d_Rn_answer_37 : decode prog_1_method_33_code 37 = .ok (.getfield 64, 3) := by decide +kernel
theorem d_Rn_answer_40 : decode prog_1_method_33_code 40 = .ok (.aload_n 0, 1) := by decide +kernel
theorem d_Rn_answer_41 : decode prog_1_method_33_code 41 = .ok (.getfield 27, 3) := by decide +kernel
theorem d_Rn_answer_44 : decode prog_1_method_33_code 44 = .ok (.aload_n 0, 1) := by decide +kernel
theorem d_Rn_answer_45 : decode prog_1_method_33_code 45 = .ok (.getfield 43, 3) := by decide +kernel
theorem d_Rn_answer_48 : decode prog_1_method_33_code 48 = .ok (.iload_n 1, 1) := by decide +kernel
theorem d_Rn_answer_49 : decode prog_1_method_33_code 49 = .ok (.invokevirtual 164, 3) := by decide +kernel
theorem d_Rn_answer_52 : decode prog_1_method_33_code 52 = .ok (.invokevirtual 111, 3) := by decide +kernel
theorem d_Rn_answer_55 : decode prog_1_method_33_code 55 = .ok (.ifCond .ne 7, 3) := by decide +kernel
theorem d_Rn_answer_58 : decode prog_1_method_33_code 58 = .ok (.iconst 1, 1) := by decide +kernel
theorem d_Rn_answer_59 : decode prog_1_method_33_code 59 = .ok (.goto 4, 3) := by decide +kernel
theorem d_Rn_answer_62 : decode prog_1_method_33_code 62 = .ok (.iconst 0, 1) := by decide +kernel
theorem d_Rn_answer_63 : decode prog_1_method_33_code 63 = .ok (.istore_n 3, 1) := by decide +kernel
theorem d_Rn_answer_64 : decode prog_1_method_33_code 64 = .ok (.iload_n 2, 1) := by decide +kernel
theorem d_Rn_answer_65 : decode prog_1_method_33_code 65 = .ok (.aload_n 0, 1) := by decide +kernel
theorem d_Rn_answer_66 : decode prog_1_method_33_code 66 = .ok (.getfield 43, 3) := by decide +kernel
theorem d_Rn_answer_69 : decode prog_1_method_33_code 69 = .ok (.iload_n 1, 1) := by decide +kernel
theorem d_Rn_answer_70 : decode prog_1_method_33_code 70 = .ok (.invokevirtual 247, 3) := by decide +kernel
theorem d_Rn_answer_73 : decode prog_1_method_33_code 73 = .ok (.if_icmp .eq 12, 3) := by decide +kernel
theorem d_Rn_answer_76 : decode prog_1_method_33_code 76 = .ok (.aload_n 0, 1) := by decide +kernel
theorem d_Rn_answer_77 : decode prog_1_method_33_code 77 = .ok (.iconst 2, 1) := by decide +kernel
theorem d_Rn_answer_78 : decode prog_1_method_33_code 78 = .ok (.iconst 0, 1) := by decide +kernel
theorem d_Rn_answer_79 : decode prog_1_method_33_code 79 = .ok (.invokevirtual 250, 3) := by decide +kernel
theorem d_Rn_answer_82 : decode prog_1_method_33_code 82 = .ok (.goto 51, 3) := by decide +kernel
theorem d_Rn_answer_85 : decode prog_1_method_33_code 85 = .ok (.iload_n 2, 1) := by decide +kernel
theorem d_Rn_answer_86 : decode prog_1_method_33_code 86 = .ok (.iconst 1, 1) := by decide +kernel
theorem d_Rn_answer_87 : decode prog_1_method_33_code 87 = .ok (.if_icmp .ne 12, 3) := by decide +kernel
theorem d_Rn_answer_90 : decode prog_1_method_33_code 90 = .ok (.aload_n 0, 1) := by decide +kernel
theorem d_Rn_answer_91 : decode prog_1_method_33_code 91 = .ok (.iconst 0, 1) := by decide +kernel
theorem d_Rn_answer_92 : decode prog_1_method_33_code 92 = .ok (.iconst 0, 1) := by decide +kernel
theorem d_Rn_answer_93 : decode prog_1_method_33_code 93 = .ok (.invokevirtual 250, 3) := by decide +kernel
theorem d_Rn_answer_96 : decode prog_1_method_33_code 96 = .ok (.goto 37, 3) := by decide +kernel
theorem d_Rn_answer_99 : decode prog_1_method_33_code 99 = .ok (.iload_n 3, 1) := by decide +kernel
theorem d_Rn_answer_100 : decode prog_1_method_33_code 100 = .ok (.ifCond .ne 12, 3) := by decide +kernel
theorem d_Rn_answer_103 : decode prog_1_method_33_code 103 = .ok (.aload_n 0, 1) := by decide +kernel
theorem d_Rn_answer_104 : decode prog_1_method_33_code 104 = .ok (.iconst 3, 1) := by decide +kernel
theorem d_Rn_answer_105 : decode prog_1_method_33_code 105 = .ok (.iconst 0, 1) := by decide +kernel
theorem d_Rn_answer_106 : decode prog_1_method_33_code 106 = .ok (.invokevirtual 250, 3) := by decide +kernel
theorem d_Rn_answer_109 : decode prog_1_method_33_code 109 = .ok (.goto 24, 3) := by decide +kernel
theorem d_Rn_answer_112 : decode prog_1_method_33_code 112 = .ok (.iload_n 2, 1) := by decide +kernel
theorem d_Rn_answer_113 : decode prog_1_method_33_code 113 = .ok (.iconst 2, 1) := by decide +kernel
theorem d_Rn_answer_114 : decode prog_1_method_33_code 114 = .ok (.if_icmp .ne 15, 3) := by decide +kernel
theorem d_Rn_answer_117 : decode prog_1_method_33_code 117 = .ok (.aload_n 0, 1) := by decide +kernel
theorem d_Rn_answer_118 : decode prog_1_method_33_code 118 = .ok (.aload_n 0, 1) := by decide +kernel
theorem d_Rn_answer_119 : decode prog_1_method_33_code 119 = .ok (.invokevirtual 253, 3) := by decide +kernel
theorem d_Rn_answer_122 : decode prog_1_method_33_code 122 = .ok (.iconst 0, 1) := by decide +kernel
theorem d_Rn_answer_123 : decode prog_1_method_33_code 123 = .ok (.invokevirtual 250, 3) := by decide +kernel
theorem d_Rn_answer_126 : decode prog_1_method_33_code 126 = .ok (.goto 7, 3) := by decide +kernel
theorem d_Rn_answer_129 : decode prog_1_method_33_code 129 = .ok (.aload_n 0, 1) := by decide +kernel
theorem d_Rn_answer_130 : decode prog_1_method_33_code 130 = .ok (.invokevirtual 256, 3) := by decide +kernel
theorem d_Rn_answer_133 : decode prog_1_method_33_code 133 = .ok (.aload_n 0, 1) := by decide +kernel
theorem d_Rn_answer_134 : decode prog_1_method_33_code 134 = .ok (.getfield 27, 3) := by decide +kernel
theorem d_Rn_answer_137 : decode prog_1_method_33_code 137 = .ok (.invokevirtual 102, 3) := by decide +kernel
theorem d_Rn_answer_140 : decode prog_1_method_33_code 140 = .ok (.aload_n 0, 1) := by decide +kernel
theorem d_Rn_answer_141 : decode prog_1_method_33_code 141 = .ok (.getfield 50, 3) := by decide +kernel
theorem d_Rn_answer_144 : decode prog_1_method_33_code 144 = .ok (.invokevirtual 171, 3) := by decide +kernel
theorem d_Rn_answer_147 : decode prog_1_method_33_code 147 = .ok (.return_, 1) := by decide +kernel
def ws_Rn_answer : List Cond := .code y_Rn_answer prog_1_method_33_code 4 none :: TB
theorem d_Rn_byteIn_0 : decode prog_1_method_24_code 0 = .ok (.aload_n 0, 1) := by decide +kernel
theorem d_Rn_byteIn_1 : decode prog_1_method_24_code 1 = .ok (.getfield 78, 3) := by decide +kernel
theorem d_Rn_byteIn_4 : decode prog_1_method_24_code 4 = .ok (.ifCond .ne 4, 3) := by decide +kernel
theorem d_Rn_byteIn_7 : decode prog_1_method_24_code 7 = .ok (.return_, 1) := by decide +kernel
theorem d_Rn_byteIn_8 : decode prog_1_method_24_code 8 = .ok (.aload_n 0, 1) := by decide +kernel
theorem d_Rn_byteIn_9 : decode prog_1_method_24_code 9 = .ok (.getfield 24, 3) := by decide +kernel
theorem d_Rn_byteIn_12 : decode prog_1_method_24_code 12 = .ok (.iload_n 1, 1) := by decide +kernel
theorem d_Rn_byteIn_13 : decode prog_1_method_24_code 13 = .ok (.invokevirtual 99, 3) := by decide +kernel
theorem d_Rn_byteIn_16 : decode prog_1_method_24_code 16 = .ok (.aload_n 0, 1) := by decide +kernel
theorem d_Rn_byteIn_17 : decode prog_1_method_24_code 17 = .ok (.getfield 24, 3) := by decide +kernel
theorem d_Rn_byteIn_20 : decode prog_1_method_24_code 20 = .ok (.invokevirtual 125, 3) := by decide +kernel
theorem d_Rn_byteIn_23 : decode prog_1_method_24_code 23 = .ok (.iconst 2, 1) := by decide +kernel
theorem d_Rn_byteIn_24 : decode prog_1_method_24_code 24 = .ok (.if_icmp .ge 4, 3) := by decide +kernel
theorem d_Rn_byteIn_27 : decode prog_1_method_24_code 27 = .ok (.return_, 1) := by decide +kernel
theorem d_Rn_byteIn_28 : decode prog_1_method_24_code 28 = .ok (.aload_n 0, 1) := by decide +kernel
theorem d_Rn_byteIn_29 : decode prog_1_method_24_code 29 = .ok (.getfield 24, 3) := by decide +kernel
theorem d_Rn_byteIn_32 : decode prog_1_method_24_code 32 = .ok (.iconst 1, 1) := by decide +kernel
theorem d_Rn_byteIn_33 : decode prog_1_method_24_code 33 = .ok (.invokevirtual 139, 3) := by decide +kernel
theorem d_Rn_byteIn_36 : decode prog_1_method_24_code 36 = .ok (.sipush 200, 3) := by decide +kernel
theorem d_Rn_byteIn_39 : decode prog_1_method_24_code 39 = .ok (.if_icmp .le 17, 3) := by decide +kernel
theorem d_Rn_byteIn_42 : decode prog_1_method_24_code 42 = .ok (.aload_n 0, 1) := by decide +kernel
theorem d_Rn_byteIn_43 : decode prog_1_method_24_code 43 = .ok (.getfield 24, 3) := by decide +kernel
theorem d_Rn_byteIn_46 : decode prog_1_method_24_code 46 = .ok (.invokevirtual 102, 3) := by decide +kernel
theorem d_Rn_byteIn_49 : decode prog_1_method_24_code 49 = .ok (.aload_n 0, 1) := by decide +kernel
theorem d_Rn_byteIn_50 : decode prog_1_method_24_code 50 = .ok (.invokevirtual 179, 3) := by decide +kernel
theorem d_Rn_byteIn_53 : decode prog_1_method_24_code 53 = .ok (.goto 62, 3) := by decide +kernel
theorem d_Rn_byteIn_56 : decode prog_1_method_24_code 56 = .ok (.aload_n 0, 1) := by decide +kernel
theorem d_Rn_byteIn_57 : decode prog_1_method_24_code 57 = .ok (.getfield 24, 3) := by decide +kernel
theorem d_Rn_byteIn_60 : decode prog_1_method_24_code 60 = .ok (.invokevirtual 125, 3) := by decide +kernel
theorem d_Rn_byteIn_63 : decode prog_1_method_24_code 63 = .ok (.iconst 2, 1) := by decide +kernel
theorem d_Rn_byteIn_64 : decode prog_1_method_24_code 64 = .ok (.aload_n 0, 1) := by decide +kernel
theorem d_Rn_byteIn_65 : decode prog_1_method_24_code 65 = .ok (.getfield 24, 3) := by decide +kernel
theorem d_Rn_byteIn_68 : decode prog_1_method_24_code 68 = .ok (.iconst 1, 1) := by decide +kernel
theorem d_Rn_byteIn_69 : decode prog_1_method_24_code 69 = .ok (.invokevirtual 139, 3) := by decide +kernel
theorem d_Rn_byteIn_72 : decode prog_1_method_24_code 72 = .ok (.iadd, 1) := by decide +kernel
theorem d_Rn_byteIn_73 : decode prog_1_method_24_code 73 = .ok (.if_icmp .ne 42, 3) := by decide +kernel
theorem d_Rn_byteIn_76 : decode prog_1_method_24_code 76 = .ok (.aload_n 0, 1) := by decide +kernel
theorem d_Rn_byteIn_77 : decode prog_1_method_24_code 77 = .ok (.invokevirtual 182, 3) := by decide +kernel
theorem d_Rn_byteIn_80 : decode prog_1_method_24_code 80 = .ok (.aload_n 0, 1) := by decide +kernel
theorem d_Rn_byteIn_81 : decode prog_1_method_24_code 81 = .ok (.getfield 24, 3) := by decide +kernel
theorem d_Rn_byteIn_84 : decode prog_1_method_24_code 84 = .ok (.invokevirtual 102, 3) := by decide +kernel
theorem d_Rn_byteIn_87 : decode prog_1_method_24_code 87 = .ok (.aload_n 0, 1) := by decide +kernel
theorem d_Rn_byteIn_88 : decode prog_1_method_24_code 88 = .ok (.getfield 50, 3) := by decide +kernel
theorem d_Rn_byteIn_91 : decode prog_1_method_24_code 91 = .ok (.invokevirtual 185, 3) := by decide +kernel
theorem d_Rn_byteIn_94 : decode prog_1_method_24_code 94 = .ok (.ifCond .eq 7, 3) := by decide +kernel
theorem d_Rn_byteIn_97 : decode prog_1_method_24_code 97 = .ok (.aload_n 0, 1) := by decide +kernel
theorem d_Rn_byteIn_98 : decode prog_1_method_24_code 98 = .ok (.invokevirtual 188, 3) := by decide +kernel
theorem d_Rn_byteIn_101 : decode prog_1_method_24_code 101 = .ok (.aload_n 0, 1) := by decide +kernel
theorem d_Rn_byteIn_102 : decode prog_1_method_24_code 102 = .ok (.getfield 50, 3) := by decide +kernel
theorem d_Rn_byteIn_105 : decode prog_1_method_24_code 105 = .ok (.invokevirtual 191, 3) := by decide +kernel
theorem d_Rn_byteIn_108 : decode prog_1_method_24_code 108 = .ok (.ifCond .eq 7, 3) := by decide +kernel
theorem d_Rn_byteIn_111 : decode prog_1_method_24_code 111 = .ok (.aload_n 0, 1) := by decide +kernel
theorem d_Rn_byteIn_112 : decode prog_1_method_24_code 112 = .ok (.invokevirtual 194, 3) := by decide +kernel
theorem d_Rn_byteIn_115 : decode prog_1_method_24_code 115 = .ok (.return_, 1) := by decide +kernel
def ws_Rn_byteIn : List Cond := .code y_Rn_byteIn prog_1_method_24_code 2 none :: TB
theorem d_Rn_feed_0 : decode prog_1_method_9_code 0 = .ok (.iload_n 3, 1) := by decide +kernel
theorem d_Rn_feed_1 : decode prog_1_method_9_code 1 = .ok (.invokestatic 88, 3) := by decide +kernel
theorem d_Rn_feed_4 : decode prog_1_method_9_code 4 = .ok (.ifCond .ne 11, 3) := by decide +kernel
theorem d_Rn_feed_7 : decode prog_1_method_9_code 7 = .ok (.new 108, 3) := by decide +kernel
theorem d_Rn_feed_10 : decode prog_1_method_9_code 10 = .ok (.dup, 1) := by decide +kernel
theorem d_Rn_feed_11 : decode prog_1_method_9_code 11 = .ok (.invokespecial 110, 3) := by decide +kernel
theorem d_Rn_feed_14 : decode prog_1_method_9_code 14 = .ok (.athrow, 1) := by decide +kernel
theorem d_Rn_feed_15 : decode prog_1_method_9_code 15 = .ok (.aload_n 0, 1) := by decide +kernel
theorem d_Rn_feed_16 : decode prog_1_method_9_code 16 = .ok (.getfield 78, 3) := by decide +kernel
theorem d_Rn_feed_19 : decode prog_1_method_9_code 19 = .ok (.ifCond .ne 5, 3) := by decide +kernel
theorem d_Rn_feed_22 : decode prog_1_method_9_code 22 = .ok (.iconst 0, 1) := by decide +kernel
theorem d_Rn_feed_23 : decode prog_1_method_9_code 23 = .ok (.ireturn, 1) := by decide +kernel
theorem d_Rn_feed_24 : decode prog_1_method_9_code 24 = .ok (.iload_n 3, 1) := by decide +kernel
theorem d_Rn_feed_25 : decode prog_1_method_9_code 25 = .ok (.iconst 1, 1) := by decide +kernel
theorem d_Rn_feed_26 : decode prog_1_method_9_code 26 = .ok (.isub, 1) := by decide +kernel
theorem d_Rn_feed_27 : decode prog_1_method_9_code 27 = .ok (.istore 4, 2) := by decide +kernel
theorem d_Rn_feed_29 : decode prog_1_method_9_code 29 = .ok (.iload 4, 2) := by decide +kernel
theorem d_Rn_feed_31 : decode prog_1_method_9_code 31 = .ok (.ifCond .lt 19, 3) := by decide +kernel
theorem d_Rn_feed_34 : decode prog_1_method_9_code 34 = .ok (.aload_n 0, 1) := by decide +kernel
theorem d_Rn_feed_35 : decode prog_1_method_9_code 35 = .ok (.lload_n 1, 1) := by decide +kernel
theorem d_Rn_feed_36 : decode prog_1_method_9_code 36 = .ok (.iload 4, 2) := by decide +kernel
theorem d_Rn_feed_38 : decode prog_1_method_9_code 38 = .ok (.invokestatic 95, 3) := by decide +kernel
theorem d_Rn_feed_41 : decode prog_1_method_9_code 41 = .ok (.invokevirtual 149, 3) := by decide +kernel
theorem d_Rn_feed_44 : decode prog_1_method_9_code 44 = .ok (.iinc 4 (-1), 3) := by decide +kernel
theorem d_Rn_feed_47 : decode prog_1_method_9_code 47 = .ok (.goto (-18), 3) := by decide +kernel
theorem d_Rn_feed_50 : decode prog_1_method_9_code 50 = .ok (.iconst 1, 1) := by decide +kernel
theorem d_Rn_feed_51 : decode prog_1_method_9_code 51 = .ok (.ireturn, 1) := by decide +kernel
def ws_Rn_feed : List Cond := .code y_Rn_feed prog_1_method_9_code 5 (some .boolean) :: TB
theorem d_Rn_send_0 : decode prog_1_method_10_code 0 = .ok (.aload_n 0, 1) := by decide +kernel
theorem d_Rn_send_1 : decode prog_1_method_10_code 1 = .ok (.getfield 78, 3) := by decide +kernel
theorem d_Rn_send_4 : decode prog_1_method_10_code 4 = .ok (.ifCond .ne 5, 3) := by decide +kernel
theorem d_Rn_send_7 : decode prog_1_method_10_code 7 = .ok (.iconst 0, 1) := by decide +kernel
theorem d_Rn_send_8 : decode prog_1_method_10_code 8 = .ok (.ireturn, 1) := by decide +kernel
theorem d_Rn_send_9 : decode prog_1_method_10_code 9 = .ok (.iconst 0, 1) := by decide +kernel
theorem d_Rn_send_10 : decode prog_1_method_10_code 10 = .ok (.istore_n 1, 1) := by decide +kernel
theorem d_Rn_send_11 : decode prog_1_method_10_code 11 = .ok (.iload_n 1, 1) := by decide +kernel
theorem d_Rn_send_12 : decode prog_1_method_10_code 12 = .ok (.aload_n 0, 1) := by decide +kernel
theorem d_Rn_send_13 : decode prog_1_method_10_code 13 = .ok (.getfield 14, 3) := by decide +kernel
theorem d_Rn_send_16 : decode prog_1_method_10_code 16 = .ok (.invokevirtual 125, 3) := by decide +kernel
theorem d_Rn_send_19 : decode prog_1_method_10_code 19 = .ok (.if_icmp .ge 21, 3) := by decide +kernel
theorem d_Rn_send_22 : decode prog_1_method_10_code 22 = .ok (.aload_n 0, 1) := by decide +kernel
theorem d_Rn_send_23 : decode prog_1_method_10_code 23 = .ok (.aload_n 0, 1) := by decide +kernel
theorem d_Rn_send_24 : decode prog_1_method_10_code 24 = .ok (.getfield 14, 3) := by decide +kernel
theorem d_Rn_send_27 : decode prog_1_method_10_code 27 = .ok (.iload_n 1, 1) := by decide +kernel
theorem d_Rn_send_28 : decode prog_1_method_10_code 28 = .ok (.invokevirtual 139, 3) := by decide +kernel
theorem d_Rn_send_31 : decode prog_1_method_10_code 31 = .ok (.invokevirtual 149, 3) := by decide +kernel
theorem d_Rn_send_34 : decode prog_1_method_10_code 34 = .ok (.iinc 1 1, 3) := by decide +kernel
theorem d_Rn_send_37 : decode prog_1_method_10_code 37 = .ok (.goto (-26), 3) := by decide +kernel
theorem d_Rn_send_40 : decode prog_1_method_10_code 40 = .ok (.iconst 1, 1) := by decide +kernel
theorem d_Rn_send_41 : decode prog_1_method_10_code 41 = .ok (.ireturn, 1) := by decide +kernel
def ws_Rn_send : List Cond := .code y_Rn_send prog_1_method_10_code 2 (some .boolean) :: TB
