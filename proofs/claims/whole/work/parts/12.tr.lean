theorem d_Tr_behind_0 : decode prog_9_method_8_code 0 = .ok (.iload_n 1, 1) := by decide +kernel
theorem d_Tr_behind_1 : decode prog_9_method_8_code 1 = .ok (.ifCond .lt 20, 3) := by decide +kernel
theorem d_Tr_behind_4 : decode prog_9_method_8_code 4 = .ok (.iload_n 1, 1) := by decide +kernel
theorem d_Tr_behind_5 : decode prog_9_method_8_code 5 = .ok (.aload_n 0, 1) := by decide +kernel
theorem d_Tr_behind_6 : decode prog_9_method_8_code 6 = .ok (.getfield 27, 3) := by decide +kernel
theorem d_Tr_behind_9 : decode prog_9_method_8_code 9 = .ok (.if_icmp .ge 12, 3) := by decide +kernel
theorem d_Tr_behind_12 : decode prog_9_method_8_code 12 = .ok (.aload_n 0, 1) := by decide +kernel
theorem d_Tr_behind_13 : decode prog_9_method_8_code 13 = .ok (.getfield 15, 3) := by decide +kernel
theorem d_Tr_behind_16 : decode prog_9_method_8_code 16 = .ok (.iload_n 1, 1) := by decide +kernel
theorem d_Tr_behind_17 : decode prog_9_method_8_code 17 = .ok (.iaload, 1) := by decide +kernel
theorem d_Tr_behind_18 : decode prog_9_method_8_code 18 = .ok (.goto 4, 3) := by decide +kernel
theorem d_Tr_behind_21 : decode prog_9_method_8_code 21 = .ok (.iconst (-1), 1) := by decide +kernel
theorem d_Tr_behind_22 : decode prog_9_method_8_code 22 = .ok (.ireturn, 1) := by decide +kernel
theorem d_Tr_tag_0 : decode prog_9_method_7_code 0 = .ok (.iload_n 1, 1) := by decide +kernel
theorem d_Tr_tag_1 : decode prog_9_method_7_code 1 = .ok (.ifCond .lt 20, 3) := by decide +kernel
theorem d_Tr_tag_4 : decode prog_9_method_7_code 4 = .ok (.iload_n 1, 1) := by decide +kernel
theorem d_Tr_tag_5 : decode prog_9_method_7_code 5 = .ok (.aload_n 0, 1) := by decide +kernel
theorem d_Tr_tag_6 : decode prog_9_method_7_code 6 = .ok (.getfield 27, 3) := by decide +kernel
theorem d_Tr_tag_9 : decode prog_9_method_7_code 9 = .ok (.if_icmp .ge 12, 3) := by decide +kernel
theorem d_Tr_tag_12 : decode prog_9_method_7_code 12 = .ok (.aload_n 0, 1) := by decide +kernel
theorem d_Tr_tag_13 : decode prog_9_method_7_code 13 = .ok (.getfield 9, 3) := by decide +kernel
theorem d_Tr_tag_16 : decode prog_9_method_7_code 16 = .ok (.iload_n 1, 1) := by decide +kernel
theorem d_Tr_tag_17 : decode prog_9_method_7_code 17 = .ok (.iaload, 1) := by decide +kernel
theorem d_Tr_tag_18 : decode prog_9_method_7_code 18 = .ok (.goto 4, 3) := by decide +kernel
theorem d_Tr_tag_21 : decode prog_9_method_7_code 21 = .ok (.iconst (-1), 1) := by decide +kernel
theorem d_Tr_tag_22 : decode prog_9_method_7_code 22 = .ok (.ireturn, 1) := by decide +kernel
theorem d_Tr_find_0 : decode prog_9_method_13_code 0 = .ok (.iload_n 1, 1) := by decide +kernel
theorem d_Tr_find_1 : decode prog_9_method_13_code 1 = .ok (.iconst 1, 1) := by decide +kernel
theorem d_Tr_find_2 : decode prog_9_method_13_code 2 = .ok (.iadd, 1) := by decide +kernel
theorem d_Tr_find_3 : decode prog_9_method_13_code 3 = .ok (.istore_n 3, 1) := by decide +kernel
theorem d_Tr_find_4 : decode prog_9_method_13_code 4 = .ok (.aload_n 0, 1) := by decide +kernel
theorem d_Tr_find_5 : decode prog_9_method_13_code 5 = .ok (.iload_n 1, 1) := by decide +kernel
theorem d_Tr_find_6 : decode prog_9_method_13_code 6 = .ok (.invokevirtual 48, 3) := by decide +kernel
theorem d_Tr_find_9 : decode prog_9_method_13_code 9 = .ok (.istore 4, 2) := by decide +kernel
theorem d_Tr_find_11 : decode prog_9_method_13_code 11 = .ok (.iconst 0, 1) := by decide +kernel
theorem d_Tr_find_12 : decode prog_9_method_13_code 12 = .ok (.istore 5, 2) := by decide +kernel
theorem d_Tr_find_14 : decode prog_9_method_13_code 14 = .ok (.iload 5, 2) := by decide +kernel
theorem d_Tr_find_16 : decode prog_9_method_13_code 16 = .ok (.bipush 10, 2) := by decide +kernel
theorem d_Tr_find_18 : decode prog_9_method_13_code 18 = .ok (.if_icmp .ge 32, 3) := by decide +kernel
theorem d_Tr_find_21 : decode prog_9_method_13_code 21 = .ok (.iload_n 3, 1) := by decide +kernel
theorem d_Tr_find_22 : decode prog_9_method_13_code 22 = .ok (.iload 4, 2) := by decide +kernel
theorem d_Tr_find_24 : decode prog_9_method_13_code 24 = .ok (.if_icmp .ge 26, 3) := by decide +kernel
theorem d_Tr_find_27 : decode prog_9_method_13_code 27 = .ok (.aload_n 0, 1) := by decide +kernel
theorem d_Tr_find_28 : decode prog_9_method_13_code 28 = .ok (.iload_n 3, 1) := by decide +kernel
theorem d_Tr_find_29 : decode prog_9_method_13_code 29 = .ok (.invokevirtual 50, 3) := by decide +kernel
theorem d_Tr_find_32 : decode prog_9_method_13_code 32 = .ok (.iload_n 2, 1) := by decide +kernel
theorem d_Tr_find_33 : decode prog_9_method_13_code 33 = .ok (.if_icmp .ne 5, 3) := by decide +kernel
theorem d_Tr_find_36 : decode prog_9_method_13_code 36 = .ok (.iload_n 3, 1) := by decide +kernel
theorem d_Tr_find_37 : decode prog_9_method_13_code 37 = .ok (.ireturn, 1) := by decide +kernel
theorem d_Tr_find_38 : decode prog_9_method_13_code 38 = .ok (.aload_n 0, 1) := by decide +kernel
theorem d_Tr_find_39 : decode prog_9_method_13_code 39 = .ok (.iload_n 3, 1) := by decide +kernel
theorem d_Tr_find_40 : decode prog_9_method_13_code 40 = .ok (.invokevirtual 48, 3) := by decide +kernel
theorem d_Tr_find_43 : decode prog_9_method_13_code 43 = .ok (.istore_n 3, 1) := by decide +kernel
theorem d_Tr_find_44 : decode prog_9_method_13_code 44 = .ok (.iinc 5 1, 3) := by decide +kernel
theorem d_Tr_find_47 : decode prog_9_method_13_code 47 = .ok (.goto (-33), 3) := by decide +kernel
theorem d_Tr_find_50 : decode prog_9_method_13_code 50 = .ok (.iconst (-1), 1) := by decide +kernel
theorem d_Tr_find_51 : decode prog_9_method_13_code 51 = .ok (.ireturn, 1) := by decide +kernel
theorem d_Tr_number_0 : decode prog_9_method_9_code 0 = .ok (.iload_n 1, 1) := by decide +kernel
theorem d_Tr_number_1 : decode prog_9_method_9_code 1 = .ok (.ifCond .lt 20, 3) := by decide +kernel
theorem d_Tr_number_4 : decode prog_9_method_9_code 4 = .ok (.iload_n 1, 1) := by decide +kernel
theorem d_Tr_number_5 : decode prog_9_method_9_code 5 = .ok (.aload_n 0, 1) := by decide +kernel
theorem d_Tr_number_6 : decode prog_9_method_9_code 6 = .ok (.getfield 27, 3) := by decide +kernel
theorem d_Tr_number_9 : decode prog_9_method_9_code 9 = .ok (.if_icmp .ge 12, 3) := by decide +kernel
theorem d_Tr_number_12 : decode prog_9_method_9_code 12 = .ok (.aload_n 0, 1) := by decide +kernel
theorem d_Tr_number_13 : decode prog_9_method_9_code 13 = .ok (.getfield 18, 3) := by decide +kernel
theorem d_Tr_number_16 : decode prog_9_method_9_code 16 = .ok (.iload_n 1, 1) := by decide +kernel
theorem d_Tr_number_17 : decode prog_9_method_9_code 17 = .ok (.iaload, 1) := by decide +kernel
theorem d_Tr_number_18 : decode prog_9_method_9_code 18 = .ok (.goto 4, 3) := by decide +kernel
theorem d_Tr_number_21 : decode prog_9_method_9_code 21 = .ok (.iconst 0, 1) := by decide +kernel
theorem d_Tr_number_22 : decode prog_9_method_9_code 22 = .ok (.ireturn, 1) := by decide +kernel
theorem d_Tr_finish_0 : decode prog_9_method_6_code 0 = .ok (.iload_n 1, 1) := by decide +kernel
theorem d_Tr_finish_1 : decode prog_9_method_6_code 1 = .ok (.ifCond .lt 21, 3) := by decide +kernel
theorem d_Tr_finish_4 : decode prog_9_method_6_code 4 = .ok (.iload_n 1, 1) := by decide +kernel
theorem d_Tr_finish_5 : decode prog_9_method_6_code 5 = .ok (.aload_n 0, 1) := by decide +kernel
theorem d_Tr_finish_6 : decode prog_9_method_6_code 6 = .ok (.getfield 27, 3) := by decide +kernel
theorem d_Tr_finish_9 : decode prog_9_method_6_code 9 = .ok (.if_icmp .ge 13, 3) := by decide +kernel
theorem d_Tr_finish_12 : decode prog_9_method_6_code 12 = .ok (.aload_n 0, 1) := by decide +kernel
theorem d_Tr_finish_13 : decode prog_9_method_6_code 13 = .ok (.getfield 15, 3) := by decide +kernel
theorem d_Tr_finish_16 : decode prog_9_method_6_code 16 = .ok (.iload_n 1, 1) := by decide +kernel
theorem d_Tr_finish_17 : decode prog_9_method_6_code 17 = .ok (.aload_n 0, 1) := by decide +kernel
theorem d_Tr_finish_18 : decode prog_9_method_6_code 18 = .ok (.getfield 27, 3) := by decide +kernel
theorem d_Tr_finish_21 : decode prog_9_method_6_code 21 = .ok (.iastore, 1) := by decide +kernel
theorem d_Tr_finish_22 : decode prog_9_method_6_code 22 = .ok (.return_, 1) := by decide +kernel
theorem d_Tr_add_0 : decode prog_9_method_3_code 0 = .ok (.aload_n 0, 1) := by decide +kernel
theorem d_Tr_add_1 : decode prog_9_method_3_code 1 = .ok (.getfield 27, 3) := by decide +kernel
theorem d_Tr_add_4 : decode prog_9_method_3_code 4 = .ok (.bipush 101, 2) := by decide +kernel
theorem d_Tr_add_6 : decode prog_9_method_3_code 6 = .ok (.if_icmp .lt 10, 3) := by decide +kernel
theorem d_Tr_add_9 : decode prog_9_method_3_code 9 = .ok (.aload_n 0, 1) := by decide +kernel
theorem d_Tr_add_10 : decode prog_9_method_3_code 10 = .ok (.getfield 27, 3) := by decide +kernel
theorem d_Tr_add_13 : decode prog_9_method_3_code 13 = .ok (.iconst 1, 1) := by decide +kernel
theorem d_Tr_add_14 : decode prog_9_method_3_code 14 = .ok (.isub, 1) := by decide +kernel
theorem d_Tr_add_15 : decode prog_9_method_3_code 15 = .ok (.ireturn, 1) := by decide +kernel
theorem d_Tr_add_16 : decode prog_9_method_3_code 16 = .ok (.aload_n 0, 1) := by decide +kernel
theorem d_Tr_add_17 : decode prog_9_method_3_code 17 = .ok (.getfield 27, 3) := by decide +kernel
theorem d_Tr_add_20 : decode prog_9_method_3_code 20 = .ok (.istore 4, 2) := by decide +kernel
theorem d_Tr_add_22 : decode prog_9_method_3_code 22 = .ok (.aload_n 0, 1) := by decide +kernel
theorem d_Tr_add_23 : decode prog_9_method_3_code 23 = .ok (.getfield 9, 3) := by decide +kernel
theorem d_Tr_add_26 : decode prog_9_method_3_code 26 = .ok (.iload 4, 2) := by decide +kernel
theorem d_Tr_add_28 : decode prog_9_method_3_code 28 = .ok (.iload_n 1, 1) := by decide +kernel
theorem d_Tr_add_29 : decode prog_9_method_3_code 29 = .ok (.iastore, 1) := by decide +kernel
theorem d_Tr_add_30 : decode prog_9_method_3_code 30 = .ok (.aload_n 0, 1) := by decide +kernel
theorem d_Tr_add_31 : decode prog_9_method_3_code 31 = .ok (.getfield 18, 3) := by decide +kernel
theorem d_Tr_add_34 : decode prog_9_method_3_code 34 = .ok (.iload 4, 2) := by decide +kernel
theorem d_Tr_add_36 : decode prog_9_method_3_code 36 = .ok (.iload_n 2, 1) := by decide +kernel
theorem d_Tr_add_37 : decode prog_9_method_3_code 37 = .ok (.iastore, 1) := by decide +kernel
theorem d_Tr_add_38 : decode prog_9_method_3_code 38 = .ok (.aload_n 0, 1) := by decide +kernel
theorem d_Tr_add_39 : decode prog_9_method_3_code 39 = .ok (.getfield 21, 3) := by decide +kernel
theorem d_Tr_add_42 : decode prog_9_method_3_code 42 = .ok (.iload 4, 2) := by decide +kernel
theorem d_Tr_add_44 : decode prog_9_method_3_code 44 = .ok (.iload_n 3, 1) := by decide +kernel
theorem d_Tr_add_45 : decode prog_9_method_3_code 45 = .ok (.iastore, 1) := by decide +kernel
theorem d_Tr_add_46 : decode prog_9_method_3_code 46 = .ok (.aload_n 0, 1) := by decide +kernel
theorem d_Tr_add_47 : decode prog_9_method_3_code 47 = .ok (.dup, 1) := by decide +kernel
theorem d_Tr_add_48 : decode prog_9_method_3_code 48 = .ok (.getfield 27, 3) := by decide +kernel
theorem d_Tr_add_51 : decode prog_9_method_3_code 51 = .ok (.iconst 1, 1) := by decide +kernel
theorem d_Tr_add_52 : decode prog_9_method_3_code 52 = .ok (.iadd, 1) := by decide +kernel
theorem d_Tr_add_53 : decode prog_9_method_3_code 53 = .ok (.putfield 27, 3) := by decide +kernel
theorem d_Tr_add_56 : decode prog_9_method_3_code 56 = .ok (.aload_n 0, 1) := by decide +kernel
theorem d_Tr_add_57 : decode prog_9_method_3_code 57 = .ok (.getfield 15, 3) := by decide +kernel
theorem d_Tr_add_60 : decode prog_9_method_3_code 60 = .ok (.iload 4, 2) := by decide +kernel
theorem d_Tr_add_62 : decode prog_9_method_3_code 62 = .ok (.aload_n 0, 1) := by decide +kernel
theorem d_Tr_add_63 : decode prog_9_method_3_code 63 = .ok (.getfield 27, 3) := by decide +kernel
theorem d_Tr_add_66 : decode prog_9_method_3_code 66 = .ok (.iastore, 1) := by decide +kernel
theorem d_Tr_add_67 : decode prog_9_method_3_code 67 = .ok (.iload 4, 2) := by decide +kernel
theorem d_Tr_add_69 : decode prog_9_method_3_code 69 = .ok (.ireturn, 1) := by decide +kernel
theorem d_Tr_numberLength_0 : decode prog_9_method_19_code 0 = .ok (.iconst 1, 1) := by decide +kernel
theorem d_Tr_numberLength_1 : decode prog_9_method_19_code 1 = .ok (.istore_n 1, 1) := by decide +kernel
theorem d_Tr_numberLength_2 : decode prog_9_method_19_code 2 = .ok (.iload_n 1, 1) := by decide +kernel
theorem d_Tr_numberLength_3 : decode prog_9_method_19_code 3 = .ok (.iconst 4, 1) := by decide +kernel
theorem d_Tr_numberLength_4 : decode prog_9_method_19_code 4 = .ok (.if_icmp .ge 31, 3) := by decide +kernel
theorem d_Tr_numberLength_7 : decode prog_9_method_19_code 7 = .ok (.iconst 1, 1) := by decide +kernel
theorem d_Tr_numberLength_8 : decode prog_9_method_19_code 8 = .ok (.bipush 8, 2) := by decide +kernel
theorem d_Tr_numberLength_10 : decode prog_9_method_19_code 10 = .ok (.iload_n 1, 1) := by decide +kernel
theorem d_Tr_numberLength_11 : decode prog_9_method_19_code 11 = .ok (.imul, 1) := by decide +kernel
theorem d_Tr_numberLength_12 : decode prog_9_method_19_code 12 = .ok (.iconst 1, 1) := by decide +kernel
theorem d_Tr_numberLength_13 : decode prog_9_method_19_code 13 = .ok (.isub, 1) := by decide +kernel
theorem d_Tr_numberLength_14 : decode prog_9_method_19_code 14 = .ok (.ishl, 1) := by decide +kernel
theorem d_Tr_numberLength_15 : decode prog_9_method_19_code 15 = .ok (.istore_n 2, 1) := by decide +kernel
theorem d_Tr_numberLength_16 : decode prog_9_method_19_code 16 = .ok (.iload_n 0, 1) := by decide +kernel
theorem d_Tr_numberLength_17 : decode prog_9_method_19_code 17 = .ok (.iload_n 2, 1) := by decide +kernel
theorem d_Tr_numberLength_18 : decode prog_9_method_19_code 18 = .ok (.ineg, 1) := by decide +kernel
theorem d_Tr_numberLength_19 : decode prog_9_method_19_code 19 = .ok (.if_icmp .lt 10, 3) := by decide +kernel
theorem d_Tr_numberLength_22 : decode prog_9_method_19_code 22 = .ok (.iload_n 0, 1) := by decide +kernel
theorem d_Tr_numberLength_23 : decode prog_9_method_19_code 23 = .ok (.iload_n 2, 1) := by decide +kernel
theorem d_Tr_numberLength_24 : decode prog_9_method_19_code 24 = .ok (.if_icmp .ge 5, 3) := by decide +kernel
theorem d_Tr_numberLength_27 : decode prog_9_method_19_code 27 = .ok (.iload_n 1, 1) := by decide +kernel
theorem d_Tr_numberLength_28 : decode prog_9_method_19_code 28 = .ok (.ireturn, 1) := by decide +kernel
theorem d_Tr_numberLength_29 : decode prog_9_method_19_code 29 = .ok (.iinc 1 1, 3) := by decide +kernel
theorem d_Tr_numberLength_32 : decode prog_9_method_19_code 32 = .ok (.goto (-30), 3) := by decide +kernel
theorem d_Tr_numberLength_35 : decode prog_9_method_19_code 35 = .ok (.iconst 4, 1) := by decide +kernel
theorem d_Tr_numberLength_36 : decode prog_9_method_19_code 36 = .ok (.ireturn, 1) := by decide +kernel
theorem d_Tr_addCharacter_0 : decode prog_9_method_5_code 0 = .ok (.aload_n 0, 1) := by decide +kernel
theorem d_Tr_addCharacter_1 : decode prog_9_method_5_code 1 = .ok (.getfield 31, 3) := by decide +kernel
theorem d_Tr_addCharacter_4 : decode prog_9_method_5_code 4 = .ok (.sipush 200, 3) := by decide +kernel
theorem d_Tr_addCharacter_7 : decode prog_9_method_5_code 7 = .ok (.if_icmp .ge 23, 3) := by decide +kernel
theorem d_Tr_addCharacter_10 : decode prog_9_method_5_code 10 = .ok (.aload_n 0, 1) := by decide +kernel
theorem d_Tr_addCharacter_11 : decode prog_9_method_5_code 11 = .ok (.getfield 24, 3) := by decide +kernel
theorem d_Tr_addCharacter_14 : decode prog_9_method_5_code 14 = .ok (.aload_n 0, 1) := by decide +kernel
theorem d_Tr_addCharacter_15 : decode prog_9_method_5_code 15 = .ok (.getfield 31, 3) := by decide +kernel
theorem d_Tr_addCharacter_18 : decode prog_9_method_5_code 18 = .ok (.iload_n 1, 1) := by decide +kernel
theorem d_Tr_addCharacter_19 : decode prog_9_method_5_code 19 = .ok (.iastore, 1) := by decide +kernel
theorem d_Tr_addCharacter_20 : decode prog_9_method_5_code 20 = .ok (.aload_n 0, 1) := by decide +kernel
theorem d_Tr_addCharacter_21 : decode prog_9_method_5_code 21 = .ok (.dup, 1) := by decide +kernel
theorem d_Tr_addCharacter_22 : decode prog_9_method_5_code 22 = .ok (.getfield 31, 3) := by decide +kernel
theorem d_Tr_addCharacter_25 : decode prog_9_method_5_code 25 = .ok (.iconst 1, 1) := by decide +kernel
theorem d_Tr_addCharacter_26 : decode prog_9_method_5_code 26 = .ok (.iadd, 1) := by decide +kernel
theorem d_Tr_addCharacter_27 : decode prog_9_method_5_code 27 = .ok (.putfield 31, 3) := by decide +kernel
theorem d_Tr_addCharacter_30 : decode prog_9_method_5_code 30 = .ok (.return_, 1) := by decide +kernel
theorem d_Tr_characterCount_0 : decode prog_9_method_4_code 0 = .ok (.aload_n 0, 1) := by decide +kernel
theorem d_Tr_characterCount_1 : decode prog_9_method_4_code 1 = .ok (.getfield 31, 3) := by decide +kernel
theorem d_Tr_characterCount_4 : decode prog_9_method_4_code 4 = .ok (.ireturn, 1) := by decide +kernel
theorem d_Tr_reset_0 : decode prog_9_method_2_code 0 = .ok (.aload_n 0, 1) := by decide +kernel
theorem d_Tr_reset_1 : decode prog_9_method_2_code 1 = .ok (.iconst 0, 1) := by decide +kernel
theorem d_Tr_reset_2 : decode prog_9_method_2_code 2 = .ok (.putfield 27, 3) := by decide +kernel
theorem d_Tr_reset_5 : decode prog_9_method_2_code 5 = .ok (.aload_n 0, 1) := by decide +kernel
theorem d_Tr_reset_6 : decode prog_9_method_2_code 6 = .ok (.iconst 0, 1) := by decide +kernel
theorem d_Tr_reset_7 : decode prog_9_method_2_code 7 = .ok (.putfield 31, 3) := by decide +kernel
theorem d_Tr_reset_10 : decode prog_9_method_2_code 10 = .ok (.return_, 1) := by decide +kernel
theorem d_Tr_writeNumber_0 : decode prog_9_method_18_code 0 = .ok (.iload_n 1, 1) := by decide +kernel
theorem d_Tr_writeNumber_1 : decode prog_9_method_18_code 1 = .ok (.invokestatic 73, 3) := by decide +kernel
theorem d_Tr_writeNumber_4 : decode prog_9_method_18_code 4 = .ok (.istore 4, 2) := by decide +kernel
theorem d_Tr_writeNumber_6 : decode prog_9_method_18_code 6 = .ok (.aload_n 3, 1) := by decide +kernel
theorem d_Tr_writeNumber_7 : decode prog_9_method_18_code 7 = .ok (.iload_n 0, 1) := by decide +kernel
theorem d_Tr_writeNumber_8 : decode prog_9_method_18_code 8 = .ok (.invokevirtual 42, 3) := by decide +kernel
theorem d_Tr_writeNumber_11 : decode prog_9_method_18_code 11 = .ok (.iload_n 2, 1) := by decide +kernel
theorem d_Tr_writeNumber_12 : decode prog_9_method_18_code 12 = .ok (.ifCond .ne 8, 3) := by decide +kernel
theorem d_Tr_writeNumber_15 : decode prog_9_method_18_code 15 = .ok (.aload_n 3, 1) := by decide +kernel
theorem d_Tr_writeNumber_16 : decode prog_9_method_18_code 16 = .ok (.iconst 1, 1) := by decide +kernel
theorem d_Tr_writeNumber_17 : decode prog_9_method_18_code 17 = .ok (.invokevirtual 42, 3) := by decide +kernel
theorem d_Tr_writeNumber_20 : decode prog_9_method_18_code 20 = .ok (.aload_n 3, 1) := by decide +kernel
theorem d_Tr_writeNumber_21 : decode prog_9_method_18_code 21 = .ok (.iload 4, 2) := by decide +kernel
theorem d_Tr_writeNumber_23 : decode prog_9_method_18_code 23 = .ok (.invokevirtual 42, 3) := by decide +kernel
theorem d_Tr_writeNumber_26 : decode prog_9_method_18_code 26 = .ok (.iconst 0, 1) := by decide +kernel
theorem d_Tr_writeNumber_27 : decode prog_9_method_18_code 27 = .ok (.istore 5, 2) := by decide +kernel
theorem d_Tr_writeNumber_29 : decode prog_9_method_18_code 29 = .ok (.iload 5, 2) := by decide +kernel
theorem d_Tr_writeNumber_31 : decode prog_9_method_18_code 31 = .ok (.iload 4, 2) := by decide +kernel
theorem d_Tr_writeNumber_33 : decode prog_9_method_18_code 33 = .ok (.if_icmp .ge 20, 3) := by decide +kernel
theorem d_Tr_writeNumber_36 : decode prog_9_method_18_code 36 = .ok (.aload_n 3, 1) := by decide +kernel
theorem d_Tr_writeNumber_37 : decode prog_9_method_18_code 37 = .ok (.iload_n 1, 1) := by decide +kernel
theorem d_Tr_writeNumber_38 : decode prog_9_method_18_code 38 = .ok (.bipush 8, 2) := by decide +kernel
theorem d_Tr_writeNumber_40 : decode prog_9_method_18_code 40 = .ok (.iload 5, 2) := by decide +kernel
theorem d_Tr_writeNumber_42 : decode prog_9_method_18_code 42 = .ok (.imul, 1) := by decide +kernel
theorem d_Tr_writeNumber_43 : decode prog_9_method_18_code 43 = .ok (.ishr, 1) := by decide +kernel
theorem d_Tr_writeNumber_44 : decode prog_9_method_18_code 44 = .ok (.invokevirtual 42, 3) := by decide +kernel
theorem d_Tr_writeNumber_47 : decode prog_9_method_18_code 47 = .ok (.iinc 5 1, 3) := by decide +kernel
theorem d_Tr_writeNumber_50 : decode prog_9_method_18_code 50 = .ok (.goto (-21), 3) := by decide +kernel
theorem d_Tr_writeNumber_53 : decode prog_9_method_18_code 53 = .ok (.return_, 1) := by decide +kernel
theorem d_Tr_character_0 : decode prog_9_method_11_code 0 = .ok (.iload_n 1, 1) := by decide +kernel
theorem d_Tr_character_1 : decode prog_9_method_11_code 1 = .ok (.ifCond .lt 22, 3) := by decide +kernel
theorem d_Tr_character_4 : decode prog_9_method_11_code 4 = .ok (.iload_n 1, 1) := by decide +kernel
theorem d_Tr_character_5 : decode prog_9_method_11_code 5 = .ok (.aload_n 0, 1) := by decide +kernel
theorem d_Tr_character_6 : decode prog_9_method_11_code 6 = .ok (.getfield 27, 3) := by decide +kernel
theorem d_Tr_character_9 : decode prog_9_method_11_code 9 = .ok (.if_icmp .ge 14, 3) := by decide +kernel
theorem d_Tr_character_12 : decode prog_9_method_11_code 12 = .ok (.aload_n 0, 1) := by decide +kernel
theorem d_Tr_character_13 : decode prog_9_method_11_code 13 = .ok (.getfield 18, 3) := by decide +kernel
theorem d_Tr_character_16 : decode prog_9_method_11_code 16 = .ok (.iload_n 1, 1) := by decide +kernel
theorem d_Tr_character_17 : decode prog_9_method_11_code 17 = .ok (.iaload, 1) := by decide +kernel
theorem d_Tr_character_18 : decode prog_9_method_11_code 18 = .ok (.iload_n 2, 1) := by decide +kernel
theorem d_Tr_character_19 : decode prog_9_method_11_code 19 = .ok (.iadd, 1) := by decide +kernel
theorem d_Tr_character_20 : decode prog_9_method_11_code 20 = .ok (.goto 4, 3) := by decide +kernel
theorem d_Tr_character_23 : decode prog_9_method_11_code 23 = .ok (.iconst (-1), 1) := by decide +kernel
theorem d_Tr_character_24 : decode prog_9_method_11_code 24 = .ok (.istore_n 3, 1) := by decide +kernel
theorem d_Tr_character_25 : decode prog_9_method_11_code 25 = .ok (.iload_n 3, 1) := by decide +kernel
theorem d_Tr_character_26 : decode prog_9_method_11_code 26 = .ok (.ifCond .lt 20, 3) := by decide +kernel
theorem d_Tr_character_29 : decode prog_9_method_11_code 29 = .ok (.iload_n 3, 1) := by decide +kernel
theorem d_Tr_character_30 : decode prog_9_method_11_code 30 = .ok (.aload_n 0, 1) := by decide +kernel
theorem d_Tr_character_31 : decode prog_9_method_11_code 31 = .ok (.getfield 31, 3) := by decide +kernel
theorem d_Tr_character_34 : decode prog_9_method_11_code 34 = .ok (.if_icmp .ge 12, 3) := by decide +kernel
theorem d_Tr_character_37 : decode prog_9_method_11_code 37 = .ok (.aload_n 0, 1) := by decide +kernel
theorem d_Tr_character_38 : decode prog_9_method_11_code 38 = .ok (.getfield 24, 3) := by decide +kernel
theorem d_Tr_character_41 : decode prog_9_method_11_code 41 = .ok (.iload_n 3, 1) := by decide +kernel
theorem d_Tr_character_42 : decode prog_9_method_11_code 42 = .ok (.iaload, 1) := by decide +kernel
theorem d_Tr_character_43 : decode prog_9_method_11_code 43 = .ok (.goto 4, 3) := by decide +kernel
theorem d_Tr_character_46 : decode prog_9_method_11_code 46 = .ok (.iconst (-1), 1) := by decide +kernel
theorem d_Tr_character_47 : decode prog_9_method_11_code 47 = .ok (.ireturn, 1) := by decide +kernel
theorem d_Tr_valueLength_0 : decode prog_9_method_17_code 0 = .ok (.iconst 0, 1) := by decide +kernel
theorem d_Tr_valueLength_1 : decode prog_9_method_17_code 1 = .ok (.istore_n 3, 1) := by decide +kernel
theorem d_Tr_valueLength_2 : decode prog_9_method_17_code 2 = .ok (.iload_n 1, 1) := by decide +kernel
theorem d_Tr_valueLength_3 : decode prog_9_method_17_code 3 = .ok (.istore 4, 2) := by decide +kernel
theorem d_Tr_valueLength_5 : decode prog_9_method_17_code 5 = .ok (.iload 4, 2) := by decide +kernel
theorem d_Tr_valueLength_7 : decode prog_9_method_17_code 7 = .ok (.aload_n 0, 1) := by decide +kernel
theorem d_Tr_valueLength_8 : decode prog_9_method_17_code 8 = .ok (.getfield 15, 3) := by decide +kernel
theorem d_Tr_valueLength_11 : decode prog_9_method_17_code 11 = .ok (.iload_n 1, 1) := by decide +kernel
theorem d_Tr_valueLength_12 : decode prog_9_method_17_code 12 = .ok (.iaload, 1) := by decide +kernel
theorem d_Tr_valueLength_13 : decode prog_9_method_17_code 13 = .ok (.if_icmp .ge 81, 3) := by decide +kernel
theorem d_Tr_valueLength_16 : decode prog_9_method_17_code 16 = .ok (.aload_n 0, 1) := by decide +kernel
theorem d_Tr_valueLength_17 : decode prog_9_method_17_code 17 = .ok (.getfield 9, 3) := by decide +kernel
theorem d_Tr_valueLength_20 : decode prog_9_method_17_code 20 = .ok (.iload 4, 2) := by decide +kernel
theorem d_Tr_valueLength_22 : decode prog_9_method_17_code 22 = .ok (.iaload, 1) := by decide +kernel
theorem d_Tr_valueLength_23 : decode prog_9_method_17_code 23 = .ok (.invokestatic 63, 3) := by decide +kernel
theorem d_Tr_valueLength_26 : decode prog_9_method_17_code 26 = .ok (.istore 5, 2) := by decide +kernel
theorem d_Tr_valueLength_28 : decode prog_9_method_17_code 28 = .ok (.iload 4, 2) := by decide +kernel
theorem d_Tr_valueLength_30 : decode prog_9_method_17_code 30 = .ok (.iload_n 1, 1) := by decide +kernel
theorem d_Tr_valueLength_31 : decode prog_9_method_17_code 31 = .ok (.if_icmp .le 21, 3) := by decide +kernel
theorem d_Tr_valueLength_34 : decode prog_9_method_17_code 34 = .ok (.iload_n 3, 1) := by decide +kernel
theorem d_Tr_valueLength_35 : decode prog_9_method_17_code 35 = .ok (.iload_n 2, 1) := by decide +kernel
theorem d_Tr_valueLength_36 : decode prog_9_method_17_code 36 = .ok (.ifCond .ne 13, 3) := by decide +kernel
theorem d_Tr_valueLength_39 : decode prog_9_method_17_code 39 = .ok (.iload 5, 2) := by decide +kernel
theorem d_Tr_valueLength_41 : decode prog_9_method_17_code 41 = .ok (.iconst 4, 1) := by decide +kernel
theorem d_Tr_valueLength_42 : decode prog_9_method_17_code 42 = .ok (.if_icmp .eq 7, 3) := by decide +kernel
theorem d_Tr_valueLength_45 : decode prog_9_method_17_code 45 = .ok (.iconst 3, 1) := by decide +kernel
theorem d_Tr_valueLength_46 : decode prog_9_method_17_code 46 = .ok (.goto 4, 3) := by decide +kernel
theorem d_Tr_valueLength_49 : decode prog_9_method_17_code 49 = .ok (.iconst 2, 1) := by decide +kernel
theorem d_Tr_valueLength_50 : decode prog_9_method_17_code 50 = .ok (.iadd, 1) := by decide +kernel
theorem d_Tr_valueLength_51 : decode prog_9_method_17_code 51 = .ok (.istore_n 3, 1) := by decide +kernel
theorem d_Tr_valueLength_52 : decode prog_9_method_17_code 52 = .ok (.iload_n 3, 1) := by decide +kernel
theorem d_Tr_valueLength_53 : decode prog_9_method_17_code 53 = .ok (.iload 5, 2) := by decide +kernel
theorem d_Tr_valueLength_55 : decode prog_9_method_17_code 55 = .ok (.iconst 2, 1) := by decide +kernel
theorem d_Tr_valueLength_56 : decode prog_9_method_17_code 56 = .ok (.if_icmp .ne 23, 3) := by decide +kernel
theorem d_Tr_valueLength_59 : decode prog_9_method_17_code 59 = .ok (.aload_n 0, 1) := by decide +kernel
theorem d_Tr_valueLength_60 : decode prog_9_method_17_code 60 = .ok (.getfield 21, 3) := by decide +kernel
theorem d_Tr_valueLength_63 : decode prog_9_method_17_code 63 = .ok (.iload 4, 2) := by decide +kernel
theorem d_Tr_valueLength_65 : decode prog_9_method_17_code 65 = .ok (.iaload, 1) := by decide +kernel
theorem d_Tr_valueLength_66 : decode prog_9_method_17_code 66 = .ok (.aload_n 0, 1) := by decide +kernel
theorem d_Tr_valueLength_67 : decode prog_9_method_17_code 67 = .ok (.getfield 21, 3) := by decide +kernel
theorem d_Tr_valueLength_70 : decode prog_9_method_17_code 70 = .ok (.iload 4, 2) := by decide +kernel
theorem d_Tr_valueLength_72 : decode prog_9_method_17_code 72 = .ok (.iaload, 1) := by decide +kernel
theorem d_Tr_valueLength_73 : decode prog_9_method_17_code 73 = .ok (.iconst 2, 1) := by decide +kernel
theorem d_Tr_valueLength_74 : decode prog_9_method_17_code 74 = .ok (.irem, 1) := by decide +kernel
theorem d_Tr_valueLength_75 : decode prog_9_method_17_code 75 = .ok (.iadd, 1) := by decide +kernel
theorem d_Tr_valueLength_76 : decode prog_9_method_17_code 76 = .ok (.goto 10, 3) := by decide +kernel
theorem d_Tr_valueLength_79 : decode prog_9_method_17_code 79 = .ok (.aload_n 0, 1) := by decide +kernel
theorem d_Tr_valueLength_80 : decode prog_9_method_17_code 80 = .ok (.getfield 21, 3) := by decide +kernel
theorem d_Tr_valueLength_83 : decode prog_9_method_17_code 83 = .ok (.iload 4, 2) := by decide +kernel
theorem d_Tr_valueLength_85 : decode prog_9_method_17_code 85 = .ok (.iaload, 1) := by decide +kernel
theorem d_Tr_valueLength_86 : decode prog_9_method_17_code 86 = .ok (.iadd, 1) := by decide +kernel
theorem d_Tr_valueLength_87 : decode prog_9_method_17_code 87 = .ok (.istore_n 3, 1) := by decide +kernel
theorem d_Tr_valueLength_88 : decode prog_9_method_17_code 88 = .ok (.iinc 4 1, 3) := by decide +kernel
theorem d_Tr_valueLength_91 : decode prog_9_method_17_code 91 = .ok (.goto (-86), 3) := by decide +kernel
theorem d_Tr_valueLength_94 : decode prog_9_method_17_code 94 = .ok (.iload_n 3, 1) := by decide +kernel
theorem d_Tr_valueLength_95 : decode prog_9_method_17_code 95 = .ok (.ireturn, 1) := by decide +kernel
theorem d_Tr_writeNode_0 : decode prog_9_method_16_code 0 = .ok (.aload_n 0, 1) := by decide +kernel
theorem d_Tr_writeNode_1 : decode prog_9_method_16_code 1 = .ok (.getfield 9, 3) := by decide +kernel
theorem d_Tr_writeNode_4 : decode prog_9_method_16_code 4 = .ok (.iload_n 1, 1) := by decide +kernel
theorem d_Tr_writeNode_5 : decode prog_9_method_16_code 5 = .ok (.iaload, 1) := by decide +kernel
theorem d_Tr_writeNode_6 : decode prog_9_method_16_code 6 = .ok (.istore 4, 2) := by decide +kernel
theorem d_Tr_writeNode_8 : decode prog_9_method_16_code 8 = .ok (.iload 4, 2) := by decide +kernel
theorem d_Tr_writeNode_10 : decode prog_9_method_16_code 10 = .ok (.invokestatic 63, 3) := by decide +kernel
theorem d_Tr_writeNode_13 : decode prog_9_method_16_code 13 = .ok (.istore 5, 2) := by decide +kernel
theorem d_Tr_writeNode_15 : decode prog_9_method_16_code 15 = .ok (.iload 5, 2) := by decide +kernel
theorem d_Tr_writeNode_17 : decode prog_9_method_16_code 17 = .ok (.iconst 1, 1) := by decide +kernel
theorem d_Tr_writeNode_18 : decode prog_9_method_16_code 18 = .ok (.if_icmp .ne 18, 3) := by decide +kernel
theorem d_Tr_writeNode_21 : decode prog_9_method_16_code 21 = .ok (.iload 4, 2) := by decide +kernel
theorem d_Tr_writeNode_23 : decode prog_9_method_16_code 23 = .ok (.aload_n 0, 1) := by decide +kernel
theorem d_Tr_writeNode_24 : decode prog_9_method_16_code 24 = .ok (.getfield 18, 3) := by decide +kernel
theorem d_Tr_writeNode_27 : decode prog_9_method_16_code 27 = .ok (.iload_n 1, 1) := by decide +kernel
theorem d_Tr_writeNode_28 : decode prog_9_method_16_code 28 = .ok (.iaload, 1) := by decide +kernel
theorem d_Tr_writeNode_29 : decode prog_9_method_16_code 29 = .ok (.iload_n 2, 1) := by decide +kernel
theorem d_Tr_writeNode_30 : decode prog_9_method_16_code 30 = .ok (.aload_n 3, 1) := by decide +kernel
theorem d_Tr_writeNode_31 : decode prog_9_method_16_code 31 = .ok (.invokestatic 66, 3) := by decide +kernel
theorem d_Tr_writeNode_34 : decode prog_9_method_16_code 34 = .ok (.iconst 1, 1) := by decide +kernel
theorem d_Tr_writeNode_35 : decode prog_9_method_16_code 35 = .ok (.ireturn, 1) := by decide +kernel
theorem d_Tr_writeNode_36 : decode prog_9_method_16_code 36 = .ok (.aload_n 0, 1) := by decide +kernel
theorem d_Tr_writeNode_37 : decode prog_9_method_16_code 37 = .ok (.iload_n 1, 1) := by decide +kernel
theorem d_Tr_writeNode_38 : decode prog_9_method_16_code 38 = .ok (.iload_n 2, 1) := by decide +kernel
theorem d_Tr_writeNode_39 : decode prog_9_method_16_code 39 = .ok (.invokevirtual 70, 3) := by decide +kernel
theorem d_Tr_writeNode_42 : decode prog_9_method_16_code 42 = .ok (.istore 6, 2) := by decide +kernel
theorem d_Tr_writeNode_44 : decode prog_9_method_16_code 44 = .ok (.iload 6, 2) := by decide +kernel
theorem d_Tr_writeNode_46 : decode prog_9_method_16_code 46 = .ok (.sipush 240, 3) := by decide +kernel
theorem d_Tr_writeNode_49 : decode prog_9_method_16_code 49 = .ok (.if_icmp .le 5, 3) := by decide +kernel
theorem d_Tr_writeNode_52 : decode prog_9_method_16_code 52 = .ok (.iconst 0, 1) := by decide +kernel
theorem d_Tr_writeNode_53 : decode prog_9_method_16_code 53 = .ok (.ireturn, 1) := by decide +kernel
theorem d_Tr_writeNode_54 : decode prog_9_method_16_code 54 = .ok (.aload_n 3, 1) := by decide +kernel
theorem d_Tr_writeNode_55 : decode prog_9_method_16_code 55 = .ok (.iload 4, 2) := by decide +kernel
theorem d_Tr_writeNode_57 : decode prog_9_method_16_code 57 = .ok (.invokevirtual 42, 3) := by decide +kernel
theorem d_Tr_writeNode_60 : decode prog_9_method_16_code 60 = .ok (.iload_n 2, 1) := by decide +kernel
theorem d_Tr_writeNode_61 : decode prog_9_method_16_code 61 = .ok (.ifCond .ne 15, 3) := by decide +kernel
theorem d_Tr_writeNode_64 : decode prog_9_method_16_code 64 = .ok (.iload 5, 2) := by decide +kernel
theorem d_Tr_writeNode_66 : decode prog_9_method_16_code 66 = .ok (.iconst 4, 1) := by decide +kernel
theorem d_Tr_writeNode_67 : decode prog_9_method_16_code 67 = .ok (.if_icmp .eq 9, 3) := by decide +kernel
theorem d_Tr_writeNode_70 : decode prog_9_method_16_code 70 = .ok (.aload_n 3, 1) := by decide +kernel
theorem d_Tr_writeNode_71 : decode prog_9_method_16_code 71 = .ok (.iload 5, 2) := by decide +kernel
theorem d_Tr_writeNode_73 : decode prog_9_method_16_code 73 = .ok (.invokevirtual 42, 3) := by decide +kernel
theorem d_Tr_writeNode_76 : decode prog_9_method_16_code 76 = .ok (.aload_n 3, 1) := by decide +kernel
theorem d_Tr_writeNode_77 : decode prog_9_method_16_code 77 = .ok (.iload 6, 2) := by decide +kernel
theorem d_Tr_writeNode_79 : decode prog_9_method_16_code 79 = .ok (.invokevirtual 42, 3) := by decide +kernel
theorem d_Tr_writeNode_82 : decode prog_9_method_16_code 82 = .ok (.iload 5, 2) := by decide +kernel
theorem d_Tr_writeNode_84 : decode prog_9_method_16_code 84 = .ok (.iconst 2, 1) := by decide +kernel
theorem d_Tr_writeNode_85 : decode prog_9_method_16_code 85 = .ok (.if_icmp .ne 46, 3) := by decide +kernel
theorem d_Tr_writeNode_88 : decode prog_9_method_16_code 88 = .ok (.iconst 0, 1) := by decide +kernel
theorem d_Tr_writeNode_89 : decode prog_9_method_16_code 89 = .ok (.istore 7, 2) := by decide +kernel
theorem d_Tr_writeNode_91 : decode prog_9_method_16_code 91 = .ok (.iload 7, 2) := by decide +kernel
theorem d_Tr_writeNode_93 : decode prog_9_method_16_code 93 = .ok (.iload 6, 2) := by decide +kernel
theorem d_Tr_writeNode_95 : decode prog_9_method_16_code 95 = .ok (.if_icmp .ge 36, 3) := by decide +kernel
theorem d_Tr_writeNode_98 : decode prog_9_method_16_code 98 = .ok (.aload_n 3, 1) := by decide +kernel
theorem d_Tr_writeNode_99 : decode prog_9_method_16_code 99 = .ok (.iload 7, 2) := by decide +kernel
theorem d_Tr_writeNode_101 : decode prog_9_method_16_code 101 = .ok (.aload_n 0, 1) := by decide +kernel
theorem d_Tr_writeNode_102 : decode prog_9_method_16_code 102 = .ok (.getfield 21, 3) := by decide +kernel
theorem d_Tr_writeNode_105 : decode prog_9_method_16_code 105 = .ok (.iload_n 1, 1) := by decide +kernel
theorem d_Tr_writeNode_106 : decode prog_9_method_16_code 106 = .ok (.iaload, 1) := by decide +kernel
theorem d_Tr_writeNode_107 : decode prog_9_method_16_code 107 = .ok (.if_icmp .ge 13, 3) := by decide +kernel
theorem d_Tr_writeNode_110 : decode prog_9_method_16_code 110 = .ok (.aload_n 0, 1) := by decide +kernel
theorem d_Tr_writeNode_111 : decode prog_9_method_16_code 111 = .ok (.iload_n 1, 1) := by decide +kernel
theorem d_Tr_writeNode_112 : decode prog_9_method_16_code 112 = .ok (.iload 7, 2) := by decide +kernel
theorem d_Tr_writeNode_114 : decode prog_9_method_16_code 114 = .ok (.invokevirtual 38, 3) := by decide +kernel
theorem d_Tr_writeNode_117 : decode prog_9_method_16_code 117 = .ok (.goto 5, 3) := by decide +kernel
theorem d_Tr_writeNode_120 : decode prog_9_method_16_code 120 = .ok (.bipush 32, 2) := by decide +kernel
theorem d_Tr_writeNode_122 : decode prog_9_method_16_code 122 = .ok (.invokevirtual 42, 3) := by decide +kernel
theorem d_Tr_writeNode_125 : decode prog_9_method_16_code 125 = .ok (.iinc 7 1, 3) := by decide +kernel
theorem d_Tr_writeNode_128 : decode prog_9_method_16_code 128 = .ok (.goto (-37), 3) := by decide +kernel
theorem d_Tr_writeNode_131 : decode prog_9_method_16_code 131 = .ok (.iconst 1, 1) := by decide +kernel
theorem d_Tr_writeNode_132 : decode prog_9_method_16_code 132 = .ok (.ireturn, 1) := by decide +kernel
theorem d_Tr_writeAll_0 : decode prog_9_method_14_code 0 = .ok (.aload_n 2, 1) := by decide +kernel
theorem d_Tr_writeAll_1 : decode prog_9_method_14_code 1 = .ok (.invokevirtual 53, 3) := by decide +kernel
theorem d_Tr_writeAll_4 : decode prog_9_method_14_code 4 = .ok (.iconst 1, 1) := by decide +kernel
theorem d_Tr_writeAll_5 : decode prog_9_method_14_code 5 = .ok (.istore_n 3, 1) := by decide +kernel
theorem d_Tr_writeAll_6 : decode prog_9_method_14_code 6 = .ok (.iconst 1, 1) := by decide +kernel
theorem d_Tr_writeAll_7 : decode prog_9_method_14_code 7 = .ok (.istore 4, 2) := by decide +kernel
theorem d_Tr_writeAll_9 : decode prog_9_method_14_code 9 = .ok (.iload 4, 2) := by decide +kernel
theorem d_Tr_writeAll_11 : decode prog_9_method_14_code 11 = .ok (.aload_n 0, 1) := by decide +kernel
theorem d_Tr_writeAll_12 : decode prog_9_method_14_code 12 = .ok (.getfield 27, 3) := by decide +kernel
theorem d_Tr_writeAll_15 : decode prog_9_method_14_code 15 = .ok (.if_icmp .ge 22, 3) := by decide +kernel
theorem d_Tr_writeAll_18 : decode prog_9_method_14_code 18 = .ok (.iload_n 3, 1) := by decide +kernel
theorem d_Tr_writeAll_19 : decode prog_9_method_14_code 19 = .ok (.ifCond .eq 18, 3) := by decide +kernel
theorem d_Tr_writeAll_22 : decode prog_9_method_14_code 22 = .ok (.aload_n 0, 1) := by decide +kernel
theorem d_Tr_writeAll_23 : decode prog_9_method_14_code 23 = .ok (.iload 4, 2) := by decide +kernel
theorem d_Tr_writeAll_25 : decode prog_9_method_14_code 25 = .ok (.iload_n 1, 1) := by decide +kernel
theorem d_Tr_writeAll_26 : decode prog_9_method_14_code 26 = .ok (.aload_n 2, 1) := by decide +kernel
theorem d_Tr_writeAll_27 : decode prog_9_method_14_code 27 = .ok (.invokevirtual 56, 3) := by decide +kernel
theorem d_Tr_writeAll_30 : decode prog_9_method_14_code 30 = .ok (.istore_n 3, 1) := by decide +kernel
theorem d_Tr_writeAll_31 : decode prog_9_method_14_code 31 = .ok (.iinc 4 1, 3) := by decide +kernel
theorem d_Tr_writeAll_34 : decode prog_9_method_14_code 34 = .ok (.goto (-25), 3) := by decide +kernel
theorem d_Tr_writeAll_37 : decode prog_9_method_14_code 37 = .ok (.iload_n 3, 1) := by decide +kernel
theorem d_Tr_writeAll_38 : decode prog_9_method_14_code 38 = .ok (.ireturn, 1) := by decide +kernel
theorem d_Tr_textLength_0 : decode prog_9_method_10_code 0 = .ok (.iload_n 1, 1) := by decide +kernel
theorem d_Tr_textLength_1 : decode prog_9_method_10_code 1 = .ok (.ifCond .lt 20, 3) := by decide +kernel
theorem d_Tr_textLength_4 : decode prog_9_method_10_code 4 = .ok (.iload_n 1, 1) := by decide +kernel
theorem d_Tr_textLength_5 : decode prog_9_method_10_code 5 = .ok (.aload_n 0, 1) := by decide +kernel
theorem d_Tr_textLength_6 : decode prog_9_method_10_code 6 = .ok (.getfield 27, 3) := by decide +kernel
theorem d_Tr_textLength_9 : decode prog_9_method_10_code 9 = .ok (.if_icmp .ge 12, 3) := by decide +kernel
theorem d_Tr_textLength_12 : decode prog_9_method_10_code 12 = .ok (.aload_n 0, 1) := by decide +kernel
theorem d_Tr_textLength_13 : decode prog_9_method_10_code 13 = .ok (.getfield 21, 3) := by decide +kernel
theorem d_Tr_textLength_16 : decode prog_9_method_10_code 16 = .ok (.iload_n 1, 1) := by decide +kernel
theorem d_Tr_textLength_17 : decode prog_9_method_10_code 17 = .ok (.iaload, 1) := by decide +kernel
theorem d_Tr_textLength_18 : decode prog_9_method_10_code 18 = .ok (.goto 4, 3) := by decide +kernel
theorem d_Tr_textLength_21 : decode prog_9_method_10_code 21 = .ok (.iconst 0, 1) := by decide +kernel
theorem d_Tr_textLength_22 : decode prog_9_method_10_code 22 = .ok (.ireturn, 1) := by decide +kernel
theorem d_Tr_copyText_0 : decode prog_9_method_12_code 0 = .ok (.aload_n 0, 1) := by decide +kernel
theorem d_Tr_copyText_1 : decode prog_9_method_12_code 1 = .ok (.iload_n 1, 1) := by decide +kernel
theorem d_Tr_copyText_2 : decode prog_9_method_12_code 2 = .ok (.invokevirtual 34, 3) := by decide +kernel
theorem d_Tr_copyText_5 : decode prog_9_method_12_code 5 = .ok (.istore_n 3, 1) := by decide +kernel
theorem d_Tr_copyText_6 : decode prog_9_method_12_code 6 = .ok (.iconst 0, 1) := by decide +kernel
theorem d_Tr_copyText_7 : decode prog_9_method_12_code 7 = .ok (.istore 4, 2) := by decide +kernel
theorem d_Tr_copyText_9 : decode prog_9_method_12_code 9 = .ok (.iload 4, 2) := by decide +kernel
theorem d_Tr_copyText_11 : decode prog_9_method_12_code 11 = .ok (.iload_n 3, 1) := by decide +kernel
theorem d_Tr_copyText_12 : decode prog_9_method_12_code 12 = .ok (.if_icmp .ge 20, 3) := by decide +kernel
theorem d_Tr_copyText_15 : decode prog_9_method_12_code 15 = .ok (.aload_n 2, 1) := by decide +kernel
theorem d_Tr_copyText_16 : decode prog_9_method_12_code 16 = .ok (.aload_n 0, 1) := by decide +kernel
theorem d_Tr_copyText_17 : decode prog_9_method_12_code 17 = .ok (.iload_n 1, 1) := by decide +kernel
theorem d_Tr_copyText_18 : decode prog_9_method_12_code 18 = .ok (.iload 4, 2) := by decide +kernel
theorem d_Tr_copyText_20 : decode prog_9_method_12_code 20 = .ok (.invokevirtual 38, 3) := by decide +kernel
theorem d_Tr_copyText_23 : decode prog_9_method_12_code 23 = .ok (.invokevirtual 42, 3) := by decide +kernel
theorem d_Tr_copyText_26 : decode prog_9_method_12_code 26 = .ok (.iinc 4 1, 3) := by decide +kernel
theorem d_Tr_copyText_29 : decode prog_9_method_12_code 29 = .ok (.goto (-20), 3) := by decide +kernel
theorem d_Tr_copyText_32 : decode prog_9_method_12_code 32 = .ok (.return_, 1) := by decide +kernel
theorem d_Tr_writeChosen_0 : decode prog_9_method_15_code 0 = .ok (.iconst 1, 1) := by decide +kernel
theorem d_Tr_writeChosen_1 : decode prog_9_method_15_code 1 = .ok (.istore 4, 2) := by decide +kernel
theorem d_Tr_writeChosen_3 : decode prog_9_method_15_code 3 = .ok (.iconst 0, 1) := by decide +kernel
theorem d_Tr_writeChosen_4 : decode prog_9_method_15_code 4 = .ok (.istore 5, 2) := by decide +kernel
theorem d_Tr_writeChosen_6 : decode prog_9_method_15_code 6 = .ok (.iconst 1, 1) := by decide +kernel
theorem d_Tr_writeChosen_7 : decode prog_9_method_15_code 7 = .ok (.istore 6, 2) := by decide +kernel
theorem d_Tr_writeChosen_9 : decode prog_9_method_15_code 9 = .ok (.iload 6, 2) := by decide +kernel
theorem d_Tr_writeChosen_11 : decode prog_9_method_15_code 11 = .ok (.aload_n 0, 1) := by decide +kernel
theorem d_Tr_writeChosen_12 : decode prog_9_method_15_code 12 = .ok (.getfield 27, 3) := by decide +kernel
theorem d_Tr_writeChosen_15 : decode prog_9_method_15_code 15 = .ok (.if_icmp .ge 62, 3) := by decide +kernel
theorem d_Tr_writeChosen_18 : decode prog_9_method_15_code 18 = .ok (.iload 6, 2) := by decide +kernel
theorem d_Tr_writeChosen_20 : decode prog_9_method_15_code 20 = .ok (.iload 4, 2) := by decide +kernel
theorem d_Tr_writeChosen_22 : decode prog_9_method_15_code 22 = .ok (.if_icmp .ne 35, 3) := by decide +kernel
theorem d_Tr_writeChosen_25 : decode prog_9_method_15_code 25 = .ok (.aload_n 1, 1) := by decide +kernel
theorem d_Tr_writeChosen_26 : decode prog_9_method_15_code 26 = .ok (.iconst 0, 1) := by decide +kernel
theorem d_Tr_writeChosen_27 : decode prog_9_method_15_code 27 = .ok (.aload_n 0, 1) := by decide +kernel
theorem d_Tr_writeChosen_28 : decode prog_9_method_15_code 28 = .ok (.getfield 9, 3) := by decide +kernel
theorem d_Tr_writeChosen_31 : decode prog_9_method_15_code 31 = .ok (.iload 6, 2) := by decide +kernel
theorem d_Tr_writeChosen_33 : decode prog_9_method_15_code 33 = .ok (.iaload, 1) := by decide +kernel
theorem d_Tr_writeChosen_34 : decode prog_9_method_15_code 34 = .ok (.invokevirtual 60, 3) := by decide +kernel
theorem d_Tr_writeChosen_37 : decode prog_9_method_15_code 37 = .ok (.iconst (-1), 1) := by decide +kernel
theorem d_Tr_writeChosen_38 : decode prog_9_method_15_code 38 = .ok (.if_icmp .eq 7, 3) := by decide +kernel
theorem d_Tr_writeChosen_41 : decode prog_9_method_15_code 41 = .ok (.iconst 1, 1) := by decide +kernel
theorem d_Tr_writeChosen_42 : decode prog_9_method_15_code 42 = .ok (.goto 4, 3) := by decide +kernel
theorem d_Tr_writeChosen_45 : decode prog_9_method_15_code 45 = .ok (.iconst 0, 1) := by decide +kernel
theorem d_Tr_writeChosen_46 : decode prog_9_method_15_code 46 = .ok (.istore 5, 2) := by decide +kernel
theorem d_Tr_writeChosen_48 : decode prog_9_method_15_code 48 = .ok (.aload_n 0, 1) := by decide +kernel
theorem d_Tr_writeChosen_49 : decode prog_9_method_15_code 49 = .ok (.getfield 15, 3) := by decide +kernel
theorem d_Tr_writeChosen_52 : decode prog_9_method_15_code 52 = .ok (.iload 6, 2) := by decide +kernel
theorem d_Tr_writeChosen_54 : decode prog_9_method_15_code 54 = .ok (.iaload, 1) := by decide +kernel
theorem d_Tr_writeChosen_55 : decode prog_9_method_15_code 55 = .ok (.istore 4, 2) := by decide +kernel
theorem d_Tr_writeChosen_57 : decode prog_9_method_15_code 57 = .ok (.iload 5, 2) := by decide +kernel
theorem d_Tr_writeChosen_59 : decode prog_9_method_15_code 59 = .ok (.ifCond .eq 12, 3) := by decide +kernel
theorem d_Tr_writeChosen_62 : decode prog_9_method_15_code 62 = .ok (.aload_n 0, 1) := by decide +kernel
theorem d_Tr_writeChosen_63 : decode prog_9_method_15_code 63 = .ok (.iload 6, 2) := by decide +kernel
theorem d_Tr_writeChosen_65 : decode prog_9_method_15_code 65 = .ok (.iload_n 2, 1) := by decide +kernel
theorem d_Tr_writeChosen_66 : decode prog_9_method_15_code 66 = .ok (.aload_n 3, 1) := by decide +kernel
theorem d_Tr_writeChosen_67 : decode prog_9_method_15_code 67 = .ok (.invokevirtual 56, 3) := by decide +kernel
theorem d_Tr_writeChosen_70 : decode prog_9_method_15_code 70 = .ok (.pop, 1) := by decide +kernel
theorem d_Tr_writeChosen_71 : decode prog_9_method_15_code 71 = .ok (.iinc 6 1, 3) := by decide +kernel
theorem d_Tr_writeChosen_74 : decode prog_9_method_15_code 74 = .ok (.goto (-65), 3) := by decide +kernel
theorem d_Tr_writeChosen_77 : decode prog_9_method_15_code 77 = .ok (.return_, 1) := by decide +kernel
def ws_Tr_behind : List Cond := .code y_Tr_behind prog_9_method_8_code 2 (some .int) :: TB
def B_Tr_behind_22 (s0 : S_Tr) (y0 : Int32) : Option Int32 :=
  some y0
def B_Tr_behind_21 (s0 : S_Tr) : Option Int32 :=
  (B_Tr_behind_22 s0 ((-1) : Int32))
def B_Tr_behind_12 (s0 : S_Tr) (x1 : Int32) : Option Int32 :=
  (if (x1 < 0 ∨ 101 ≤ x1.toNatClampNeg) then none else (B_Tr_behind_22 s0 ((Tr_behind s0) x1.toNatClampNeg)))
def B_Tr_behind_4 (s0 : S_Tr) (x1 : Int32) : Option Int32 :=
  (if (Tr_count s0) ≤ x1 then (B_Tr_behind_21 s0) else (B_Tr_behind_12 s0 x1))
def B_Tr_behind_0 (s0 : S_Tr) (x1 : Int32) : Option Int32 :=
  (if x1 < 0 then (B_Tr_behind_21 s0) else (B_Tr_behind_4 s0 x1))
def F_Tr_behind (s0 : S_Tr) (x1 : Int32) : Option Int32 := B_Tr_behind_0 s0 x1
set_option maxRecDepth 100000 in
set_option maxHeartbeats 4000000 in
theorem t_Tr_behind_22 {p : Program} {l : Launch} {e : Env} {s : State} {m : MethodId} {args : Array Value} {below : List Frame} {meth : Method} {c : Code} {D : va_G} {A : Nat → Prop} {g : Nat → ClassId} {rest : va_W} {a0 : Nat → Nat} {ls : Array Slot} {H : Heap} {locs : List Loc} {s0 : S_Tr} {y0 : Int32} {out : Int32} (X : Cx p s m args meth c prog_9_method_8_code 2 ws_Tr_behind R_Tr (some .int) D g) (hl : lv_has ls 2 []) (hI : Iw D A (w_Tr g a0 s0 ++ (rest)) H) (hS : va_S A s.heap H locs) (h : B_Tr_behind_22  s0 y0 = some out) : W p l e (headSpec ws_Tr_behind { frames := 0, cells := 0, slots := 0, locals := 0 }).room s m args below meth c H locs 0 0 (MQ below (QcI D A g out (fun (_ : Unit) => w_Tr g a0 s0 ++ (rest))) args s 0 0 A) (F0 m 22 ls [.int y0]) := by
  have X1 := X
  obtain ⟨hx, hb, hml, hown, hts, hr, hlocks, hKK⟩ := X1
  have ht : ∀ w ∈ TB, w.before args s = true := fun w h => hts w (List.mem_cons_of_mem _ h)
  have hK := hKK.1
  unfold B_Tr_behind_22 at h
  have h9 := Option.some.inj h
  subst h9
  exact W.iret (v := y0) hx hb hr (fun t ht hW => ⟨⟨_, (), rfl, rfl, ⟨by rw [ht]; exact hI, hKK.moved hW⟩⟩, hS.F ht⟩) hS.2.2 d_Tr_behind_22
set_option maxRecDepth 100000 in
set_option maxHeartbeats 4000000 in
theorem t_Tr_behind_21 {p : Program} {l : Launch} {e : Env} {s : State} {m : MethodId} {args : Array Value} {below : List Frame} {meth : Method} {c : Code} {D : va_G} {A : Nat → Prop} {g : Nat → ClassId} {rest : va_W} {a0 : Nat → Nat} {ls : Array Slot} {H : Heap} {locs : List Loc} {s0 : S_Tr} {out : Int32} (X : Cx p s m args meth c prog_9_method_8_code 2 ws_Tr_behind R_Tr (some .int) D g) (hl : lv_has ls 2 []) (hI : Iw D A (w_Tr g a0 s0 ++ (rest)) H) (hS : va_S A s.heap H locs) (h : B_Tr_behind_21  s0 = some out) : W p l e (headSpec ws_Tr_behind { frames := 0, cells := 0, slots := 0, locals := 0 }).room s m args below meth c H locs 0 0 (MQ below (QcI D A g out (fun (_ : Unit) => w_Tr g a0 s0 ++ (rest))) args s 0 0 A) (F0 m 21 ls []) := by
  have X1 := X
  obtain ⟨hx, hb, hml, hown, hts, hr, hlocks, hKK⟩ := X1
  have ht : ∀ w ∈ TB, w.before args s = true := fun w h => hts w (List.mem_cons_of_mem _ h)
  have hK := hKK.1
  unfold B_Tr_behind_21 at h
  refine lv_iconst (v := (-1)) hx hb d_Tr_behind_21 (by decide) ?_
  exact t_Tr_behind_22 X (lv_sub hl [] rfl) hI hS h
set_option maxRecDepth 100000 in
set_option maxHeartbeats 4000000 in
theorem t_Tr_behind_12 {p : Program} {l : Launch} {e : Env} {s : State} {m : MethodId} {args : Array Value} {below : List Frame} {meth : Method} {c : Code} {D : va_G} {A : Nat → Prop} {g : Nat → ClassId} {rest : va_W} {a0 : Nat → Nat} {ls : Array Slot} {H : Heap} {locs : List Loc} {s0 : S_Tr} {x1 : Int32} {out : Int32} (X : Cx p s m args meth c prog_9_method_8_code 2 ws_Tr_behind R_Tr (some .int) D g) (hl : lv_has ls 2 [(0, .ref (a0 0)), (1, .int x1)]) (hI : Iw D A (w_Tr g a0 s0 ++ (rest)) H) (hS : va_S A s.heap H locs) (h : B_Tr_behind_12  s0 x1 = some out) : W p l e (headSpec ws_Tr_behind { frames := 0, cells := 0, slots := 0, locals := 0 }).room s m args below meth c H locs 0 0 (MQ below (QcI D A g out (fun (_ : Unit) => w_Tr g a0 s0 ++ (rest))) args s 0 0 A) (F0 m 12 ls []) := by
  have X1 := X
  obtain ⟨hx, hb, hml, hown, hts, hr, hlocks, hKK⟩ := X1
  have ht : ∀ w ∈ TB, w.before args s = true := fun w h => hts w (List.mem_cons_of_mem _ h)
  have hK := hKK.1
  unfold B_Tr_behind_12 at h
  refine lv_aload_n hx hb d_Tr_behind_12 rfl (lv_at hl 0 rfl) ?_
  refine va_get (D := D) (ci := 7) (v := .ref (a0 2)) (C := R_Tr) (T := T_Tr) (N := 7) hx hb ht in_Tr hown hK hI.1 0 rfl rfl 1 (by decide) (ht _ m_135) (fun _ h9 => h9) rfl d_Tr_behind_13 ?_
  refine lv_iload_n hx hb d_Tr_behind_16 rfl (lv_at hl 1 rfl) ?_
  by_cases hc1 : (x1 < 0 ∨ 101 ≤ x1.toNatClampNeg)
  · exact no_s (it_t h hc1)
  have h := it_f h hc1
  refine va_iald hx hb hK hI.1 2 0 rfl rfl hc1 d_Tr_behind_17 ?_
  refine lv_goto (tgt := 22) hx hb d_Tr_behind_18 (by decide) ?_
  exact t_Tr_behind_22 X (lv_sub hl [] rfl) hI hS h
set_option maxRecDepth 100000 in
set_option maxHeartbeats 4000000 in
theorem t_Tr_behind_4 {p : Program} {l : Launch} {e : Env} {s : State} {m : MethodId} {args : Array Value} {below : List Frame} {meth : Method} {c : Code} {D : va_G} {A : Nat → Prop} {g : Nat → ClassId} {rest : va_W} {a0 : Nat → Nat} {ls : Array Slot} {H : Heap} {locs : List Loc} {s0 : S_Tr} {x1 : Int32} {out : Int32} (X : Cx p s m args meth c prog_9_method_8_code 2 ws_Tr_behind R_Tr (some .int) D g) (hl : lv_has ls 2 [(0, .ref (a0 0)), (1, .int x1)]) (hI : Iw D A (w_Tr g a0 s0 ++ (rest)) H) (hS : va_S A s.heap H locs) (h : B_Tr_behind_4  s0 x1 = some out) : W p l e (headSpec ws_Tr_behind { frames := 0, cells := 0, slots := 0, locals := 0 }).room s m args below meth c H locs 0 0 (MQ below (QcI D A g out (fun (_ : Unit) => w_Tr g a0 s0 ++ (rest))) args s 0 0 A) (F0 m 4 ls []) := by
  have X1 := X
  obtain ⟨hx, hb, hml, hown, hts, hr, hlocks, hKK⟩ := X1
  have ht : ∀ w ∈ TB, w.before args s = true := fun w h => hts w (List.mem_cons_of_mem _ h)
  have hK := hKK.1
  unfold B_Tr_behind_4 at h
  refine lv_iload_n hx hb d_Tr_behind_4 rfl (lv_at hl 1 rfl) ?_
  refine lv_aload_n hx hb d_Tr_behind_5 rfl (lv_at hl 0 rfl) ?_
  refine va_get (D := D) (ci := 7) (v := .int (Tr_count s0)) (C := R_Tr) (T := T_Tr) (N := 7) hx hb ht in_Tr hown hK hI.1 0 rfl rfl 5 (by decide) (ht _ m_139) (fun _ h9 => h9) rfl d_Tr_behind_6 ?_
  refine lv_icmp_ge (tgt := 21) hx hb d_Tr_behind_9 (by decide) (fun hc => ?_) (fun hc => ?_)
  · have h := it_t h hc
    exact t_Tr_behind_21 X (lv_sub hl [] rfl) hI hS h
  · have h := it_f h hc
    exact t_Tr_behind_12 X (lv_sub hl [0, 1] rfl) hI hS h
set_option maxRecDepth 100000 in
set_option maxHeartbeats 4000000 in
theorem t_Tr_behind_0 {p : Program} {l : Launch} {e : Env} {s : State} {m : MethodId} {args : Array Value} {below : List Frame} {meth : Method} {c : Code} {D : va_G} {A : Nat → Prop} {g : Nat → ClassId} {rest : va_W} {a0 : Nat → Nat} {ls : Array Slot} {H : Heap} {locs : List Loc} {s0 : S_Tr} {x1 : Int32} {out : Int32} (X : Cx p s m args meth c prog_9_method_8_code 2 ws_Tr_behind R_Tr (some .int) D g) (hl : lv_has ls 2 [(0, .ref (a0 0)), (1, .int x1)]) (hI : Iw D A (w_Tr g a0 s0 ++ (rest)) H) (hS : va_S A s.heap H locs) (h : B_Tr_behind_0  s0 x1 = some out) : W p l e (headSpec ws_Tr_behind { frames := 0, cells := 0, slots := 0, locals := 0 }).room s m args below meth c H locs 0 0 (MQ below (QcI D A g out (fun (_ : Unit) => w_Tr g a0 s0 ++ (rest))) args s 0 0 A) (F0 m 0 ls []) := by
  have X1 := X
  obtain ⟨hx, hb, hml, hown, hts, hr, hlocks, hKK⟩ := X1
  have ht : ∀ w ∈ TB, w.before args s = true := fun w h => hts w (List.mem_cons_of_mem _ h)
  have hK := hKK.1
  unfold B_Tr_behind_0 at h
  refine lv_iload_n hx hb d_Tr_behind_0 rfl (lv_at hl 1 rfl) ?_
  refine lv_if_lt (tgt := 21) hx hb d_Tr_behind_1 (by decide) (fun hc => ?_) (fun hc => ?_)
  · have h := it_t h hc
    exact t_Tr_behind_21 X (lv_sub hl [] rfl) hI hS h
  · have h := it_f h hc
    exact t_Tr_behind_4 X (lv_sub hl [0, 1] rfl) hI hS h
set_option maxRecDepth 100000 in
set_option maxHeartbeats 4000000 in
theorem c_Tr_behind {l : Launch} {D : va_G} {A : Nat → Prop} {g : Nat → ClassId} {rest : va_W} {a0 : Nat → Nat} {s0 : S_Tr} {x1 : Int32} {out : Int32} (h : F_Tr_behind s0 x1 = some out) : Met l y_Tr_behind ws_Tr_behind { frames := 0, cells := 0, slots := 0, locals := 0 } (PcW D A g [.ref (a0 0), .int x1] (w_Tr g a0 s0 ++ (rest))) (QcI D A g out (fun (_ : Unit) => w_Tr g a0 s0 ++ (rest))) 0 0 A := by
  refine Met.ofW (cc := prog_9_method_8_code) (maxL := 2) (ret := (some .int)) (by decide) rfl ?_
  intro p e s m args below meth c s₁ B hml hv
  obtain ⟨rfl, hI, hK⟩ := hv
  have hl := lv_entry [.ref (a0 0), .int x1] (n := 2) (Nat.le_of_ble_eq_true rfl)
  rw [lg_entry_eq]
  generalize (lg_sl [.ref (a0 0), .int x1] ++ List.replicate (2 - (lg_sl [.ref (a0 0), .int x1]).length) Slot.unset).toArray = ls at hl ⊢
  have hl : lv_has ls 2 [(0, .ref (a0 0)), (1, .int x1)] := hl
  exact t_Tr_behind_0 ⟨B.exec, B.bytes, hml, findClass_of_methodNamed B.named, atoms_spec (ws := ws_Tr_behind) B.pre, B.returns, B.notSynchronized, hK⟩ (lv_sub hl [0, 1] rfl) hI va_S.rf h
def ws_Tr_tag : List Cond := .code y_Tr_tag prog_9_method_7_code 2 (some .int) :: TB
def B_Tr_tag_22 (s0 : S_Tr) (y0 : Int32) : Option Int32 :=
  some y0
def B_Tr_tag_21 (s0 : S_Tr) : Option Int32 :=
  (B_Tr_tag_22 s0 ((-1) : Int32))
def B_Tr_tag_12 (s0 : S_Tr) (x1 : Int32) : Option Int32 :=
  (if (x1 < 0 ∨ 101 ≤ x1.toNatClampNeg) then none else (B_Tr_tag_22 s0 ((Tr_tags s0) x1.toNatClampNeg)))
def B_Tr_tag_4 (s0 : S_Tr) (x1 : Int32) : Option Int32 :=
  (if (Tr_count s0) ≤ x1 then (B_Tr_tag_21 s0) else (B_Tr_tag_12 s0 x1))
def B_Tr_tag_0 (s0 : S_Tr) (x1 : Int32) : Option Int32 :=
  (if x1 < 0 then (B_Tr_tag_21 s0) else (B_Tr_tag_4 s0 x1))
def F_Tr_tag (s0 : S_Tr) (x1 : Int32) : Option Int32 := B_Tr_tag_0 s0 x1
set_option maxRecDepth 100000 in
set_option maxHeartbeats 4000000 in
theorem t_Tr_tag_22 {p : Program} {l : Launch} {e : Env} {s : State} {m : MethodId} {args : Array Value} {below : List Frame} {meth : Method} {c : Code} {D : va_G} {A : Nat → Prop} {g : Nat → ClassId} {rest : va_W} {a0 : Nat → Nat} {ls : Array Slot} {H : Heap} {locs : List Loc} {s0 : S_Tr} {y0 : Int32} {out : Int32} (X : Cx p s m args meth c prog_9_method_7_code 2 ws_Tr_tag R_Tr (some .int) D g) (hl : lv_has ls 2 []) (hI : Iw D A (w_Tr g a0 s0 ++ (rest)) H) (hS : va_S A s.heap H locs) (h : B_Tr_tag_22  s0 y0 = some out) : W p l e (headSpec ws_Tr_tag { frames := 0, cells := 0, slots := 0, locals := 0 }).room s m args below meth c H locs 0 0 (MQ below (QcI D A g out (fun (_ : Unit) => w_Tr g a0 s0 ++ (rest))) args s 0 0 A) (F0 m 22 ls [.int y0]) := by
  have X1 := X
  obtain ⟨hx, hb, hml, hown, hts, hr, hlocks, hKK⟩ := X1
  have ht : ∀ w ∈ TB, w.before args s = true := fun w h => hts w (List.mem_cons_of_mem _ h)
  have hK := hKK.1
  unfold B_Tr_tag_22 at h
  have h9 := Option.some.inj h
  subst h9
  exact W.iret (v := y0) hx hb hr (fun t ht hW => ⟨⟨_, (), rfl, rfl, ⟨by rw [ht]; exact hI, hKK.moved hW⟩⟩, hS.F ht⟩) hS.2.2 d_Tr_tag_22
set_option maxRecDepth 100000 in
set_option maxHeartbeats 4000000 in
theorem t_Tr_tag_21 {p : Program} {l : Launch} {e : Env} {s : State} {m : MethodId} {args : Array Value} {below : List Frame} {meth : Method} {c : Code} {D : va_G} {A : Nat → Prop} {g : Nat → ClassId} {rest : va_W} {a0 : Nat → Nat} {ls : Array Slot} {H : Heap} {locs : List Loc} {s0 : S_Tr} {out : Int32} (X : Cx p s m args meth c prog_9_method_7_code 2 ws_Tr_tag R_Tr (some .int) D g) (hl : lv_has ls 2 []) (hI : Iw D A (w_Tr g a0 s0 ++ (rest)) H) (hS : va_S A s.heap H locs) (h : B_Tr_tag_21  s0 = some out) : W p l e (headSpec ws_Tr_tag { frames := 0, cells := 0, slots := 0, locals := 0 }).room s m args below meth c H locs 0 0 (MQ below (QcI D A g out (fun (_ : Unit) => w_Tr g a0 s0 ++ (rest))) args s 0 0 A) (F0 m 21 ls []) := by
  have X1 := X
  obtain ⟨hx, hb, hml, hown, hts, hr, hlocks, hKK⟩ := X1
  have ht : ∀ w ∈ TB, w.before args s = true := fun w h => hts w (List.mem_cons_of_mem _ h)
  have hK := hKK.1
  unfold B_Tr_tag_21 at h
  refine lv_iconst (v := (-1)) hx hb d_Tr_tag_21 (by decide) ?_
  exact t_Tr_tag_22 X (lv_sub hl [] rfl) hI hS h
set_option maxRecDepth 100000 in
set_option maxHeartbeats 4000000 in
theorem t_Tr_tag_12 {p : Program} {l : Launch} {e : Env} {s : State} {m : MethodId} {args : Array Value} {below : List Frame} {meth : Method} {c : Code} {D : va_G} {A : Nat → Prop} {g : Nat → ClassId} {rest : va_W} {a0 : Nat → Nat} {ls : Array Slot} {H : Heap} {locs : List Loc} {s0 : S_Tr} {x1 : Int32} {out : Int32} (X : Cx p s m args meth c prog_9_method_7_code 2 ws_Tr_tag R_Tr (some .int) D g) (hl : lv_has ls 2 [(0, .ref (a0 0)), (1, .int x1)]) (hI : Iw D A (w_Tr g a0 s0 ++ (rest)) H) (hS : va_S A s.heap H locs) (h : B_Tr_tag_12  s0 x1 = some out) : W p l e (headSpec ws_Tr_tag { frames := 0, cells := 0, slots := 0, locals := 0 }).room s m args below meth c H locs 0 0 (MQ below (QcI D A g out (fun (_ : Unit) => w_Tr g a0 s0 ++ (rest))) args s 0 0 A) (F0 m 12 ls []) := by
  have X1 := X
  obtain ⟨hx, hb, hml, hown, hts, hr, hlocks, hKK⟩ := X1
  have ht : ∀ w ∈ TB, w.before args s = true := fun w h => hts w (List.mem_cons_of_mem _ h)
  have hK := hKK.1
  unfold B_Tr_tag_12 at h
  refine lv_aload_n hx hb d_Tr_tag_12 rfl (lv_at hl 0 rfl) ?_
  refine va_get (D := D) (ci := 7) (v := .ref (a0 1)) (C := R_Tr) (T := T_Tr) (N := 7) hx hb ht in_Tr hown hK hI.1 0 rfl rfl 0 (by decide) (ht _ m_134) (fun _ h9 => h9) rfl d_Tr_tag_13 ?_
  refine lv_iload_n hx hb d_Tr_tag_16 rfl (lv_at hl 1 rfl) ?_
  by_cases hc1 : (x1 < 0 ∨ 101 ≤ x1.toNatClampNeg)
  · exact no_s (it_t h hc1)
  have h := it_f h hc1
  refine va_iald hx hb hK hI.1 1 0 rfl rfl hc1 d_Tr_tag_17 ?_
  refine lv_goto (tgt := 22) hx hb d_Tr_tag_18 (by decide) ?_
  exact t_Tr_tag_22 X (lv_sub hl [] rfl) hI hS h
set_option maxRecDepth 100000 in
set_option maxHeartbeats 4000000 in
theorem t_Tr_tag_4 {p : Program} {l : Launch} {e : Env} {s : State} {m : MethodId} {args : Array Value} {below : List Frame} {meth : Method} {c : Code} {D : va_G} {A : Nat → Prop} {g : Nat → ClassId} {rest : va_W} {a0 : Nat → Nat} {ls : Array Slot} {H : Heap} {locs : List Loc} {s0 : S_Tr} {x1 : Int32} {out : Int32} (X : Cx p s m args meth c prog_9_method_7_code 2 ws_Tr_tag R_Tr (some .int) D g) (hl : lv_has ls 2 [(0, .ref (a0 0)), (1, .int x1)]) (hI : Iw D A (w_Tr g a0 s0 ++ (rest)) H) (hS : va_S A s.heap H locs) (h : B_Tr_tag_4  s0 x1 = some out) : W p l e (headSpec ws_Tr_tag { frames := 0, cells := 0, slots := 0, locals := 0 }).room s m args below meth c H locs 0 0 (MQ below (QcI D A g out (fun (_ : Unit) => w_Tr g a0 s0 ++ (rest))) args s 0 0 A) (F0 m 4 ls []) := by
  have X1 := X
  obtain ⟨hx, hb, hml, hown, hts, hr, hlocks, hKK⟩ := X1
  have ht : ∀ w ∈ TB, w.before args s = true := fun w h => hts w (List.mem_cons_of_mem _ h)
  have hK := hKK.1
  unfold B_Tr_tag_4 at h
  refine lv_iload_n hx hb d_Tr_tag_4 rfl (lv_at hl 1 rfl) ?_
  refine lv_aload_n hx hb d_Tr_tag_5 rfl (lv_at hl 0 rfl) ?_
  refine va_get (D := D) (ci := 7) (v := .int (Tr_count s0)) (C := R_Tr) (T := T_Tr) (N := 7) hx hb ht in_Tr hown hK hI.1 0 rfl rfl 5 (by decide) (ht _ m_139) (fun _ h9 => h9) rfl d_Tr_tag_6 ?_
  refine lv_icmp_ge (tgt := 21) hx hb d_Tr_tag_9 (by decide) (fun hc => ?_) (fun hc => ?_)
  · have h := it_t h hc
    exact t_Tr_tag_21 X (lv_sub hl [] rfl) hI hS h
  · have h := it_f h hc
    exact t_Tr_tag_12 X (lv_sub hl [0, 1] rfl) hI hS h
set_option maxRecDepth 100000 in
set_option maxHeartbeats 4000000 in
theorem t_Tr_tag_0 {p : Program} {l : Launch} {e : Env} {s : State} {m : MethodId} {args : Array Value} {below : List Frame} {meth : Method} {c : Code} {D : va_G} {A : Nat → Prop} {g : Nat → ClassId} {rest : va_W} {a0 : Nat → Nat} {ls : Array Slot} {H : Heap} {locs : List Loc} {s0 : S_Tr} {x1 : Int32} {out : Int32} (X : Cx p s m args meth c prog_9_method_7_code 2 ws_Tr_tag R_Tr (some .int) D g) (hl : lv_has ls 2 [(0, .ref (a0 0)), (1, .int x1)]) (hI : Iw D A (w_Tr g a0 s0 ++ (rest)) H) (hS : va_S A s.heap H locs) (h : B_Tr_tag_0  s0 x1 = some out) : W p l e (headSpec ws_Tr_tag { frames := 0, cells := 0, slots := 0, locals := 0 }).room s m args below meth c H locs 0 0 (MQ below (QcI D A g out (fun (_ : Unit) => w_Tr g a0 s0 ++ (rest))) args s 0 0 A) (F0 m 0 ls []) := by
  have X1 := X
  obtain ⟨hx, hb, hml, hown, hts, hr, hlocks, hKK⟩ := X1
  have ht : ∀ w ∈ TB, w.before args s = true := fun w h => hts w (List.mem_cons_of_mem _ h)
  have hK := hKK.1
  unfold B_Tr_tag_0 at h
  refine lv_iload_n hx hb d_Tr_tag_0 rfl (lv_at hl 1 rfl) ?_
  refine lv_if_lt (tgt := 21) hx hb d_Tr_tag_1 (by decide) (fun hc => ?_) (fun hc => ?_)
  · have h := it_t h hc
    exact t_Tr_tag_21 X (lv_sub hl [] rfl) hI hS h
  · have h := it_f h hc
    exact t_Tr_tag_4 X (lv_sub hl [0, 1] rfl) hI hS h
set_option maxRecDepth 100000 in
set_option maxHeartbeats 4000000 in
theorem c_Tr_tag {l : Launch} {D : va_G} {A : Nat → Prop} {g : Nat → ClassId} {rest : va_W} {a0 : Nat → Nat} {s0 : S_Tr} {x1 : Int32} {out : Int32} (h : F_Tr_tag s0 x1 = some out) : Met l y_Tr_tag ws_Tr_tag { frames := 0, cells := 0, slots := 0, locals := 0 } (PcW D A g [.ref (a0 0), .int x1] (w_Tr g a0 s0 ++ (rest))) (QcI D A g out (fun (_ : Unit) => w_Tr g a0 s0 ++ (rest))) 0 0 A := by
  refine Met.ofW (cc := prog_9_method_7_code) (maxL := 2) (ret := (some .int)) (by decide) rfl ?_
  intro p e s m args below meth c s₁ B hml hv
  obtain ⟨rfl, hI, hK⟩ := hv
  have hl := lv_entry [.ref (a0 0), .int x1] (n := 2) (Nat.le_of_ble_eq_true rfl)
  rw [lg_entry_eq]
  generalize (lg_sl [.ref (a0 0), .int x1] ++ List.replicate (2 - (lg_sl [.ref (a0 0), .int x1]).length) Slot.unset).toArray = ls at hl ⊢
  have hl : lv_has ls 2 [(0, .ref (a0 0)), (1, .int x1)] := hl
  exact t_Tr_tag_0 ⟨B.exec, B.bytes, hml, findClass_of_methodNamed B.named, atoms_spec (ws := ws_Tr_tag) B.pre, B.returns, B.notSynchronized, hK⟩ (lv_sub hl [0, 1] rfl) hI va_S.rf h
def ws_Tr_find : List Cond := .code y_Tr_find prog_9_method_13_code 6 (some .int) :: TB
def B_Tr_find_50 (s0 : S_Tr) : Option Int32 :=
  some ((-1) : Int32)
def B_Tr_find_38 (k14 : Int32 × Int32 × Int32 × Int32 → Option Int32) (s0 : S_Tr) (x2 : Int32) (x3 : Int32) (x4 : Int32) (x5 : Int32) : Option Int32 :=
  ((F_Tr_behind s0 x3).bind fun o1 => (k14 (x2, o1, x4, (x5 + 1))))
def B_Tr_find_36 (s0 : S_Tr) (x3 : Int32) : Option Int32 :=
  some x3
def B_Tr_find_27 (k14 : Int32 × Int32 × Int32 × Int32 → Option Int32) (s0 : S_Tr) (x2 : Int32) (x3 : Int32) (x4 : Int32) (x5 : Int32) : Option Int32 :=
  ((F_Tr_tag s0 x3).bind fun o1 => (if o1 = x2 then (B_Tr_find_36 s0 x3) else (B_Tr_find_38 k14 s0 x2 x3 x4 x5)))
def B_Tr_find_21 (k14 : Int32 × Int32 × Int32 × Int32 → Option Int32) (s0 : S_Tr) (x2 : Int32) (x3 : Int32) (x4 : Int32) (x5 : Int32) : Option Int32 :=
  (if x4 ≤ x3 then (B_Tr_find_50 s0) else (B_Tr_find_27 k14 s0 x2 x3 x4 x5))
def B_Tr_find_14 (k14 : Int32 × Int32 × Int32 × Int32 → Option Int32) (s0 : S_Tr) (x2 : Int32) (x3 : Int32) (x4 : Int32) (x5 : Int32) : Option Int32 :=
  (if (10 : Int32) ≤ x5 then (B_Tr_find_50 s0) else (B_Tr_find_21 k14 s0 x2 x3 x4 x5))
def L_Tr_find_14 (s0 : S_Tr) (v : Int32 × Int32 × Int32 × Int32) : Option Int32 := lp (fun k14 v => B_Tr_find_14  k14 s0 v.1 v.2.1 v.2.2.1 v.2.2.2) FU v
def B_Tr_find_0 (s0 : S_Tr) (x1 : Int32) (x2 : Int32) : Option Int32 :=
  ((F_Tr_behind s0 x1).bind fun o1 => (L_Tr_find_14 s0 (x2, (x1 + (1 : Int32)), o1, (0 : Int32))))
def F_Tr_find (s0 : S_Tr) (x1 : Int32) (x2 : Int32) : Option Int32 := B_Tr_find_0 s0 x1 x2
set_option maxRecDepth 100000 in
set_option maxHeartbeats 4000000 in
theorem t_Tr_find_50 {p : Program} {l : Launch} {e : Env} {s : State} {m : MethodId} {args : Array Value} {below : List Frame} {meth : Method} {c : Code} {D : va_G} {A : Nat → Prop} {g : Nat → ClassId} {rest : va_W} {a0 : Nat → Nat} {ls : Array Slot} {H : Heap} {locs : List Loc} {s0 : S_Tr} {out : Int32} (X : Cx p s m args meth c prog_9_method_13_code 6 ws_Tr_find R_Tr (some .int) D g) (hl : lv_has ls 6 []) (hI : Iw D A (w_Tr g a0 s0 ++ (rest)) H) (hS : va_S A s.heap H locs) (h : B_Tr_find_50  s0 = some out) : W p l e (headSpec ws_Tr_find { frames := 1, cells := 0, slots := 0, locals := 21 }).room s m args below meth c H locs 0 0 (MQ below (QcI D A g out (fun (_ : Unit) => w_Tr g a0 s0 ++ (rest))) args s 0 0 A) (F0 m 50 ls []) := by
  have X1 := X
  obtain ⟨hx, hb, hml, hown, hts, hr, hlocks, hKK⟩ := X1
  have ht : ∀ w ∈ TB, w.before args s = true := fun w h => hts w (List.mem_cons_of_mem _ h)
  have hK := hKK.1
  unfold B_Tr_find_50 at h
  refine lv_iconst (v := (-1)) hx hb d_Tr_find_50 (by decide) ?_
  have h9 := Option.some.inj h
  subst h9
  exact W.iret (v := ((-1) : Int32)) hx hb hr (fun t ht hW => ⟨⟨_, (), rfl, rfl, ⟨by rw [ht]; exact hI, hKK.moved hW⟩⟩, hS.F ht⟩) hS.2.2 d_Tr_find_51
set_option maxRecDepth 100000 in
set_option maxHeartbeats 4000000 in
theorem t_Tr_find_38 {p : Program} {l : Launch} {e : Env} {s : State} {m : MethodId} {args : Array Value} {below : List Frame} {meth : Method} {c : Code} {D : va_G} {A : Nat → Prop} {g : Nat → ClassId} {rest : va_W} {a0 : Nat → Nat} {ls : Array Slot} {H : Heap} {locs : List Loc} {k14 : Int32 × Int32 × Int32 × Int32 → Option Int32} {s0 : S_Tr} {x2 : Int32} {x3 : Int32} {x4 : Int32} {x5 : Int32} {out : Int32} (X : Cx p s m args meth c prog_9_method_13_code 6 ws_Tr_find R_Tr (some .int) D g) (hk14 : ∀ (v : Int32 × Int32 × Int32 × Int32) (ls : Array Slot) (H : Heap) (locs : List Loc), lv_has ls 6 [(0, .ref (a0 0)), (2, .int v.1), (3, .int v.2.1), (4, .int v.2.2.1), (5, .int v.2.2.2)] → Iw D A (w_Tr g a0 s0 ++ (rest)) H → va_S A s.heap H locs → k14 v = some out → W p l e (headSpec ws_Tr_find { frames := 1, cells := 0, slots := 0, locals := 21 }).room s m args below meth c H locs 0 0 (MQ below (QcI D A g out (fun (_ : Unit) => w_Tr g a0 s0 ++ (rest))) args s 0 0 A) (F0 m 14 ls [])) (hl : lv_has ls 6 [(0, .ref (a0 0)), (2, .int x2), (3, .int x3), (4, .int x4), (5, .int x5)]) (hI : Iw D A (w_Tr g a0 s0 ++ (rest)) H) (hS : va_S A s.heap H locs) (h : B_Tr_find_38 k14 s0 x2 x3 x4 x5 = some out) : W p l e (headSpec ws_Tr_find { frames := 1, cells := 0, slots := 0, locals := 21 }).room s m args below meth c H locs 0 0 (MQ below (QcI D A g out (fun (_ : Unit) => w_Tr g a0 s0 ++ (rest))) args s 0 0 A) (F0 m 38 ls []) := by
  have X1 := X
  obtain ⟨hx, hb, hml, hown, hts, hr, hlocks, hKK⟩ := X1
  have ht : ∀ w ∈ TB, w.before args s = true := fun w h => hts w (List.mem_cons_of_mem _ h)
  have hK := hKK.1
  unfold B_Tr_find_38 at h
  refine lv_aload_n hx hb d_Tr_find_38 rfl (lv_at hl 0 rfl) ?_
  refine lv_iload_n hx hb d_Tr_find_39 rfl (lv_at hl 2 rfl) ?_
  obtain ⟨o1, ho2, h⟩ := bd_s h
  refine cl_i (W1 := fun (_ : Unit) => w_Tr g a0 s0 ++ (rest)) (va_runV (As := [.int x3]) (rest := []) ⟨hx, hb, hml, hown, ht⟩ (c_Tr_behind (l := l) (D := D) (A := A) (g := g) (rest := rest) (a0 := a0) ho2) (cwV 1 ht (gd_V m_507 m_508 m_509 m_9 m_510) rfl rfl rfl (by decide +kernel) ⟨(Nat.le_of_ble_eq_true rfl), (Nat.le_of_ble_eq_true rfl)⟩) (prV (ci := 7) (q0 := 0) hKK hI (List.Perm.refl _) rfl rfl rfl) rfl rfl hl.1 rfl (lv_room (Nat.le_of_ble_eq_true rfl)) d_Tr_find_40 ⟨(Nat.le_of_ble_eq_true rfl), (Nat.le_of_ble_eq_true rfl)⟩) hS (fun _ => ((List.Perm.refl _)).symm) (fun _ H locs hI hS => ?_)
  have hI : Iw D A (w_Tr g a0 s0 ++ (rest)) H := hI
  refine lv_istore_n hx hb d_Tr_find_43 rfl hl (Nat.le_of_ble_eq_true rfl) rfl (fun ls hl => ?_)
  have hl : lv_has ls 6 [(3, .int o1), (0, .ref (a0 0)), (2, .int x2), (4, .int x4), (5, .int x5)] := hl
  refine lv_iinc (k := 4) (v := (x5 + 1)) hx hb d_Tr_find_44 hl rfl (congrArg (fun z => x5 + z) (by decide)) (Nat.le_of_ble_eq_true rfl) rfl (fun ls hl => ?_)
  have hl : lv_has ls 6 [(5, .int (x5 + 1)), (3, .int o1), (0, .ref (a0 0)), (2, .int x2), (4, .int x4)] := hl
  refine lv_goto (tgt := 14) hx hb d_Tr_find_47 (by decide) ?_
  exact hk14 (x2, o1, x4, (x5 + 1)) _ _ _ (lv_sub hl [2, 3, 1, 4, 0] rfl) hI hS h
set_option maxRecDepth 100000 in
set_option maxHeartbeats 4000000 in
theorem t_Tr_find_36 {p : Program} {l : Launch} {e : Env} {s : State} {m : MethodId} {args : Array Value} {below : List Frame} {meth : Method} {c : Code} {D : va_G} {A : Nat → Prop} {g : Nat → ClassId} {rest : va_W} {a0 : Nat → Nat} {ls : Array Slot} {H : Heap} {locs : List Loc} {s0 : S_Tr} {x3 : Int32} {out : Int32} (X : Cx p s m args meth c prog_9_method_13_code 6 ws_Tr_find R_Tr (some .int) D g) (hl : lv_has ls 6 [(3, .int x3)]) (hI : Iw D A (w_Tr g a0 s0 ++ (rest)) H) (hS : va_S A s.heap H locs) (h : B_Tr_find_36  s0 x3 = some out) : W p l e (headSpec ws_Tr_find { frames := 1, cells := 0, slots := 0, locals := 21 }).room s m args below meth c H locs 0 0 (MQ below (QcI D A g out (fun (_ : Unit) => w_Tr g a0 s0 ++ (rest))) args s 0 0 A) (F0 m 36 ls []) := by
  have X1 := X
  obtain ⟨hx, hb, hml, hown, hts, hr, hlocks, hKK⟩ := X1
  have ht : ∀ w ∈ TB, w.before args s = true := fun w h => hts w (List.mem_cons_of_mem _ h)
  have hK := hKK.1
  unfold B_Tr_find_36 at h
  refine lv_iload_n hx hb d_Tr_find_36 rfl (lv_at hl 0 rfl) ?_
  have h9 := Option.some.inj h
  subst h9
  exact W.iret (v := x3) hx hb hr (fun t ht hW => ⟨⟨_, (), rfl, rfl, ⟨by rw [ht]; exact hI, hKK.moved hW⟩⟩, hS.F ht⟩) hS.2.2 d_Tr_find_37
set_option maxRecDepth 100000 in
set_option maxHeartbeats 4000000 in
theorem t_Tr_find_27 {p : Program} {l : Launch} {e : Env} {s : State} {m : MethodId} {args : Array Value} {below : List Frame} {meth : Method} {c : Code} {D : va_G} {A : Nat → Prop} {g : Nat → ClassId} {rest : va_W} {a0 : Nat → Nat} {ls : Array Slot} {H : Heap} {locs : List Loc} {k14 : Int32 × Int32 × Int32 × Int32 → Option Int32} {s0 : S_Tr} {x2 : Int32} {x3 : Int32} {x4 : Int32} {x5 : Int32} {out : Int32} (X : Cx p s m args meth c prog_9_method_13_code 6 ws_Tr_find R_Tr (some .int) D g) (hk14 : ∀ (v : Int32 × Int32 × Int32 × Int32) (ls : Array Slot) (H : Heap) (locs : List Loc), lv_has ls 6 [(0, .ref (a0 0)), (2, .int v.1), (3, .int v.2.1), (4, .int v.2.2.1), (5, .int v.2.2.2)] → Iw D A (w_Tr g a0 s0 ++ (rest)) H → va_S A s.heap H locs → k14 v = some out → W p l e (headSpec ws_Tr_find { frames := 1, cells := 0, slots := 0, locals := 21 }).room s m args below meth c H locs 0 0 (MQ below (QcI D A g out (fun (_ : Unit) => w_Tr g a0 s0 ++ (rest))) args s 0 0 A) (F0 m 14 ls [])) (hl : lv_has ls 6 [(0, .ref (a0 0)), (2, .int x2), (3, .int x3), (4, .int x4), (5, .int x5)]) (hI : Iw D A (w_Tr g a0 s0 ++ (rest)) H) (hS : va_S A s.heap H locs) (h : B_Tr_find_27 k14 s0 x2 x3 x4 x5 = some out) : W p l e (headSpec ws_Tr_find { frames := 1, cells := 0, slots := 0, locals := 21 }).room s m args below meth c H locs 0 0 (MQ below (QcI D A g out (fun (_ : Unit) => w_Tr g a0 s0 ++ (rest))) args s 0 0 A) (F0 m 27 ls []) := by
  have X1 := X
  obtain ⟨hx, hb, hml, hown, hts, hr, hlocks, hKK⟩ := X1
  have ht : ∀ w ∈ TB, w.before args s = true := fun w h => hts w (List.mem_cons_of_mem _ h)
  have hK := hKK.1
  unfold B_Tr_find_27 at h
  refine lv_aload_n hx hb d_Tr_find_27 rfl (lv_at hl 0 rfl) ?_
  refine lv_iload_n hx hb d_Tr_find_28 rfl (lv_at hl 2 rfl) ?_
  obtain ⟨o1, ho2, h⟩ := bd_s h
  refine cl_i (W1 := fun (_ : Unit) => w_Tr g a0 s0 ++ (rest)) (va_runV (As := [.int x3]) (rest := []) ⟨hx, hb, hml, hown, ht⟩ (c_Tr_tag (l := l) (D := D) (A := A) (g := g) (rest := rest) (a0 := a0) ho2) (cwV 1 ht (gd_V m_511 m_512 m_513 m_9 m_514) rfl rfl rfl (by decide +kernel) ⟨(Nat.le_of_ble_eq_true rfl), (Nat.le_of_ble_eq_true rfl)⟩) (prV (ci := 7) (q0 := 0) hKK hI (List.Perm.refl _) rfl rfl rfl) rfl rfl hl.1 rfl (lv_room (Nat.le_of_ble_eq_true rfl)) d_Tr_find_29 ⟨(Nat.le_of_ble_eq_true rfl), (Nat.le_of_ble_eq_true rfl)⟩) hS (fun _ => ((List.Perm.refl _)).symm) (fun _ H locs hI hS => ?_)
  have hI : Iw D A (w_Tr g a0 s0 ++ (rest)) H := hI
  refine lv_iload_n hx hb d_Tr_find_32 rfl (lv_at hl 1 rfl) ?_
  refine lv_icmp_ne (tgt := 38) hx hb d_Tr_find_33 (by decide) (fun hc => ?_) (fun hc => ?_)
  · have h := it_f h hc
    exact t_Tr_find_38 X hk14 (lv_sub hl [0, 1, 2, 3, 4] rfl) hI hS h
  · have h := it_t h hc
    exact t_Tr_find_36 X (lv_sub hl [2] rfl) hI hS h
set_option maxRecDepth 100000 in
set_option maxHeartbeats 4000000 in
theorem t_Tr_find_21 {p : Program} {l : Launch} {e : Env} {s : State} {m : MethodId} {args : Array Value} {below : List Frame} {meth : Method} {c : Code} {D : va_G} {A : Nat → Prop} {g : Nat → ClassId} {rest : va_W} {a0 : Nat → Nat} {ls : Array Slot} {H : Heap} {locs : List Loc} {k14 : Int32 × Int32 × Int32 × Int32 → Option Int32} {s0 : S_Tr} {x2 : Int32} {x3 : Int32} {x4 : Int32} {x5 : Int32} {out : Int32} (X : Cx p s m args meth c prog_9_method_13_code 6 ws_Tr_find R_Tr (some .int) D g) (hk14 : ∀ (v : Int32 × Int32 × Int32 × Int32) (ls : Array Slot) (H : Heap) (locs : List Loc), lv_has ls 6 [(0, .ref (a0 0)), (2, .int v.1), (3, .int v.2.1), (4, .int v.2.2.1), (5, .int v.2.2.2)] → Iw D A (w_Tr g a0 s0 ++ (rest)) H → va_S A s.heap H locs → k14 v = some out → W p l e (headSpec ws_Tr_find { frames := 1, cells := 0, slots := 0, locals := 21 }).room s m args below meth c H locs 0 0 (MQ below (QcI D A g out (fun (_ : Unit) => w_Tr g a0 s0 ++ (rest))) args s 0 0 A) (F0 m 14 ls [])) (hl : lv_has ls 6 [(0, .ref (a0 0)), (2, .int x2), (3, .int x3), (4, .int x4), (5, .int x5)]) (hI : Iw D A (w_Tr g a0 s0 ++ (rest)) H) (hS : va_S A s.heap H locs) (h : B_Tr_find_21 k14 s0 x2 x3 x4 x5 = some out) : W p l e (headSpec ws_Tr_find { frames := 1, cells := 0, slots := 0, locals := 21 }).room s m args below meth c H locs 0 0 (MQ below (QcI D A g out (fun (_ : Unit) => w_Tr g a0 s0 ++ (rest))) args s 0 0 A) (F0 m 21 ls []) := by
  have X1 := X
  obtain ⟨hx, hb, hml, hown, hts, hr, hlocks, hKK⟩ := X1
  have ht : ∀ w ∈ TB, w.before args s = true := fun w h => hts w (List.mem_cons_of_mem _ h)
  have hK := hKK.1
  unfold B_Tr_find_21 at h
  refine lv_iload_n hx hb d_Tr_find_21 rfl (lv_at hl 2 rfl) ?_
  refine lv_iload hx hb d_Tr_find_22 (lv_at hl 3 rfl) ?_
  refine lv_icmp_ge (tgt := 50) hx hb d_Tr_find_24 (by decide) (fun hc => ?_) (fun hc => ?_)
  · have h := it_t h hc
    exact t_Tr_find_50 X (lv_sub hl [] rfl) hI hS h
  · have h := it_f h hc
    exact t_Tr_find_27 X hk14 (lv_sub hl [0, 1, 2, 3, 4] rfl) hI hS h
set_option maxRecDepth 100000 in
set_option maxHeartbeats 4000000 in
theorem t_Tr_find_14 {p : Program} {l : Launch} {e : Env} {s : State} {m : MethodId} {args : Array Value} {below : List Frame} {meth : Method} {c : Code} {D : va_G} {A : Nat → Prop} {g : Nat → ClassId} {rest : va_W} {a0 : Nat → Nat} {ls : Array Slot} {H : Heap} {locs : List Loc} {k14 : Int32 × Int32 × Int32 × Int32 → Option Int32} {s0 : S_Tr} {x2 : Int32} {x3 : Int32} {x4 : Int32} {x5 : Int32} {out : Int32} (X : Cx p s m args meth c prog_9_method_13_code 6 ws_Tr_find R_Tr (some .int) D g) (hk14 : ∀ (v : Int32 × Int32 × Int32 × Int32) (ls : Array Slot) (H : Heap) (locs : List Loc), lv_has ls 6 [(0, .ref (a0 0)), (2, .int v.1), (3, .int v.2.1), (4, .int v.2.2.1), (5, .int v.2.2.2)] → Iw D A (w_Tr g a0 s0 ++ (rest)) H → va_S A s.heap H locs → k14 v = some out → W p l e (headSpec ws_Tr_find { frames := 1, cells := 0, slots := 0, locals := 21 }).room s m args below meth c H locs 0 0 (MQ below (QcI D A g out (fun (_ : Unit) => w_Tr g a0 s0 ++ (rest))) args s 0 0 A) (F0 m 14 ls [])) (hl : lv_has ls 6 [(0, .ref (a0 0)), (2, .int x2), (3, .int x3), (4, .int x4), (5, .int x5)]) (hI : Iw D A (w_Tr g a0 s0 ++ (rest)) H) (hS : va_S A s.heap H locs) (h : B_Tr_find_14 k14 s0 x2 x3 x4 x5 = some out) : W p l e (headSpec ws_Tr_find { frames := 1, cells := 0, slots := 0, locals := 21 }).room s m args below meth c H locs 0 0 (MQ below (QcI D A g out (fun (_ : Unit) => w_Tr g a0 s0 ++ (rest))) args s 0 0 A) (F0 m 14 ls []) := by
  have X1 := X
  obtain ⟨hx, hb, hml, hown, hts, hr, hlocks, hKK⟩ := X1
  have ht : ∀ w ∈ TB, w.before args s = true := fun w h => hts w (List.mem_cons_of_mem _ h)
  have hK := hKK.1
  unfold B_Tr_find_14 at h
  refine lv_iload hx hb d_Tr_find_14 (lv_at hl 4 rfl) ?_
  refine lv_bipush (v := 10) hx hb d_Tr_find_16 (by decide) ?_
  refine lv_icmp_ge (tgt := 50) hx hb d_Tr_find_18 (by decide) (fun hc => ?_) (fun hc => ?_)
  · have h := it_t h hc
    exact t_Tr_find_50 X (lv_sub hl [] rfl) hI hS h
  · have h := it_f h hc
    exact t_Tr_find_21 X hk14 (lv_sub hl [0, 1, 2, 3, 4] rfl) hI hS h
set_option maxRecDepth 100000 in
set_option maxHeartbeats 4000000 in
theorem T_Tr_find_14 {p : Program} {l : Launch} {e : Env} {s : State} {m : MethodId} {args : Array Value} {below : List Frame} {meth : Method} {c : Code} {D : va_G} {A : Nat → Prop} {g : Nat → ClassId} {rest : va_W} {a0 : Nat → Nat} {ls : Array Slot} {H : Heap} {locs : List Loc} {s0 : S_Tr} {x2 : Int32} {x3 : Int32} {x4 : Int32} {x5 : Int32} {out : Int32} (X : Cx p s m args meth c prog_9_method_13_code 6 ws_Tr_find R_Tr (some .int) D g) (hl : lv_has ls 6 [(0, .ref (a0 0)), (2, .int x2), (3, .int x3), (4, .int x4), (5, .int x5)]) (hI : Iw D A (w_Tr g a0 s0 ++ (rest)) H) (hS : va_S A s.heap H locs) (h : L_Tr_find_14  s0 (x2, x3, x4, x5) = some out) : W p l e (headSpec ws_Tr_find { frames := 1, cells := 0, slots := 0, locals := 21 }).room s m args below meth c H locs 0 0 (MQ below (QcI D A g out (fun (_ : Unit) => w_Tr g a0 s0 ++ (rest))) args s 0 0 A) (F0 m 14 ls []) := by
  unfold L_Tr_find_14 at h
  exact lp_ind (P := fun v => ∀ (ls : Array Slot) (H : Heap) (locs : List Loc), lv_has ls 6 [(0, .ref (a0 0)), (2, .int v.1), (3, .int v.2.1), (4, .int v.2.2.1), (5, .int v.2.2.2)] → Iw D A (w_Tr g a0 s0 ++ (rest)) H → va_S A s.heap H locs → W p l e (headSpec ws_Tr_find { frames := 1, cells := 0, slots := 0, locals := 21 }).room s m args below meth c H locs 0 0 (MQ below (QcI D A g out (fun (_ : Unit) => w_Tr g a0 s0 ++ (rest))) args s 0 0 A) (F0 m 14 ls [])) (fun k v ih hb ls H locs  hl hI hS => t_Tr_find_14 X  (fun v' ls H locs  hl hI hS h' => ih v' h' ls H locs  hl hI hS) hl hI hS hb) FU _ h ls H locs  hl hI hS
set_option maxRecDepth 100000 in
set_option maxHeartbeats 4000000 in
theorem t_Tr_find_0 {p : Program} {l : Launch} {e : Env} {s : State} {m : MethodId} {args : Array Value} {below : List Frame} {meth : Method} {c : Code} {D : va_G} {A : Nat → Prop} {g : Nat → ClassId} {rest : va_W} {a0 : Nat → Nat} {ls : Array Slot} {H : Heap} {locs : List Loc} {s0 : S_Tr} {x1 : Int32} {x2 : Int32} {out : Int32} (X : Cx p s m args meth c prog_9_method_13_code 6 ws_Tr_find R_Tr (some .int) D g) (hl : lv_has ls 6 [(0, .ref (a0 0)), (1, .int x1), (2, .int x2)]) (hI : Iw D A (w_Tr g a0 s0 ++ (rest)) H) (hS : va_S A s.heap H locs) (h : B_Tr_find_0  s0 x1 x2 = some out) : W p l e (headSpec ws_Tr_find { frames := 1, cells := 0, slots := 0, locals := 21 }).room s m args below meth c H locs 0 0 (MQ below (QcI D A g out (fun (_ : Unit) => w_Tr g a0 s0 ++ (rest))) args s 0 0 A) (F0 m 0 ls []) := by
  have X1 := X
  obtain ⟨hx, hb, hml, hown, hts, hr, hlocks, hKK⟩ := X1
  have ht : ∀ w ∈ TB, w.before args s = true := fun w h => hts w (List.mem_cons_of_mem _ h)
  have hK := hKK.1
  unfold B_Tr_find_0 at h
  refine lv_iload_n hx hb d_Tr_find_0 rfl (lv_at hl 1 rfl) ?_
  refine lv_iconst (v := 1) hx hb d_Tr_find_1 (by decide) ?_
  refine lv_iadd hx hb d_Tr_find_2 ?_
  refine lv_istore_n hx hb d_Tr_find_3 rfl hl (Nat.le_of_ble_eq_true rfl) rfl (fun ls hl => ?_)
  have hl : lv_has ls 6 [(3, .int (x1 + (1 : Int32))), (0, .ref (a0 0)), (1, .int x1), (2, .int x2)] := hl
  refine lv_aload_n hx hb d_Tr_find_4 rfl (lv_at hl 1 rfl) ?_
  refine lv_iload_n hx hb d_Tr_find_5 rfl (lv_at hl 2 rfl) ?_
  obtain ⟨o1, ho2, h⟩ := bd_s h
  refine cl_i (W1 := fun (_ : Unit) => w_Tr g a0 s0 ++ (rest)) (va_runV (As := [.int x1]) (rest := []) ⟨hx, hb, hml, hown, ht⟩ (c_Tr_behind (l := l) (D := D) (A := A) (g := g) (rest := rest) (a0 := a0) ho2) (cwV 1 ht (gd_V m_507 m_508 m_509 m_9 m_510) rfl rfl rfl (by decide +kernel) ⟨(Nat.le_of_ble_eq_true rfl), (Nat.le_of_ble_eq_true rfl)⟩) (prV (ci := 7) (q0 := 0) hKK hI (List.Perm.refl _) rfl rfl rfl) rfl rfl hl.1 rfl (lv_room (Nat.le_of_ble_eq_true rfl)) d_Tr_find_6 ⟨(Nat.le_of_ble_eq_true rfl), (Nat.le_of_ble_eq_true rfl)⟩) hS (fun _ => ((List.Perm.refl _)).symm) (fun _ H locs hI hS => ?_)
  have hI : Iw D A (w_Tr g a0 s0 ++ (rest)) H := hI
  refine lv_istore hx hb d_Tr_find_9 hl (Nat.le_of_ble_eq_true rfl) rfl (fun ls hl => ?_)
  have hl : lv_has ls 6 [(4, .int o1), (3, .int (x1 + (1 : Int32))), (0, .ref (a0 0)), (1, .int x1), (2, .int x2)] := hl
  refine lv_iconst (v := 0) hx hb d_Tr_find_11 (by decide) ?_
  refine lv_istore hx hb d_Tr_find_12 hl (Nat.le_of_ble_eq_true rfl) rfl (fun ls hl => ?_)
  have hl : lv_has ls 6 [(5, .int (0 : Int32)), (4, .int o1), (3, .int (x1 + (1 : Int32))), (0, .ref (a0 0)), (1, .int x1), (2, .int x2)] := hl
  exact T_Tr_find_14 X (lv_sub hl [3, 5, 2, 1, 0] rfl) hI hS h
set_option maxRecDepth 100000 in
set_option maxHeartbeats 4000000 in
theorem c_Tr_find {l : Launch} {D : va_G} {A : Nat → Prop} {g : Nat → ClassId} {rest : va_W} {a0 : Nat → Nat} {s0 : S_Tr} {x1 : Int32} {x2 : Int32} {out : Int32} (h : F_Tr_find s0 x1 x2 = some out) : Met l y_Tr_find ws_Tr_find { frames := 1, cells := 0, slots := 0, locals := 21 } (PcW D A g [.ref (a0 0), .int x1, .int x2] (w_Tr g a0 s0 ++ (rest))) (QcI D A g out (fun (_ : Unit) => w_Tr g a0 s0 ++ (rest))) 0 0 A := by
  refine Met.ofW (cc := prog_9_method_13_code) (maxL := 6) (ret := (some .int)) (by decide) rfl ?_
  intro p e s m args below meth c s₁ B hml hv
  obtain ⟨rfl, hI, hK⟩ := hv
  have hl := lv_entry [.ref (a0 0), .int x1, .int x2] (n := 6) (Nat.le_of_ble_eq_true rfl)
  rw [lg_entry_eq]
  generalize (lg_sl [.ref (a0 0), .int x1, .int x2] ++ List.replicate (6 - (lg_sl [.ref (a0 0), .int x1, .int x2]).length) Slot.unset).toArray = ls at hl ⊢
  have hl : lv_has ls 6 [(0, .ref (a0 0)), (1, .int x1), (2, .int x2)] := hl
  exact t_Tr_find_0 ⟨B.exec, B.bytes, hml, findClass_of_methodNamed B.named, atoms_spec (ws := ws_Tr_find) B.pre, B.returns, B.notSynchronized, hK⟩ (lv_sub hl [0, 1, 2] rfl) hI va_S.rf h
def ws_Tr_number : List Cond := .code y_Tr_number prog_9_method_9_code 2 (some .int) :: TB
def B_Tr_number_22 (s0 : S_Tr) (y0 : Int32) : Option Int32 :=
  some y0
def B_Tr_number_21 (s0 : S_Tr) : Option Int32 :=
  (B_Tr_number_22 s0 (0 : Int32))
def B_Tr_number_12 (s0 : S_Tr) (x1 : Int32) : Option Int32 :=
  (if (x1 < 0 ∨ 101 ≤ x1.toNatClampNeg) then none else (B_Tr_number_22 s0 ((Tr_values s0) x1.toNatClampNeg)))
def B_Tr_number_4 (s0 : S_Tr) (x1 : Int32) : Option Int32 :=
  (if (Tr_count s0) ≤ x1 then (B_Tr_number_21 s0) else (B_Tr_number_12 s0 x1))
def B_Tr_number_0 (s0 : S_Tr) (x1 : Int32) : Option Int32 :=
  (if x1 < 0 then (B_Tr_number_21 s0) else (B_Tr_number_4 s0 x1))
def F_Tr_number (s0 : S_Tr) (x1 : Int32) : Option Int32 := B_Tr_number_0 s0 x1
set_option maxRecDepth 100000 in
set_option maxHeartbeats 4000000 in
theorem t_Tr_number_22 {p : Program} {l : Launch} {e : Env} {s : State} {m : MethodId} {args : Array Value} {below : List Frame} {meth : Method} {c : Code} {D : va_G} {A : Nat → Prop} {g : Nat → ClassId} {rest : va_W} {a0 : Nat → Nat} {ls : Array Slot} {H : Heap} {locs : List Loc} {s0 : S_Tr} {y0 : Int32} {out : Int32} (X : Cx p s m args meth c prog_9_method_9_code 2 ws_Tr_number R_Tr (some .int) D g) (hl : lv_has ls 2 []) (hI : Iw D A (w_Tr g a0 s0 ++ (rest)) H) (hS : va_S A s.heap H locs) (h : B_Tr_number_22  s0 y0 = some out) : W p l e (headSpec ws_Tr_number { frames := 0, cells := 0, slots := 0, locals := 0 }).room s m args below meth c H locs 0 0 (MQ below (QcI D A g out (fun (_ : Unit) => w_Tr g a0 s0 ++ (rest))) args s 0 0 A) (F0 m 22 ls [.int y0]) := by
  have X1 := X
  obtain ⟨hx, hb, hml, hown, hts, hr, hlocks, hKK⟩ := X1
  have ht : ∀ w ∈ TB, w.before args s = true := fun w h => hts w (List.mem_cons_of_mem _ h)
  have hK := hKK.1
  unfold B_Tr_number_22 at h
  have h9 := Option.some.inj h
  subst h9
  exact W.iret (v := y0) hx hb hr (fun t ht hW => ⟨⟨_, (), rfl, rfl, ⟨by rw [ht]; exact hI, hKK.moved hW⟩⟩, hS.F ht⟩) hS.2.2 d_Tr_number_22
set_option maxRecDepth 100000 in
set_option maxHeartbeats 4000000 in
theorem t_Tr_number_21 {p : Program} {l : Launch} {e : Env} {s : State} {m : MethodId} {args : Array Value} {below : List Frame} {meth : Method} {c : Code} {D : va_G} {A : Nat → Prop} {g : Nat → ClassId} {rest : va_W} {a0 : Nat → Nat} {ls : Array Slot} {H : Heap} {locs : List Loc} {s0 : S_Tr} {out : Int32} (X : Cx p s m args meth c prog_9_method_9_code 2 ws_Tr_number R_Tr (some .int) D g) (hl : lv_has ls 2 []) (hI : Iw D A (w_Tr g a0 s0 ++ (rest)) H) (hS : va_S A s.heap H locs) (h : B_Tr_number_21  s0 = some out) : W p l e (headSpec ws_Tr_number { frames := 0, cells := 0, slots := 0, locals := 0 }).room s m args below meth c H locs 0 0 (MQ below (QcI D A g out (fun (_ : Unit) => w_Tr g a0 s0 ++ (rest))) args s 0 0 A) (F0 m 21 ls []) := by
  have X1 := X
  obtain ⟨hx, hb, hml, hown, hts, hr, hlocks, hKK⟩ := X1
  have ht : ∀ w ∈ TB, w.before args s = true := fun w h => hts w (List.mem_cons_of_mem _ h)
  have hK := hKK.1
  unfold B_Tr_number_21 at h
  refine lv_iconst (v := 0) hx hb d_Tr_number_21 (by decide) ?_
  exact t_Tr_number_22 X (lv_sub hl [] rfl) hI hS h
set_option maxRecDepth 100000 in
set_option maxHeartbeats 4000000 in
theorem t_Tr_number_12 {p : Program} {l : Launch} {e : Env} {s : State} {m : MethodId} {args : Array Value} {below : List Frame} {meth : Method} {c : Code} {D : va_G} {A : Nat → Prop} {g : Nat → ClassId} {rest : va_W} {a0 : Nat → Nat} {ls : Array Slot} {H : Heap} {locs : List Loc} {s0 : S_Tr} {x1 : Int32} {out : Int32} (X : Cx p s m args meth c prog_9_method_9_code 2 ws_Tr_number R_Tr (some .int) D g) (hl : lv_has ls 2 [(0, .ref (a0 0)), (1, .int x1)]) (hI : Iw D A (w_Tr g a0 s0 ++ (rest)) H) (hS : va_S A s.heap H locs) (h : B_Tr_number_12  s0 x1 = some out) : W p l e (headSpec ws_Tr_number { frames := 0, cells := 0, slots := 0, locals := 0 }).room s m args below meth c H locs 0 0 (MQ below (QcI D A g out (fun (_ : Unit) => w_Tr g a0 s0 ++ (rest))) args s 0 0 A) (F0 m 12 ls []) := by
  have X1 := X
  obtain ⟨hx, hb, hml, hown, hts, hr, hlocks, hKK⟩ := X1
  have ht : ∀ w ∈ TB, w.before args s = true := fun w h => hts w (List.mem_cons_of_mem _ h)
  have hK := hKK.1
  unfold B_Tr_number_12 at h
  refine lv_aload_n hx hb d_Tr_number_12 rfl (lv_at hl 0 rfl) ?_
  refine va_get (D := D) (ci := 7) (v := .ref (a0 3)) (C := R_Tr) (T := T_Tr) (N := 7) hx hb ht in_Tr hown hK hI.1 0 rfl rfl 2 (by decide) (ht _ m_136) (fun _ h9 => h9) rfl d_Tr_number_13 ?_
  refine lv_iload_n hx hb d_Tr_number_16 rfl (lv_at hl 1 rfl) ?_
  by_cases hc1 : (x1 < 0 ∨ 101 ≤ x1.toNatClampNeg)
  · exact no_s (it_t h hc1)
  have h := it_f h hc1
  refine va_iald hx hb hK hI.1 3 0 rfl rfl hc1 d_Tr_number_17 ?_
  refine lv_goto (tgt := 22) hx hb d_Tr_number_18 (by decide) ?_
  exact t_Tr_number_22 X (lv_sub hl [] rfl) hI hS h
set_option maxRecDepth 100000 in
set_option maxHeartbeats 4000000 in
theorem t_Tr_number_4 {p : Program} {l : Launch} {e : Env} {s : State} {m : MethodId} {args : Array Value} {below : List Frame} {meth : Method} {c : Code} {D : va_G} {A : Nat → Prop} {g : Nat → ClassId} {rest : va_W} {a0 : Nat → Nat} {ls : Array Slot} {H : Heap} {locs : List Loc} {s0 : S_Tr} {x1 : Int32} {out : Int32} (X : Cx p s m args meth c prog_9_method_9_code 2 ws_Tr_number R_Tr (some .int) D g) (hl : lv_has ls 2 [(0, .ref (a0 0)), (1, .int x1)]) (hI : Iw D A (w_Tr g a0 s0 ++ (rest)) H) (hS : va_S A s.heap H locs) (h : B_Tr_number_4  s0 x1 = some out) : W p l e (headSpec ws_Tr_number { frames := 0, cells := 0, slots := 0, locals := 0 }).room s m args below meth c H locs 0 0 (MQ below (QcI D A g out (fun (_ : Unit) => w_Tr g a0 s0 ++ (rest))) args s 0 0 A) (F0 m 4 ls []) := by
  have X1 := X
  obtain ⟨hx, hb, hml, hown, hts, hr, hlocks, hKK⟩ := X1
  have ht : ∀ w ∈ TB, w.before args s = true := fun w h => hts w (List.mem_cons_of_mem _ h)
  have hK := hKK.1
  unfold B_Tr_number_4 at h
  refine lv_iload_n hx hb d_Tr_number_4 rfl (lv_at hl 1 rfl) ?_
  refine lv_aload_n hx hb d_Tr_number_5 rfl (lv_at hl 0 rfl) ?_
  refine va_get (D := D) (ci := 7) (v := .int (Tr_count s0)) (C := R_Tr) (T := T_Tr) (N := 7) hx hb ht in_Tr hown hK hI.1 0 rfl rfl 5 (by decide) (ht _ m_139) (fun _ h9 => h9) rfl d_Tr_number_6 ?_
  refine lv_icmp_ge (tgt := 21) hx hb d_Tr_number_9 (by decide) (fun hc => ?_) (fun hc => ?_)
  · have h := it_t h hc
    exact t_Tr_number_21 X (lv_sub hl [] rfl) hI hS h
  · have h := it_f h hc
    exact t_Tr_number_12 X (lv_sub hl [0, 1] rfl) hI hS h
set_option maxRecDepth 100000 in
set_option maxHeartbeats 4000000 in
theorem t_Tr_number_0 {p : Program} {l : Launch} {e : Env} {s : State} {m : MethodId} {args : Array Value} {below : List Frame} {meth : Method} {c : Code} {D : va_G} {A : Nat → Prop} {g : Nat → ClassId} {rest : va_W} {a0 : Nat → Nat} {ls : Array Slot} {H : Heap} {locs : List Loc} {s0 : S_Tr} {x1 : Int32} {out : Int32} (X : Cx p s m args meth c prog_9_method_9_code 2 ws_Tr_number R_Tr (some .int) D g) (hl : lv_has ls 2 [(0, .ref (a0 0)), (1, .int x1)]) (hI : Iw D A (w_Tr g a0 s0 ++ (rest)) H) (hS : va_S A s.heap H locs) (h : B_Tr_number_0  s0 x1 = some out) : W p l e (headSpec ws_Tr_number { frames := 0, cells := 0, slots := 0, locals := 0 }).room s m args below meth c H locs 0 0 (MQ below (QcI D A g out (fun (_ : Unit) => w_Tr g a0 s0 ++ (rest))) args s 0 0 A) (F0 m 0 ls []) := by
  have X1 := X
  obtain ⟨hx, hb, hml, hown, hts, hr, hlocks, hKK⟩ := X1
  have ht : ∀ w ∈ TB, w.before args s = true := fun w h => hts w (List.mem_cons_of_mem _ h)
  have hK := hKK.1
  unfold B_Tr_number_0 at h
  refine lv_iload_n hx hb d_Tr_number_0 rfl (lv_at hl 1 rfl) ?_
  refine lv_if_lt (tgt := 21) hx hb d_Tr_number_1 (by decide) (fun hc => ?_) (fun hc => ?_)
  · have h := it_t h hc
    exact t_Tr_number_21 X (lv_sub hl [] rfl) hI hS h
  · have h := it_f h hc
    exact t_Tr_number_4 X (lv_sub hl [0, 1] rfl) hI hS h
set_option maxRecDepth 100000 in
set_option maxHeartbeats 4000000 in
theorem c_Tr_number {l : Launch} {D : va_G} {A : Nat → Prop} {g : Nat → ClassId} {rest : va_W} {a0 : Nat → Nat} {s0 : S_Tr} {x1 : Int32} {out : Int32} (h : F_Tr_number s0 x1 = some out) : Met l y_Tr_number ws_Tr_number { frames := 0, cells := 0, slots := 0, locals := 0 } (PcW D A g [.ref (a0 0), .int x1] (w_Tr g a0 s0 ++ (rest))) (QcI D A g out (fun (_ : Unit) => w_Tr g a0 s0 ++ (rest))) 0 0 A := by
  refine Met.ofW (cc := prog_9_method_9_code) (maxL := 2) (ret := (some .int)) (by decide) rfl ?_
  intro p e s m args below meth c s₁ B hml hv
  obtain ⟨rfl, hI, hK⟩ := hv
  have hl := lv_entry [.ref (a0 0), .int x1] (n := 2) (Nat.le_of_ble_eq_true rfl)
  rw [lg_entry_eq]
  generalize (lg_sl [.ref (a0 0), .int x1] ++ List.replicate (2 - (lg_sl [.ref (a0 0), .int x1]).length) Slot.unset).toArray = ls at hl ⊢
  have hl : lv_has ls 2 [(0, .ref (a0 0)), (1, .int x1)] := hl
  exact t_Tr_number_0 ⟨B.exec, B.bytes, hml, findClass_of_methodNamed B.named, atoms_spec (ws := ws_Tr_number) B.pre, B.returns, B.notSynchronized, hK⟩ (lv_sub hl [0, 1] rfl) hI va_S.rf h
def ws_Tr_finish : List Cond := .code y_Tr_finish prog_9_method_6_code 2 none :: TB
def B_Tr_finish_22 (s0 : S_Tr) : Option S_Tr :=
  some s0
def B_Tr_finish_12 (s0 : S_Tr) (x1 : Int32) : Option S_Tr :=
  (if (x1 < 0 ∨ 101 ≤ x1.toNatClampNeg) then none else (B_Tr_finish_22 (Tr_set_behind s0 (upd (Tr_behind s0) x1.toNatClampNeg (Tr_count s0)))))
def B_Tr_finish_4 (s0 : S_Tr) (x1 : Int32) : Option S_Tr :=
  (if (Tr_count s0) ≤ x1 then (B_Tr_finish_22 s0) else (B_Tr_finish_12 s0 x1))
def B_Tr_finish_0 (s0 : S_Tr) (x1 : Int32) : Option S_Tr :=
  (if x1 < 0 then (B_Tr_finish_22 s0) else (B_Tr_finish_4 s0 x1))
def F_Tr_finish (s0 : S_Tr) (x1 : Int32) : Option S_Tr := B_Tr_finish_0 s0 x1
set_option maxRecDepth 100000 in
set_option maxHeartbeats 4000000 in
theorem t_Tr_finish_22 {p : Program} {l : Launch} {e : Env} {s : State} {m : MethodId} {args : Array Value} {below : List Frame} {meth : Method} {c : Code} {D : va_G} {A : Nat → Prop} {g : Nat → ClassId} {rest : va_W} {a0 : Nat → Nat} {ls : Array Slot} {H : Heap} {locs : List Loc} {s0 : S_Tr} {out : S_Tr} (X : Cx p s m args meth c prog_9_method_6_code 2 ws_Tr_finish R_Tr none D g) (hl : lv_has ls 2 []) (hI : Iw D A (w_Tr g a0 s0 ++ (rest)) H) (hS : va_S A s.heap H locs) (h : B_Tr_finish_22  s0 = some out) : W p l e (headSpec ws_Tr_finish { frames := 0, cells := 0, slots := 0, locals := 0 }).room s m args below meth c H locs 0 0 (MQ below (QcV D A g (fun (_ : Unit) => w_Tr g a0 out ++ (rest))) args s 0 0 A) (F0 m 22 ls []) := by
  have X1 := X
  obtain ⟨hx, hb, hml, hown, hts, hr, hlocks, hKK⟩ := X1
  have ht : ∀ w ∈ TB, w.before args s = true := fun w h => hts w (List.mem_cons_of_mem _ h)
  have hK := hKK.1
  unfold B_Tr_finish_22 at h
  have h9 := Option.some.inj h
  subst h9
  exact W.vret hx hb hr (fun t ht hW => ⟨⟨(), rfl, trivial, ⟨by rw [ht]; exact hI, hKK.moved hW⟩⟩, hS.F ht⟩) hS.2.2 d_Tr_finish_22
set_option maxRecDepth 100000 in
set_option maxHeartbeats 4000000 in
theorem t_Tr_finish_12 {p : Program} {l : Launch} {e : Env} {s : State} {m : MethodId} {args : Array Value} {below : List Frame} {meth : Method} {c : Code} {D : va_G} {A : Nat → Prop} {g : Nat → ClassId} {rest : va_W} {a0 : Nat → Nat} {ls : Array Slot} {H : Heap} {locs : List Loc} {s0 : S_Tr} {x1 : Int32} {out : S_Tr} (X : Cx p s m args meth c prog_9_method_6_code 2 ws_Tr_finish R_Tr none D g) (hl : lv_has ls 2 [(0, .ref (a0 0)), (1, .int x1)]) (hI : Iw D A (w_Tr g a0 s0 ++ (rest)) H) (hS : va_S A s.heap H locs) (h : B_Tr_finish_12  s0 x1 = some out) : W p l e (headSpec ws_Tr_finish { frames := 0, cells := 0, slots := 0, locals := 0 }).room s m args below meth c H locs 0 0 (MQ below (QcV D A g (fun (_ : Unit) => w_Tr g a0 out ++ (rest))) args s 0 0 A) (F0 m 12 ls []) := by
  have X1 := X
  obtain ⟨hx, hb, hml, hown, hts, hr, hlocks, hKK⟩ := X1
  have ht : ∀ w ∈ TB, w.before args s = true := fun w h => hts w (List.mem_cons_of_mem _ h)
  have hK := hKK.1
  unfold B_Tr_finish_12 at h
  refine lv_aload_n hx hb d_Tr_finish_12 rfl (lv_at hl 0 rfl) ?_
  refine va_get (D := D) (ci := 7) (v := .ref (a0 2)) (C := R_Tr) (T := T_Tr) (N := 7) hx hb ht in_Tr hown hK hI.1 0 rfl rfl 1 (by decide) (ht _ m_135) (fun _ h9 => h9) rfl d_Tr_finish_13 ?_
  refine lv_iload_n hx hb d_Tr_finish_16 rfl (lv_at hl 1 rfl) ?_
  refine lv_aload_n hx hb d_Tr_finish_17 rfl (lv_at hl 0 rfl) ?_
  refine va_get (D := D) (ci := 7) (v := .int (Tr_count s0)) (C := R_Tr) (T := T_Tr) (N := 7) hx hb ht in_Tr hown hK hI.1 0 rfl rfl 5 (by decide) (ht _ m_139) (fun _ h9 => h9) rfl d_Tr_finish_18 ?_
  by_cases hc1 : (x1 < 0 ∨ 101 ≤ x1.toNatClampNeg)
  · exact no_s (it_t h hc1)
  have h := it_f h hc1
  refine va_iast hx hb hK hI.1 hI.2 hS 2 0 rfl rfl hc1 d_Tr_finish_21 (fun H locs hP hD hS => ?_)
  have hI : Iw D A (w_Tr g a0 (Tr_set_behind s0 (upd (Tr_behind s0) x1.toNatClampNeg (Tr_count s0))) ++ (rest)) H := ⟨hP, hD⟩
  exact t_Tr_finish_22 X (lv_sub hl [] rfl) hI hS h
set_option maxRecDepth 100000 in
set_option maxHeartbeats 4000000 in
theorem t_Tr_finish_4 {p : Program} {l : Launch} {e : Env} {s : State} {m : MethodId} {args : Array Value} {below : List Frame} {meth : Method} {c : Code} {D : va_G} {A : Nat → Prop} {g : Nat → ClassId} {rest : va_W} {a0 : Nat → Nat} {ls : Array Slot} {H : Heap} {locs : List Loc} {s0 : S_Tr} {x1 : Int32} {out : S_Tr} (X : Cx p s m args meth c prog_9_method_6_code 2 ws_Tr_finish R_Tr none D g) (hl : lv_has ls 2 [(0, .ref (a0 0)), (1, .int x1)]) (hI : Iw D A (w_Tr g a0 s0 ++ (rest)) H) (hS : va_S A s.heap H locs) (h : B_Tr_finish_4  s0 x1 = some out) : W p l e (headSpec ws_Tr_finish { frames := 0, cells := 0, slots := 0, locals := 0 }).room s m args below meth c H locs 0 0 (MQ below (QcV D A g (fun (_ : Unit) => w_Tr g a0 out ++ (rest))) args s 0 0 A) (F0 m 4 ls []) := by
  have X1 := X
  obtain ⟨hx, hb, hml, hown, hts, hr, hlocks, hKK⟩ := X1
  have ht : ∀ w ∈ TB, w.before args s = true := fun w h => hts w (List.mem_cons_of_mem _ h)
  have hK := hKK.1
  unfold B_Tr_finish_4 at h
  refine lv_iload_n hx hb d_Tr_finish_4 rfl (lv_at hl 1 rfl) ?_
  refine lv_aload_n hx hb d_Tr_finish_5 rfl (lv_at hl 0 rfl) ?_
  refine va_get (D := D) (ci := 7) (v := .int (Tr_count s0)) (C := R_Tr) (T := T_Tr) (N := 7) hx hb ht in_Tr hown hK hI.1 0 rfl rfl 5 (by decide) (ht _ m_139) (fun _ h9 => h9) rfl d_Tr_finish_6 ?_
  refine lv_icmp_ge (tgt := 22) hx hb d_Tr_finish_9 (by decide) (fun hc => ?_) (fun hc => ?_)
  · have h := it_t h hc
    exact t_Tr_finish_22 X (lv_sub hl [] rfl) hI hS h
  · have h := it_f h hc
    exact t_Tr_finish_12 X (lv_sub hl [0, 1] rfl) hI hS h
set_option maxRecDepth 100000 in
set_option maxHeartbeats 4000000 in
theorem t_Tr_finish_0 {p : Program} {l : Launch} {e : Env} {s : State} {m : MethodId} {args : Array Value} {below : List Frame} {meth : Method} {c : Code} {D : va_G} {A : Nat → Prop} {g : Nat → ClassId} {rest : va_W} {a0 : Nat → Nat} {ls : Array Slot} {H : Heap} {locs : List Loc} {s0 : S_Tr} {x1 : Int32} {out : S_Tr} (X : Cx p s m args meth c prog_9_method_6_code 2 ws_Tr_finish R_Tr none D g) (hl : lv_has ls 2 [(0, .ref (a0 0)), (1, .int x1)]) (hI : Iw D A (w_Tr g a0 s0 ++ (rest)) H) (hS : va_S A s.heap H locs) (h : B_Tr_finish_0  s0 x1 = some out) : W p l e (headSpec ws_Tr_finish { frames := 0, cells := 0, slots := 0, locals := 0 }).room s m args below meth c H locs 0 0 (MQ below (QcV D A g (fun (_ : Unit) => w_Tr g a0 out ++ (rest))) args s 0 0 A) (F0 m 0 ls []) := by
  have X1 := X
  obtain ⟨hx, hb, hml, hown, hts, hr, hlocks, hKK⟩ := X1
  have ht : ∀ w ∈ TB, w.before args s = true := fun w h => hts w (List.mem_cons_of_mem _ h)
  have hK := hKK.1
  unfold B_Tr_finish_0 at h
  refine lv_iload_n hx hb d_Tr_finish_0 rfl (lv_at hl 1 rfl) ?_
  refine lv_if_lt (tgt := 22) hx hb d_Tr_finish_1 (by decide) (fun hc => ?_) (fun hc => ?_)
  · have h := it_t h hc
    exact t_Tr_finish_22 X (lv_sub hl [] rfl) hI hS h
  · have h := it_f h hc
    exact t_Tr_finish_4 X (lv_sub hl [0, 1] rfl) hI hS h
set_option maxRecDepth 100000 in
set_option maxHeartbeats 4000000 in
theorem c_Tr_finish {l : Launch} {D : va_G} {A : Nat → Prop} {g : Nat → ClassId} {rest : va_W} {a0 : Nat → Nat} {s0 : S_Tr} {x1 : Int32} {out : S_Tr} (h : F_Tr_finish s0 x1 = some out) : Met l y_Tr_finish ws_Tr_finish { frames := 0, cells := 0, slots := 0, locals := 0 } (PcW D A g [.ref (a0 0), .int x1] (w_Tr g a0 s0 ++ (rest))) (QcV D A g (fun (_ : Unit) => w_Tr g a0 out ++ (rest))) 0 0 A := by
  refine Met.ofW (cc := prog_9_method_6_code) (maxL := 2) (ret := none) (by decide) rfl ?_
  intro p e s m args below meth c s₁ B hml hv
  obtain ⟨rfl, hI, hK⟩ := hv
  have hl := lv_entry [.ref (a0 0), .int x1] (n := 2) (Nat.le_of_ble_eq_true rfl)
  rw [lg_entry_eq]
  generalize (lg_sl [.ref (a0 0), .int x1] ++ List.replicate (2 - (lg_sl [.ref (a0 0), .int x1]).length) Slot.unset).toArray = ls at hl ⊢
  have hl : lv_has ls 2 [(0, .ref (a0 0)), (1, .int x1)] := hl
  exact t_Tr_finish_0 ⟨B.exec, B.bytes, hml, findClass_of_methodNamed B.named, atoms_spec (ws := ws_Tr_finish) B.pre, B.returns, B.notSynchronized, hK⟩ (lv_sub hl [0, 1] rfl) hI va_S.rf h
def ws_Tr_add : List Cond := .code y_Tr_add prog_9_method_3_code 5 (some .int) :: TB
def B_Tr_add_16 (s0 : S_Tr) (x1 : Int32) (x2 : Int32) (x3 : Int32) : Option (Int32 × S_Tr) :=
  (if ((Tr_count s0) < 0 ∨ 101 ≤ (Tr_count s0).toNatClampNeg) then none else (if ((Tr_count s0) < 0 ∨ 101 ≤ (Tr_count s0).toNatClampNeg) then none else (if ((Tr_count s0) < 0 ∨ 101 ≤ (Tr_count s0).toNatClampNeg) then none else (if ((Tr_count s0) < 0 ∨ 101 ≤ (Tr_count s0).toNatClampNeg) then none else some ((Tr_count s0), (Tr_set_behind (Tr_set_count (Tr_set_lengths (Tr_set_values (Tr_set_tags s0 (upd (Tr_tags s0) (Tr_count s0).toNatClampNeg x1)) (upd (Tr_values (Tr_set_tags s0 (upd (Tr_tags s0) (Tr_count s0).toNatClampNeg x1))) (Tr_count s0).toNatClampNeg x2)) (upd (Tr_lengths (Tr_set_values (Tr_set_tags s0 (upd (Tr_tags s0) (Tr_count s0).toNatClampNeg x1)) (upd (Tr_values (Tr_set_tags s0 (upd (Tr_tags s0) (Tr_count s0).toNatClampNeg x1))) (Tr_count s0).toNatClampNeg x2))) (Tr_count s0).toNatClampNeg x3)) ((Tr_count (Tr_set_lengths (Tr_set_values (Tr_set_tags s0 (upd (Tr_tags s0) (Tr_count s0).toNatClampNeg x1)) (upd (Tr_values (Tr_set_tags s0 (upd (Tr_tags s0) (Tr_count s0).toNatClampNeg x1))) (Tr_count s0).toNatClampNeg x2)) (upd (Tr_lengths (Tr_set_values (Tr_set_tags s0 (upd (Tr_tags s0) (Tr_count s0).toNatClampNeg x1)) (upd (Tr_values (Tr_set_tags s0 (upd (Tr_tags s0) (Tr_count s0).toNatClampNeg x1))) (Tr_count s0).toNatClampNeg x2))) (Tr_count s0).toNatClampNeg x3))) + (1 : Int32))) (upd (Tr_behind (Tr_set_count (Tr_set_lengths (Tr_set_values (Tr_set_tags s0 (upd (Tr_tags s0) (Tr_count s0).toNatClampNeg x1)) (upd (Tr_values (Tr_set_tags s0 (upd (Tr_tags s0) (Tr_count s0).toNatClampNeg x1))) (Tr_count s0).toNatClampNeg x2)) (upd (Tr_lengths (Tr_set_values (Tr_set_tags s0 (upd (Tr_tags s0) (Tr_count s0).toNatClampNeg x1)) (upd (Tr_values (Tr_set_tags s0 (upd (Tr_tags s0) (Tr_count s0).toNatClampNeg x1))) (Tr_count s0).toNatClampNeg x2))) (Tr_count s0).toNatClampNeg x3)) ((Tr_count (Tr_set_lengths (Tr_set_values (Tr_set_tags s0 (upd (Tr_tags s0) (Tr_count s0).toNatClampNeg x1)) (upd (Tr_values (Tr_set_tags s0 (upd (Tr_tags s0) (Tr_count s0).toNatClampNeg x1))) (Tr_count s0).toNatClampNeg x2)) (upd (Tr_lengths (Tr_set_values (Tr_set_tags s0 (upd (Tr_tags s0) (Tr_count s0).toNatClampNeg x1)) (upd (Tr_values (Tr_set_tags s0 (upd (Tr_tags s0) (Tr_count s0).toNatClampNeg x1))) (Tr_count s0).toNatClampNeg x2))) (Tr_count s0).toNatClampNeg x3))) + (1 : Int32)))) (Tr_count s0).toNatClampNeg (Tr_count (Tr_set_count (Tr_set_lengths (Tr_set_values (Tr_set_tags s0 (upd (Tr_tags s0) (Tr_count s0).toNatClampNeg x1)) (upd (Tr_values (Tr_set_tags s0 (upd (Tr_tags s0) (Tr_count s0).toNatClampNeg x1))) (Tr_count s0).toNatClampNeg x2)) (upd (Tr_lengths (Tr_set_values (Tr_set_tags s0 (upd (Tr_tags s0) (Tr_count s0).toNatClampNeg x1)) (upd (Tr_values (Tr_set_tags s0 (upd (Tr_tags s0) (Tr_count s0).toNatClampNeg x1))) (Tr_count s0).toNatClampNeg x2))) (Tr_count s0).toNatClampNeg x3)) ((Tr_count (Tr_set_lengths (Tr_set_values (Tr_set_tags s0 (upd (Tr_tags s0) (Tr_count s0).toNatClampNeg x1)) (upd (Tr_values (Tr_set_tags s0 (upd (Tr_tags s0) (Tr_count s0).toNatClampNeg x1))) (Tr_count s0).toNatClampNeg x2)) (upd (Tr_lengths (Tr_set_values (Tr_set_tags s0 (upd (Tr_tags s0) (Tr_count s0).toNatClampNeg x1)) (upd (Tr_values (Tr_set_tags s0 (upd (Tr_tags s0) (Tr_count s0).toNatClampNeg x1))) (Tr_count s0).toNatClampNeg x2))) (Tr_count s0).toNatClampNeg x3))) + (1 : Int32)))))))))))
def B_Tr_add_9 (s0 : S_Tr) : Option (Int32 × S_Tr) :=
  some (((Tr_count s0) - (1 : Int32)), s0)
def B_Tr_add_0 (s0 : S_Tr) (x1 : Int32) (x2 : Int32) (x3 : Int32) : Option (Int32 × S_Tr) :=
  (if (Tr_count s0) < (101 : Int32) then (B_Tr_add_16 s0 x1 x2 x3) else (B_Tr_add_9 s0))
def F_Tr_add (s0 : S_Tr) (x1 : Int32) (x2 : Int32) (x3 : Int32) : Option (Int32 × S_Tr) := B_Tr_add_0 s0 x1 x2 x3
set_option maxRecDepth 100000 in
set_option maxHeartbeats 4000000 in
theorem t_Tr_add_16 {p : Program} {l : Launch} {e : Env} {s : State} {m : MethodId} {args : Array Value} {below : List Frame} {meth : Method} {c : Code} {D : va_G} {A : Nat → Prop} {g : Nat → ClassId} {rest : va_W} {a0 : Nat → Nat} {ls : Array Slot} {H : Heap} {locs : List Loc} {s0 : S_Tr} {x1 : Int32} {x2 : Int32} {x3 : Int32} {out : Int32 × S_Tr} (X : Cx p s m args meth c prog_9_method_3_code 5 ws_Tr_add R_Tr (some .int) D g) (hl : lv_has ls 5 [(0, .ref (a0 0)), (1, .int x1), (2, .int x2), (3, .int x3)]) (hI : Iw D A (w_Tr g a0 s0 ++ (rest)) H) (hS : va_S A s.heap H locs) (h : B_Tr_add_16  s0 x1 x2 x3 = some out) : W p l e (headSpec ws_Tr_add { frames := 0, cells := 0, slots := 0, locals := 0 }).room s m args below meth c H locs 0 0 (MQ below (QcI D A g out.1 (fun (_ : Unit) => w_Tr g a0 out.2 ++ (rest))) args s 0 0 A) (F0 m 16 ls []) := by
  have X1 := X
  obtain ⟨hx, hb, hml, hown, hts, hr, hlocks, hKK⟩ := X1
  have ht : ∀ w ∈ TB, w.before args s = true := fun w h => hts w (List.mem_cons_of_mem _ h)
  have hK := hKK.1
  unfold B_Tr_add_16 at h
  refine lv_aload_n hx hb d_Tr_add_16 rfl (lv_at hl 0 rfl) ?_
  refine va_get (D := D) (ci := 7) (v := .int (Tr_count s0)) (C := R_Tr) (T := T_Tr) (N := 7) hx hb ht in_Tr hown hK hI.1 0 rfl rfl 5 (by decide) (ht _ m_139) (fun _ h9 => h9) rfl d_Tr_add_17 ?_
  refine lv_istore hx hb d_Tr_add_20 hl (Nat.le_of_ble_eq_true rfl) rfl (fun ls hl => ?_)
  have hl : lv_has ls 5 [(4, .int (Tr_count s0)), (0, .ref (a0 0)), (1, .int x1), (2, .int x2), (3, .int x3)] := hl
  refine lv_aload_n hx hb d_Tr_add_22 rfl (lv_at hl 1 rfl) ?_
  refine va_get (D := D) (ci := 7) (v := .ref (a0 1)) (C := R_Tr) (T := T_Tr) (N := 7) hx hb ht in_Tr hown hK hI.1 0 rfl rfl 0 (by decide) (ht _ m_134) (fun _ h9 => h9) rfl d_Tr_add_23 ?_
  refine lv_iload hx hb d_Tr_add_26 (lv_at hl 0 rfl) ?_
  refine lv_iload_n hx hb d_Tr_add_28 rfl (lv_at hl 2 rfl) ?_
  by_cases hc1 : ((Tr_count s0) < 0 ∨ 101 ≤ (Tr_count s0).toNatClampNeg)
  · exact no_s (it_t h hc1)
  have h := it_f h hc1
  refine va_iast hx hb hK hI.1 hI.2 hS 1 0 rfl rfl hc1 d_Tr_add_29 (fun H locs hP hD hS => ?_)
  have hI : Iw D A (w_Tr g a0 (Tr_set_tags s0 (upd (Tr_tags s0) (Tr_count s0).toNatClampNeg x1)) ++ (rest)) H := ⟨hP, hD⟩
  refine lv_aload_n hx hb d_Tr_add_30 rfl (lv_at hl 1 rfl) ?_
  refine va_get (D := D) (ci := 7) (v := .ref (a0 3)) (C := R_Tr) (T := T_Tr) (N := 7) hx hb ht in_Tr hown hK hI.1 0 rfl rfl 2 (by decide) (ht _ m_136) (fun _ h9 => h9) rfl d_Tr_add_31 ?_
  refine lv_iload hx hb d_Tr_add_34 (lv_at hl 0 rfl) ?_
  refine lv_iload_n hx hb d_Tr_add_36 rfl (lv_at hl 3 rfl) ?_
  by_cases hc2 : ((Tr_count s0) < 0 ∨ 101 ≤ (Tr_count s0).toNatClampNeg)
  · exact no_s (it_t h hc2)
  have h := it_f h hc2
  refine va_iast hx hb hK hI.1 hI.2 hS 3 0 rfl rfl hc2 d_Tr_add_37 (fun H locs hP hD hS => ?_)
  have hI : Iw D A (w_Tr g a0 (Tr_set_values (Tr_set_tags s0 (upd (Tr_tags s0) (Tr_count s0).toNatClampNeg x1)) (upd (Tr_values (Tr_set_tags s0 (upd (Tr_tags s0) (Tr_count s0).toNatClampNeg x1))) (Tr_count s0).toNatClampNeg x2)) ++ (rest)) H := ⟨hP, hD⟩
  refine lv_aload_n hx hb d_Tr_add_38 rfl (lv_at hl 1 rfl) ?_
  refine va_get (D := D) (ci := 7) (v := .ref (a0 4)) (C := R_Tr) (T := T_Tr) (N := 7) hx hb ht in_Tr hown hK hI.1 0 rfl rfl 3 (by decide) (ht _ m_137) (fun _ h9 => h9) rfl d_Tr_add_39 ?_
  refine lv_iload hx hb d_Tr_add_42 (lv_at hl 0 rfl) ?_
  refine lv_iload_n hx hb d_Tr_add_44 rfl (lv_at hl 4 rfl) ?_
  by_cases hc3 : ((Tr_count s0) < 0 ∨ 101 ≤ (Tr_count s0).toNatClampNeg)
  · exact no_s (it_t h hc3)
  have h := it_f h hc3
  refine va_iast hx hb hK hI.1 hI.2 hS 4 0 rfl rfl hc3 d_Tr_add_45 (fun H locs hP hD hS => ?_)
  have hI : Iw D A (w_Tr g a0 (Tr_set_lengths (Tr_set_values (Tr_set_tags s0 (upd (Tr_tags s0) (Tr_count s0).toNatClampNeg x1)) (upd (Tr_values (Tr_set_tags s0 (upd (Tr_tags s0) (Tr_count s0).toNatClampNeg x1))) (Tr_count s0).toNatClampNeg x2)) (upd (Tr_lengths (Tr_set_values (Tr_set_tags s0 (upd (Tr_tags s0) (Tr_count s0).toNatClampNeg x1)) (upd (Tr_values (Tr_set_tags s0 (upd (Tr_tags s0) (Tr_count s0).toNatClampNeg x1))) (Tr_count s0).toNatClampNeg x2))) (Tr_count s0).toNatClampNeg x3)) ++ (rest)) H := ⟨hP, hD⟩
  refine lv_aload_n hx hb d_Tr_add_46 rfl (lv_at hl 1 rfl) ?_
  refine lv_dup hx hb d_Tr_add_47 rfl ?_
  refine va_get (D := D) (ci := 7) (v := .int (Tr_count (Tr_set_lengths (Tr_set_values (Tr_set_tags s0 (upd (Tr_tags s0) (Tr_count s0).toNatClampNeg x1)) (upd (Tr_values (Tr_set_tags s0 (upd (Tr_tags s0) (Tr_count s0).toNatClampNeg x1))) (Tr_count s0).toNatClampNeg x2)) (upd (Tr_lengths (Tr_set_values (Tr_set_tags s0 (upd (Tr_tags s0) (Tr_count s0).toNatClampNeg x1)) (upd (Tr_values (Tr_set_tags s0 (upd (Tr_tags s0) (Tr_count s0).toNatClampNeg x1))) (Tr_count s0).toNatClampNeg x2))) (Tr_count s0).toNatClampNeg x3)))) (C := R_Tr) (T := T_Tr) (N := 7) hx hb ht in_Tr hown hK hI.1 0 rfl rfl 5 (by decide) (ht _ m_139) (fun _ h9 => h9) rfl d_Tr_add_48 ?_
  refine lv_iconst (v := 1) hx hb d_Tr_add_51 (by decide) ?_
  refine lv_iadd hx hb d_Tr_add_52 ?_
  refine va_put (D := D) (ci := 7) (v := .int ((Tr_count (Tr_set_lengths (Tr_set_values (Tr_set_tags s0 (upd (Tr_tags s0) (Tr_count s0).toNatClampNeg x1)) (upd (Tr_values (Tr_set_tags s0 (upd (Tr_tags s0) (Tr_count s0).toNatClampNeg x1))) (Tr_count s0).toNatClampNeg x2)) (upd (Tr_lengths (Tr_set_values (Tr_set_tags s0 (upd (Tr_tags s0) (Tr_count s0).toNatClampNeg x1)) (upd (Tr_values (Tr_set_tags s0 (upd (Tr_tags s0) (Tr_count s0).toNatClampNeg x1))) (Tr_count s0).toNatClampNeg x2))) (Tr_count s0).toNatClampNeg x3))) + (1 : Int32))) (ty := .int) (C := R_Tr) (T := T_Tr) (N := 7) hx hb ht in_Tr ty_Tr tyok_Tr nm_Tr hown hK hI.1 hI.2 hS 0 rfl rfl 5 (by decide) (ht _ m_139) (fun _ h9 => h9) rfl (by decide +kernel) rfl rfl (Nat.le_of_ble_eq_true rfl) d_Tr_add_53 (fun H locs hP hD hS => ?_)
  have hI : Iw D A (w_Tr g a0 (Tr_set_count (Tr_set_lengths (Tr_set_values (Tr_set_tags s0 (upd (Tr_tags s0) (Tr_count s0).toNatClampNeg x1)) (upd (Tr_values (Tr_set_tags s0 (upd (Tr_tags s0) (Tr_count s0).toNatClampNeg x1))) (Tr_count s0).toNatClampNeg x2)) (upd (Tr_lengths (Tr_set_values (Tr_set_tags s0 (upd (Tr_tags s0) (Tr_count s0).toNatClampNeg x1)) (upd (Tr_values (Tr_set_tags s0 (upd (Tr_tags s0) (Tr_count s0).toNatClampNeg x1))) (Tr_count s0).toNatClampNeg x2))) (Tr_count s0).toNatClampNeg x3)) ((Tr_count (Tr_set_lengths (Tr_set_values (Tr_set_tags s0 (upd (Tr_tags s0) (Tr_count s0).toNatClampNeg x1)) (upd (Tr_values (Tr_set_tags s0 (upd (Tr_tags s0) (Tr_count s0).toNatClampNeg x1))) (Tr_count s0).toNatClampNeg x2)) (upd (Tr_lengths (Tr_set_values (Tr_set_tags s0 (upd (Tr_tags s0) (Tr_count s0).toNatClampNeg x1)) (upd (Tr_values (Tr_set_tags s0 (upd (Tr_tags s0) (Tr_count s0).toNatClampNeg x1))) (Tr_count s0).toNatClampNeg x2))) (Tr_count s0).toNatClampNeg x3))) + (1 : Int32))) ++ (rest)) H := ⟨hP, hD⟩
  refine lv_aload_n hx hb d_Tr_add_56 rfl (lv_at hl 1 rfl) ?_
  refine va_get (D := D) (ci := 7) (v := .ref (a0 2)) (C := R_Tr) (T := T_Tr) (N := 7) hx hb ht in_Tr hown hK hI.1 0 rfl rfl 1 (by decide) (ht _ m_135) (fun _ h9 => h9) rfl d_Tr_add_57 ?_
  refine lv_iload hx hb d_Tr_add_60 (lv_at hl 0 rfl) ?_
  refine lv_aload_n hx hb d_Tr_add_62 rfl (lv_at hl 1 rfl) ?_
  refine va_get (D := D) (ci := 7) (v := .int (Tr_count (Tr_set_count (Tr_set_lengths (Tr_set_values (Tr_set_tags s0 (upd (Tr_tags s0) (Tr_count s0).toNatClampNeg x1)) (upd (Tr_values (Tr_set_tags s0 (upd (Tr_tags s0) (Tr_count s0).toNatClampNeg x1))) (Tr_count s0).toNatClampNeg x2)) (upd (Tr_lengths (Tr_set_values (Tr_set_tags s0 (upd (Tr_tags s0) (Tr_count s0).toNatClampNeg x1)) (upd (Tr_values (Tr_set_tags s0 (upd (Tr_tags s0) (Tr_count s0).toNatClampNeg x1))) (Tr_count s0).toNatClampNeg x2))) (Tr_count s0).toNatClampNeg x3)) ((Tr_count (Tr_set_lengths (Tr_set_values (Tr_set_tags s0 (upd (Tr_tags s0) (Tr_count s0).toNatClampNeg x1)) (upd (Tr_values (Tr_set_tags s0 (upd (Tr_tags s0) (Tr_count s0).toNatClampNeg x1))) (Tr_count s0).toNatClampNeg x2)) (upd (Tr_lengths (Tr_set_values (Tr_set_tags s0 (upd (Tr_tags s0) (Tr_count s0).toNatClampNeg x1)) (upd (Tr_values (Tr_set_tags s0 (upd (Tr_tags s0) (Tr_count s0).toNatClampNeg x1))) (Tr_count s0).toNatClampNeg x2))) (Tr_count s0).toNatClampNeg x3))) + (1 : Int32))))) (C := R_Tr) (T := T_Tr) (N := 7) hx hb ht in_Tr hown hK hI.1 0 rfl rfl 5 (by decide) (ht _ m_139) (fun _ h9 => h9) rfl d_Tr_add_63 ?_
  by_cases hc4 : ((Tr_count s0) < 0 ∨ 101 ≤ (Tr_count s0).toNatClampNeg)
  · exact no_s (it_t h hc4)
  have h := it_f h hc4
  refine va_iast hx hb hK hI.1 hI.2 hS 2 0 rfl rfl hc4 d_Tr_add_66 (fun H locs hP hD hS => ?_)
  have hI : Iw D A (w_Tr g a0 (Tr_set_behind (Tr_set_count (Tr_set_lengths (Tr_set_values (Tr_set_tags s0 (upd (Tr_tags s0) (Tr_count s0).toNatClampNeg x1)) (upd (Tr_values (Tr_set_tags s0 (upd (Tr_tags s0) (Tr_count s0).toNatClampNeg x1))) (Tr_count s0).toNatClampNeg x2)) (upd (Tr_lengths (Tr_set_values (Tr_set_tags s0 (upd (Tr_tags s0) (Tr_count s0).toNatClampNeg x1)) (upd (Tr_values (Tr_set_tags s0 (upd (Tr_tags s0) (Tr_count s0).toNatClampNeg x1))) (Tr_count s0).toNatClampNeg x2))) (Tr_count s0).toNatClampNeg x3)) ((Tr_count (Tr_set_lengths (Tr_set_values (Tr_set_tags s0 (upd (Tr_tags s0) (Tr_count s0).toNatClampNeg x1)) (upd (Tr_values (Tr_set_tags s0 (upd (Tr_tags s0) (Tr_count s0).toNatClampNeg x1))) (Tr_count s0).toNatClampNeg x2)) (upd (Tr_lengths (Tr_set_values (Tr_set_tags s0 (upd (Tr_tags s0) (Tr_count s0).toNatClampNeg x1)) (upd (Tr_values (Tr_set_tags s0 (upd (Tr_tags s0) (Tr_count s0).toNatClampNeg x1))) (Tr_count s0).toNatClampNeg x2))) (Tr_count s0).toNatClampNeg x3))) + (1 : Int32))) (upd (Tr_behind (Tr_set_count (Tr_set_lengths (Tr_set_values (Tr_set_tags s0 (upd (Tr_tags s0) (Tr_count s0).toNatClampNeg x1)) (upd (Tr_values (Tr_set_tags s0 (upd (Tr_tags s0) (Tr_count s0).toNatClampNeg x1))) (Tr_count s0).toNatClampNeg x2)) (upd (Tr_lengths (Tr_set_values (Tr_set_tags s0 (upd (Tr_tags s0) (Tr_count s0).toNatClampNeg x1)) (upd (Tr_values (Tr_set_tags s0 (upd (Tr_tags s0) (Tr_count s0).toNatClampNeg x1))) (Tr_count s0).toNatClampNeg x2))) (Tr_count s0).toNatClampNeg x3)) ((Tr_count (Tr_set_lengths (Tr_set_values (Tr_set_tags s0 (upd (Tr_tags s0) (Tr_count s0).toNatClampNeg x1)) (upd (Tr_values (Tr_set_tags s0 (upd (Tr_tags s0) (Tr_count s0).toNatClampNeg x1))) (Tr_count s0).toNatClampNeg x2)) (upd (Tr_lengths (Tr_set_values (Tr_set_tags s0 (upd (Tr_tags s0) (Tr_count s0).toNatClampNeg x1)) (upd (Tr_values (Tr_set_tags s0 (upd (Tr_tags s0) (Tr_count s0).toNatClampNeg x1))) (Tr_count s0).toNatClampNeg x2))) (Tr_count s0).toNatClampNeg x3))) + (1 : Int32)))) (Tr_count s0).toNatClampNeg (Tr_count (Tr_set_count (Tr_set_lengths (Tr_set_values (Tr_set_tags s0 (upd (Tr_tags s0) (Tr_count s0).toNatClampNeg x1)) (upd (Tr_values (Tr_set_tags s0 (upd (Tr_tags s0) (Tr_count s0).toNatClampNeg x1))) (Tr_count s0).toNatClampNeg x2)) (upd (Tr_lengths (Tr_set_values (Tr_set_tags s0 (upd (Tr_tags s0) (Tr_count s0).toNatClampNeg x1)) (upd (Tr_values (Tr_set_tags s0 (upd (Tr_tags s0) (Tr_count s0).toNatClampNeg x1))) (Tr_count s0).toNatClampNeg x2))) (Tr_count s0).toNatClampNeg x3)) ((Tr_count (Tr_set_lengths (Tr_set_values (Tr_set_tags s0 (upd (Tr_tags s0) (Tr_count s0).toNatClampNeg x1)) (upd (Tr_values (Tr_set_tags s0 (upd (Tr_tags s0) (Tr_count s0).toNatClampNeg x1))) (Tr_count s0).toNatClampNeg x2)) (upd (Tr_lengths (Tr_set_values (Tr_set_tags s0 (upd (Tr_tags s0) (Tr_count s0).toNatClampNeg x1)) (upd (Tr_values (Tr_set_tags s0 (upd (Tr_tags s0) (Tr_count s0).toNatClampNeg x1))) (Tr_count s0).toNatClampNeg x2))) (Tr_count s0).toNatClampNeg x3))) + (1 : Int32)))))) ++ (rest)) H := ⟨hP, hD⟩
  refine lv_iload hx hb d_Tr_add_67 (lv_at hl 0 rfl) ?_
  have h9 := Option.some.inj h
  subst h9
  exact W.iret (v := (Tr_count s0)) hx hb hr (fun t ht hW => ⟨⟨_, (), rfl, rfl, ⟨by rw [ht]; exact hI, hKK.moved hW⟩⟩, hS.F ht⟩) hS.2.2 d_Tr_add_69
set_option maxRecDepth 100000 in
set_option maxHeartbeats 4000000 in
theorem t_Tr_add_9 {p : Program} {l : Launch} {e : Env} {s : State} {m : MethodId} {args : Array Value} {below : List Frame} {meth : Method} {c : Code} {D : va_G} {A : Nat → Prop} {g : Nat → ClassId} {rest : va_W} {a0 : Nat → Nat} {ls : Array Slot} {H : Heap} {locs : List Loc} {s0 : S_Tr} {out : Int32 × S_Tr} (X : Cx p s m args meth c prog_9_method_3_code 5 ws_Tr_add R_Tr (some .int) D g) (hl : lv_has ls 5 [(0, .ref (a0 0))]) (hI : Iw D A (w_Tr g a0 s0 ++ (rest)) H) (hS : va_S A s.heap H locs) (h : B_Tr_add_9  s0 = some out) : W p l e (headSpec ws_Tr_add { frames := 0, cells := 0, slots := 0, locals := 0 }).room s m args below meth c H locs 0 0 (MQ below (QcI D A g out.1 (fun (_ : Unit) => w_Tr g a0 out.2 ++ (rest))) args s 0 0 A) (F0 m 9 ls []) := by
  have X1 := X
  obtain ⟨hx, hb, hml, hown, hts, hr, hlocks, hKK⟩ := X1
  have ht : ∀ w ∈ TB, w.before args s = true := fun w h => hts w (List.mem_cons_of_mem _ h)
  have hK := hKK.1
  unfold B_Tr_add_9 at h
  refine lv_aload_n hx hb d_Tr_add_9 rfl (lv_at hl 0 rfl) ?_
  refine va_get (D := D) (ci := 7) (v := .int (Tr_count s0)) (C := R_Tr) (T := T_Tr) (N := 7) hx hb ht in_Tr hown hK hI.1 0 rfl rfl 5 (by decide) (ht _ m_139) (fun _ h9 => h9) rfl d_Tr_add_10 ?_
  refine lv_iconst (v := 1) hx hb d_Tr_add_13 (by decide) ?_
  refine lv_isub hx hb d_Tr_add_14 ?_
  have h9 := Option.some.inj h
  subst h9
  exact W.iret (v := ((Tr_count s0) - (1 : Int32))) hx hb hr (fun t ht hW => ⟨⟨_, (), rfl, rfl, ⟨by rw [ht]; exact hI, hKK.moved hW⟩⟩, hS.F ht⟩) hS.2.2 d_Tr_add_15
set_option maxRecDepth 100000 in
set_option maxHeartbeats 4000000 in
theorem t_Tr_add_0 {p : Program} {l : Launch} {e : Env} {s : State} {m : MethodId} {args : Array Value} {below : List Frame} {meth : Method} {c : Code} {D : va_G} {A : Nat → Prop} {g : Nat → ClassId} {rest : va_W} {a0 : Nat → Nat} {ls : Array Slot} {H : Heap} {locs : List Loc} {s0 : S_Tr} {x1 : Int32} {x2 : Int32} {x3 : Int32} {out : Int32 × S_Tr} (X : Cx p s m args meth c prog_9_method_3_code 5 ws_Tr_add R_Tr (some .int) D g) (hl : lv_has ls 5 [(0, .ref (a0 0)), (1, .int x1), (2, .int x2), (3, .int x3)]) (hI : Iw D A (w_Tr g a0 s0 ++ (rest)) H) (hS : va_S A s.heap H locs) (h : B_Tr_add_0  s0 x1 x2 x3 = some out) : W p l e (headSpec ws_Tr_add { frames := 0, cells := 0, slots := 0, locals := 0 }).room s m args below meth c H locs 0 0 (MQ below (QcI D A g out.1 (fun (_ : Unit) => w_Tr g a0 out.2 ++ (rest))) args s 0 0 A) (F0 m 0 ls []) := by
  have X1 := X
  obtain ⟨hx, hb, hml, hown, hts, hr, hlocks, hKK⟩ := X1
  have ht : ∀ w ∈ TB, w.before args s = true := fun w h => hts w (List.mem_cons_of_mem _ h)
  have hK := hKK.1
  unfold B_Tr_add_0 at h
  refine lv_aload_n hx hb d_Tr_add_0 rfl (lv_at hl 0 rfl) ?_
  refine va_get (D := D) (ci := 7) (v := .int (Tr_count s0)) (C := R_Tr) (T := T_Tr) (N := 7) hx hb ht in_Tr hown hK hI.1 0 rfl rfl 5 (by decide) (ht _ m_139) (fun _ h9 => h9) rfl d_Tr_add_1 ?_
  refine lv_bipush (v := 101) hx hb d_Tr_add_4 (by decide) ?_
  refine lv_icmp_lt (tgt := 16) hx hb d_Tr_add_6 (by decide) (fun hc => ?_) (fun hc => ?_)
  · have h := it_t h hc
    exact t_Tr_add_16 X (lv_sub hl [0, 1, 2, 3] rfl) hI hS h
  · have h := it_f h hc
    exact t_Tr_add_9 X (lv_sub hl [0] rfl) hI hS h
set_option maxRecDepth 100000 in
set_option maxHeartbeats 4000000 in
theorem c_Tr_add {l : Launch} {D : va_G} {A : Nat → Prop} {g : Nat → ClassId} {rest : va_W} {a0 : Nat → Nat} {s0 : S_Tr} {x1 : Int32} {x2 : Int32} {x3 : Int32} {out : Int32 × S_Tr} (h : F_Tr_add s0 x1 x2 x3 = some out) : Met l y_Tr_add ws_Tr_add { frames := 0, cells := 0, slots := 0, locals := 0 } (PcW D A g [.ref (a0 0), .int x1, .int x2, .int x3] (w_Tr g a0 s0 ++ (rest))) (QcI D A g out.1 (fun (_ : Unit) => w_Tr g a0 out.2 ++ (rest))) 0 0 A := by
  refine Met.ofW (cc := prog_9_method_3_code) (maxL := 5) (ret := (some .int)) (by decide) rfl ?_
  intro p e s m args below meth c s₁ B hml hv
  obtain ⟨rfl, hI, hK⟩ := hv
  have hl := lv_entry [.ref (a0 0), .int x1, .int x2, .int x3] (n := 5) (Nat.le_of_ble_eq_true rfl)
  rw [lg_entry_eq]
  generalize (lg_sl [.ref (a0 0), .int x1, .int x2, .int x3] ++ List.replicate (5 - (lg_sl [.ref (a0 0), .int x1, .int x2, .int x3]).length) Slot.unset).toArray = ls at hl ⊢
  have hl : lv_has ls 5 [(0, .ref (a0 0)), (1, .int x1), (2, .int x2), (3, .int x3)] := hl
  exact t_Tr_add_0 ⟨B.exec, B.bytes, hml, findClass_of_methodNamed B.named, atoms_spec (ws := ws_Tr_add) B.pre, B.returns, B.notSynchronized, hK⟩ (lv_sub hl [0, 1, 2, 3] rfl) hI va_S.rf h
def ws_Tr_numberLength : List Cond := .code y_Tr_numberLength prog_9_method_19_code 3 (some .int) :: TB
def B_Tr_numberLength_35 : Option Int32 :=
  some (4 : Int32)
def B_Tr_numberLength_29 (k2 : Int32 × Int32 → Option Int32) (x0 : Int32) (x1 : Int32) : Option Int32 :=
  (k2 (x0, (x1 + 1)))
def B_Tr_numberLength_27 (x1 : Int32) : Option Int32 :=
  some x1
def B_Tr_numberLength_22 (k2 : Int32 × Int32 → Option Int32) (x0 : Int32) (x1 : Int32) (x2 : Int32) : Option Int32 :=
  (if x2 ≤ x0 then (B_Tr_numberLength_29 k2 x0 x1) else (B_Tr_numberLength_27 x1))
def B_Tr_numberLength_7 (k2 : Int32 × Int32 → Option Int32) (x0 : Int32) (x1 : Int32) : Option Int32 :=
  (if x0 < (-((1 : Int32) <<< ((((8 : Int32) * x1) - (1 : Int32)) &&& 31))) then (B_Tr_numberLength_29 k2 x0 x1) else (B_Tr_numberLength_22 k2 x0 x1 ((1 : Int32) <<< ((((8 : Int32) * x1) - (1 : Int32)) &&& 31))))
def B_Tr_numberLength_2 (k2 : Int32 × Int32 → Option Int32) (x0 : Int32) (x1 : Int32) : Option Int32 :=
  (if (4 : Int32) ≤ x1 then (B_Tr_numberLength_35 ) else (B_Tr_numberLength_7 k2 x0 x1))
def L_Tr_numberLength_2 (v : Int32 × Int32) : Option Int32 := lp (fun k2 v => B_Tr_numberLength_2  k2  v.1 v.2) FU v
def B_Tr_numberLength_0 (x0 : Int32) : Option Int32 :=
  (L_Tr_numberLength_2 (x0, (1 : Int32)))
def F_Tr_numberLength (x0 : Int32) : Option Int32 := B_Tr_numberLength_0 x0
set_option maxRecDepth 100000 in
set_option maxHeartbeats 4000000 in
theorem t_Tr_numberLength_35 {p : Program} {l : Launch} {e : Env} {s : State} {m : MethodId} {args : Array Value} {below : List Frame} {meth : Method} {c : Code} {D : va_G} {A : Nat → Prop} {g : Nat → ClassId} {rest : va_W} {ls : Array Slot} {H : Heap} {locs : List Loc} {out : Int32} (X : Cx p s m args meth c prog_9_method_19_code 3 ws_Tr_numberLength R_Tr (some .int) D g) (hl : lv_has ls 3 []) (hI : Iw D A (rest) H) (hS : va_S A s.heap H locs) (h : B_Tr_numberLength_35   = some out) : W p l e (headSpec ws_Tr_numberLength { frames := 0, cells := 0, slots := 0, locals := 0 }).room s m args below meth c H locs 0 0 (MQ below (QcI D A g out (fun (_ : Unit) => rest)) args s 0 0 A) (F0 m 35 ls []) := by
  have X1 := X
  obtain ⟨hx, hb, hml, hown, hts, hr, hlocks, hKK⟩ := X1
  have ht : ∀ w ∈ TB, w.before args s = true := fun w h => hts w (List.mem_cons_of_mem _ h)
  have hK := hKK.1
  unfold B_Tr_numberLength_35 at h
  refine lv_iconst (v := 4) hx hb d_Tr_numberLength_35 (by decide) ?_
  have h9 := Option.some.inj h
  subst h9
  exact W.iret (v := (4 : Int32)) hx hb hr (fun t ht hW => ⟨⟨_, (), rfl, rfl, ⟨by rw [ht]; exact hI, hKK.moved hW⟩⟩, hS.F ht⟩) hS.2.2 d_Tr_numberLength_36
set_option maxRecDepth 100000 in
set_option maxHeartbeats 4000000 in
theorem t_Tr_numberLength_29 {p : Program} {l : Launch} {e : Env} {s : State} {m : MethodId} {args : Array Value} {below : List Frame} {meth : Method} {c : Code} {D : va_G} {A : Nat → Prop} {g : Nat → ClassId} {rest : va_W} {ls : Array Slot} {H : Heap} {locs : List Loc} {k2 : Int32 × Int32 → Option Int32} {x0 : Int32} {x1 : Int32} {out : Int32} (X : Cx p s m args meth c prog_9_method_19_code 3 ws_Tr_numberLength R_Tr (some .int) D g) (hk2 : ∀ (v : Int32 × Int32) (ls : Array Slot) (H : Heap) (locs : List Loc), lv_has ls 3 [(0, .int v.1), (1, .int v.2)] → Iw D A (rest) H → va_S A s.heap H locs → k2 v = some out → W p l e (headSpec ws_Tr_numberLength { frames := 0, cells := 0, slots := 0, locals := 0 }).room s m args below meth c H locs 0 0 (MQ below (QcI D A g out (fun (_ : Unit) => rest)) args s 0 0 A) (F0 m 2 ls [])) (hl : lv_has ls 3 [(0, .int x0), (1, .int x1)]) (hI : Iw D A (rest) H) (hS : va_S A s.heap H locs) (h : B_Tr_numberLength_29 k2 x0 x1 = some out) : W p l e (headSpec ws_Tr_numberLength { frames := 0, cells := 0, slots := 0, locals := 0 }).room s m args below meth c H locs 0 0 (MQ below (QcI D A g out (fun (_ : Unit) => rest)) args s 0 0 A) (F0 m 29 ls []) := by
  have X1 := X
  obtain ⟨hx, hb, hml, hown, hts, hr, hlocks, hKK⟩ := X1
  have ht : ∀ w ∈ TB, w.before args s = true := fun w h => hts w (List.mem_cons_of_mem _ h)
  have hK := hKK.1
  unfold B_Tr_numberLength_29 at h
  refine lv_iinc (k := 1) (v := (x1 + 1)) hx hb d_Tr_numberLength_29 hl rfl (congrArg (fun z => x1 + z) (by decide)) (Nat.le_of_ble_eq_true rfl) rfl (fun ls hl => ?_)
  have hl : lv_has ls 3 [(1, .int (x1 + 1)), (0, .int x0)] := hl
  refine lv_goto (tgt := 2) hx hb d_Tr_numberLength_32 (by decide) ?_
  exact hk2 (x0, (x1 + 1)) _ _ _ (lv_sub hl [1, 0] rfl) hI hS h
set_option maxRecDepth 100000 in
set_option maxHeartbeats 4000000 in
theorem t_Tr_numberLength_27 {p : Program} {l : Launch} {e : Env} {s : State} {m : MethodId} {args : Array Value} {below : List Frame} {meth : Method} {c : Code} {D : va_G} {A : Nat → Prop} {g : Nat → ClassId} {rest : va_W} {ls : Array Slot} {H : Heap} {locs : List Loc} {x1 : Int32} {out : Int32} (X : Cx p s m args meth c prog_9_method_19_code 3 ws_Tr_numberLength R_Tr (some .int) D g) (hl : lv_has ls 3 [(1, .int x1)]) (hI : Iw D A (rest) H) (hS : va_S A s.heap H locs) (h : B_Tr_numberLength_27  x1 = some out) : W p l e (headSpec ws_Tr_numberLength { frames := 0, cells := 0, slots := 0, locals := 0 }).room s m args below meth c H locs 0 0 (MQ below (QcI D A g out (fun (_ : Unit) => rest)) args s 0 0 A) (F0 m 27 ls []) := by
  have X1 := X
  obtain ⟨hx, hb, hml, hown, hts, hr, hlocks, hKK⟩ := X1
  have ht : ∀ w ∈ TB, w.before args s = true := fun w h => hts w (List.mem_cons_of_mem _ h)
  have hK := hKK.1
  unfold B_Tr_numberLength_27 at h
  refine lv_iload_n hx hb d_Tr_numberLength_27 rfl (lv_at hl 0 rfl) ?_
  have h9 := Option.some.inj h
  subst h9
  exact W.iret (v := x1) hx hb hr (fun t ht hW => ⟨⟨_, (), rfl, rfl, ⟨by rw [ht]; exact hI, hKK.moved hW⟩⟩, hS.F ht⟩) hS.2.2 d_Tr_numberLength_28
set_option maxRecDepth 100000 in
set_option maxHeartbeats 4000000 in
theorem t_Tr_numberLength_22 {p : Program} {l : Launch} {e : Env} {s : State} {m : MethodId} {args : Array Value} {below : List Frame} {meth : Method} {c : Code} {D : va_G} {A : Nat → Prop} {g : Nat → ClassId} {rest : va_W} {ls : Array Slot} {H : Heap} {locs : List Loc} {k2 : Int32 × Int32 → Option Int32} {x0 : Int32} {x1 : Int32} {x2 : Int32} {out : Int32} (X : Cx p s m args meth c prog_9_method_19_code 3 ws_Tr_numberLength R_Tr (some .int) D g) (hk2 : ∀ (v : Int32 × Int32) (ls : Array Slot) (H : Heap) (locs : List Loc), lv_has ls 3 [(0, .int v.1), (1, .int v.2)] → Iw D A (rest) H → va_S A s.heap H locs → k2 v = some out → W p l e (headSpec ws_Tr_numberLength { frames := 0, cells := 0, slots := 0, locals := 0 }).room s m args below meth c H locs 0 0 (MQ below (QcI D A g out (fun (_ : Unit) => rest)) args s 0 0 A) (F0 m 2 ls [])) (hl : lv_has ls 3 [(0, .int x0), (1, .int x1), (2, .int x2)]) (hI : Iw D A (rest) H) (hS : va_S A s.heap H locs) (h : B_Tr_numberLength_22 k2 x0 x1 x2 = some out) : W p l e (headSpec ws_Tr_numberLength { frames := 0, cells := 0, slots := 0, locals := 0 }).room s m args below meth c H locs 0 0 (MQ below (QcI D A g out (fun (_ : Unit) => rest)) args s 0 0 A) (F0 m 22 ls []) := by
  have X1 := X
  obtain ⟨hx, hb, hml, hown, hts, hr, hlocks, hKK⟩ := X1
  have ht : ∀ w ∈ TB, w.before args s = true := fun w h => hts w (List.mem_cons_of_mem _ h)
  have hK := hKK.1
  unfold B_Tr_numberLength_22 at h
  refine lv_iload_n hx hb d_Tr_numberLength_22 rfl (lv_at hl 0 rfl) ?_
  refine lv_iload_n hx hb d_Tr_numberLength_23 rfl (lv_at hl 2 rfl) ?_
  refine lv_icmp_ge (tgt := 29) hx hb d_Tr_numberLength_24 (by decide) (fun hc => ?_) (fun hc => ?_)
  · have h := it_t h hc
    exact t_Tr_numberLength_29 X hk2 (lv_sub hl [0, 1] rfl) hI hS h
  · have h := it_f h hc
    exact t_Tr_numberLength_27 X (lv_sub hl [1] rfl) hI hS h
set_option maxRecDepth 100000 in
set_option maxHeartbeats 4000000 in
theorem t_Tr_numberLength_7 {p : Program} {l : Launch} {e : Env} {s : State} {m : MethodId} {args : Array Value} {below : List Frame} {meth : Method} {c : Code} {D : va_G} {A : Nat → Prop} {g : Nat → ClassId} {rest : va_W} {ls : Array Slot} {H : Heap} {locs : List Loc} {k2 : Int32 × Int32 → Option Int32} {x0 : Int32} {x1 : Int32} {out : Int32} (X : Cx p s m args meth c prog_9_method_19_code 3 ws_Tr_numberLength R_Tr (some .int) D g) (hk2 : ∀ (v : Int32 × Int32) (ls : Array Slot) (H : Heap) (locs : List Loc), lv_has ls 3 [(0, .int v.1), (1, .int v.2)] → Iw D A (rest) H → va_S A s.heap H locs → k2 v = some out → W p l e (headSpec ws_Tr_numberLength { frames := 0, cells := 0, slots := 0, locals := 0 }).room s m args below meth c H locs 0 0 (MQ below (QcI D A g out (fun (_ : Unit) => rest)) args s 0 0 A) (F0 m 2 ls [])) (hl : lv_has ls 3 [(0, .int x0), (1, .int x1)]) (hI : Iw D A (rest) H) (hS : va_S A s.heap H locs) (h : B_Tr_numberLength_7 k2 x0 x1 = some out) : W p l e (headSpec ws_Tr_numberLength { frames := 0, cells := 0, slots := 0, locals := 0 }).room s m args below meth c H locs 0 0 (MQ below (QcI D A g out (fun (_ : Unit) => rest)) args s 0 0 A) (F0 m 7 ls []) := by
  have X1 := X
  obtain ⟨hx, hb, hml, hown, hts, hr, hlocks, hKK⟩ := X1
  have ht : ∀ w ∈ TB, w.before args s = true := fun w h => hts w (List.mem_cons_of_mem _ h)
  have hK := hKK.1
  unfold B_Tr_numberLength_7 at h
  refine lv_iconst (v := 1) hx hb d_Tr_numberLength_7 (by decide) ?_
  refine lv_bipush (v := 8) hx hb d_Tr_numberLength_8 (by decide) ?_
  refine lv_iload_n hx hb d_Tr_numberLength_10 rfl (lv_at hl 1 rfl) ?_
  refine lv_imul hx hb d_Tr_numberLength_11 ?_
  refine lv_iconst (v := 1) hx hb d_Tr_numberLength_12 (by decide) ?_
  refine lv_isub hx hb d_Tr_numberLength_13 ?_
  refine lv_ishl hx hb d_Tr_numberLength_14 ?_
  refine lv_istore_n hx hb d_Tr_numberLength_15 rfl hl (Nat.le_of_ble_eq_true rfl) rfl (fun ls hl => ?_)
  have hl : lv_has ls 3 [(2, .int ((1 : Int32) <<< ((((8 : Int32) * x1) - (1 : Int32)) &&& 31))), (0, .int x0), (1, .int x1)] := hl
  refine lv_iload_n hx hb d_Tr_numberLength_16 rfl (lv_at hl 1 rfl) ?_
  refine lv_iload_n hx hb d_Tr_numberLength_17 rfl (lv_at hl 0 rfl) ?_
  refine lv_ineg hx hb d_Tr_numberLength_18 ?_
  refine lv_icmp_lt (tgt := 29) hx hb d_Tr_numberLength_19 (by decide) (fun hc => ?_) (fun hc => ?_)
  · have h := it_t h hc
    exact t_Tr_numberLength_29 X hk2 (lv_sub hl [1, 2] rfl) hI hS h
  · have h := it_f h hc
    exact t_Tr_numberLength_22 X hk2 (lv_sub hl [1, 2, 0] rfl) hI hS h
set_option maxRecDepth 100000 in
set_option maxHeartbeats 4000000 in
theorem t_Tr_numberLength_2 {p : Program} {l : Launch} {e : Env} {s : State} {m : MethodId} {args : Array Value} {below : List Frame} {meth : Method} {c : Code} {D : va_G} {A : Nat → Prop} {g : Nat → ClassId} {rest : va_W} {ls : Array Slot} {H : Heap} {locs : List Loc} {k2 : Int32 × Int32 → Option Int32} {x0 : Int32} {x1 : Int32} {out : Int32} (X : Cx p s m args meth c prog_9_method_19_code 3 ws_Tr_numberLength R_Tr (some .int) D g) (hk2 : ∀ (v : Int32 × Int32) (ls : Array Slot) (H : Heap) (locs : List Loc), lv_has ls 3 [(0, .int v.1), (1, .int v.2)] → Iw D A (rest) H → va_S A s.heap H locs → k2 v = some out → W p l e (headSpec ws_Tr_numberLength { frames := 0, cells := 0, slots := 0, locals := 0 }).room s m args below meth c H locs 0 0 (MQ below (QcI D A g out (fun (_ : Unit) => rest)) args s 0 0 A) (F0 m 2 ls [])) (hl : lv_has ls 3 [(0, .int x0), (1, .int x1)]) (hI : Iw D A (rest) H) (hS : va_S A s.heap H locs) (h : B_Tr_numberLength_2 k2 x0 x1 = some out) : W p l e (headSpec ws_Tr_numberLength { frames := 0, cells := 0, slots := 0, locals := 0 }).room s m args below meth c H locs 0 0 (MQ below (QcI D A g out (fun (_ : Unit) => rest)) args s 0 0 A) (F0 m 2 ls []) := by
  have X1 := X
  obtain ⟨hx, hb, hml, hown, hts, hr, hlocks, hKK⟩ := X1
  have ht : ∀ w ∈ TB, w.before args s = true := fun w h => hts w (List.mem_cons_of_mem _ h)
  have hK := hKK.1
  unfold B_Tr_numberLength_2 at h
  refine lv_iload_n hx hb d_Tr_numberLength_2 rfl (lv_at hl 1 rfl) ?_
  refine lv_iconst (v := 4) hx hb d_Tr_numberLength_3 (by decide) ?_
  refine lv_icmp_ge (tgt := 35) hx hb d_Tr_numberLength_4 (by decide) (fun hc => ?_) (fun hc => ?_)
  · have h := it_t h hc
    exact t_Tr_numberLength_35 X (lv_sub hl [] rfl) hI hS h
  · have h := it_f h hc
    exact t_Tr_numberLength_7 X hk2 (lv_sub hl [0, 1] rfl) hI hS h
set_option maxRecDepth 100000 in
set_option maxHeartbeats 4000000 in
theorem T_Tr_numberLength_2 {p : Program} {l : Launch} {e : Env} {s : State} {m : MethodId} {args : Array Value} {below : List Frame} {meth : Method} {c : Code} {D : va_G} {A : Nat → Prop} {g : Nat → ClassId} {rest : va_W} {ls : Array Slot} {H : Heap} {locs : List Loc} {x0 : Int32} {x1 : Int32} {out : Int32} (X : Cx p s m args meth c prog_9_method_19_code 3 ws_Tr_numberLength R_Tr (some .int) D g) (hl : lv_has ls 3 [(0, .int x0), (1, .int x1)]) (hI : Iw D A (rest) H) (hS : va_S A s.heap H locs) (h : L_Tr_numberLength_2   (x0, x1) = some out) : W p l e (headSpec ws_Tr_numberLength { frames := 0, cells := 0, slots := 0, locals := 0 }).room s m args below meth c H locs 0 0 (MQ below (QcI D A g out (fun (_ : Unit) => rest)) args s 0 0 A) (F0 m 2 ls []) := by
  unfold L_Tr_numberLength_2 at h
  exact lp_ind (P := fun v => ∀ (ls : Array Slot) (H : Heap) (locs : List Loc), lv_has ls 3 [(0, .int v.1), (1, .int v.2)] → Iw D A (rest) H → va_S A s.heap H locs → W p l e (headSpec ws_Tr_numberLength { frames := 0, cells := 0, slots := 0, locals := 0 }).room s m args below meth c H locs 0 0 (MQ below (QcI D A g out (fun (_ : Unit) => rest)) args s 0 0 A) (F0 m 2 ls [])) (fun k v ih hb ls H locs  hl hI hS => t_Tr_numberLength_2 X  (fun v' ls H locs  hl hI hS h' => ih v' h' ls H locs  hl hI hS) hl hI hS hb) FU _ h ls H locs  hl hI hS
set_option maxRecDepth 100000 in
set_option maxHeartbeats 4000000 in
theorem t_Tr_numberLength_0 {p : Program} {l : Launch} {e : Env} {s : State} {m : MethodId} {args : Array Value} {below : List Frame} {meth : Method} {c : Code} {D : va_G} {A : Nat → Prop} {g : Nat → ClassId} {rest : va_W} {ls : Array Slot} {H : Heap} {locs : List Loc} {x0 : Int32} {out : Int32} (X : Cx p s m args meth c prog_9_method_19_code 3 ws_Tr_numberLength R_Tr (some .int) D g) (hl : lv_has ls 3 [(0, .int x0)]) (hI : Iw D A (rest) H) (hS : va_S A s.heap H locs) (h : B_Tr_numberLength_0  x0 = some out) : W p l e (headSpec ws_Tr_numberLength { frames := 0, cells := 0, slots := 0, locals := 0 }).room s m args below meth c H locs 0 0 (MQ below (QcI D A g out (fun (_ : Unit) => rest)) args s 0 0 A) (F0 m 0 ls []) := by
  have X1 := X
  obtain ⟨hx, hb, hml, hown, hts, hr, hlocks, hKK⟩ := X1
  have ht : ∀ w ∈ TB, w.before args s = true := fun w h => hts w (List.mem_cons_of_mem _ h)
  have hK := hKK.1
  unfold B_Tr_numberLength_0 at h
  refine lv_iconst (v := 1) hx hb d_Tr_numberLength_0 (by decide) ?_
  refine lv_istore_n hx hb d_Tr_numberLength_1 rfl hl (Nat.le_of_ble_eq_true rfl) rfl (fun ls hl => ?_)
  have hl : lv_has ls 3 [(1, .int (1 : Int32)), (0, .int x0)] := hl
  exact T_Tr_numberLength_2 X (lv_sub hl [1, 0] rfl) hI hS h
set_option maxRecDepth 100000 in
set_option maxHeartbeats 4000000 in
theorem c_Tr_numberLength {l : Launch} {D : va_G} {A : Nat → Prop} {g : Nat → ClassId} {rest : va_W} {x0 : Int32} {out : Int32} (h : F_Tr_numberLength x0 = some out) : Met l y_Tr_numberLength ws_Tr_numberLength { frames := 0, cells := 0, slots := 0, locals := 0 } (PcW D A g [.int x0] (rest)) (QcI D A g out (fun (_ : Unit) => rest)) 0 0 A := by
  refine Met.ofW (cc := prog_9_method_19_code) (maxL := 3) (ret := (some .int)) (by decide) rfl ?_
  intro p e s m args below meth c s₁ B hml hv
  obtain ⟨rfl, hI, hK⟩ := hv
  have hl := lv_entry [.int x0] (n := 3) (Nat.le_of_ble_eq_true rfl)
  rw [lg_entry_eq]
  generalize (lg_sl [.int x0] ++ List.replicate (3 - (lg_sl [.int x0]).length) Slot.unset).toArray = ls at hl ⊢
  have hl : lv_has ls 3 [(0, .int x0)] := hl
  exact t_Tr_numberLength_0 ⟨B.exec, B.bytes, hml, findClass_of_methodNamed B.named, atoms_spec (ws := ws_Tr_numberLength) B.pre, B.returns, B.notSynchronized, hK⟩ (lv_sub hl [0] rfl) hI va_S.rf h
def ws_Tr_addCharacter : List Cond := .code y_Tr_addCharacter prog_9_method_5_code 2 none :: TB
def B_Tr_addCharacter_30 (s0 : S_Tr) : Option S_Tr :=
  some s0
def B_Tr_addCharacter_10 (s0 : S_Tr) (x1 : Int32) : Option S_Tr :=
  (if ((Tr_characterCount s0) < 0 ∨ 200 ≤ (Tr_characterCount s0).toNatClampNeg) then none else (B_Tr_addCharacter_30 (Tr_set_characterCount (Tr_set_characters s0 (upd (Tr_characters s0) (Tr_characterCount s0).toNatClampNeg x1)) ((Tr_characterCount (Tr_set_characters s0 (upd (Tr_characters s0) (Tr_characterCount s0).toNatClampNeg x1))) + (1 : Int32)))))
def B_Tr_addCharacter_0 (s0 : S_Tr) (x1 : Int32) : Option S_Tr :=
  (if (200 : Int32) ≤ (Tr_characterCount s0) then (B_Tr_addCharacter_30 s0) else (B_Tr_addCharacter_10 s0 x1))
def F_Tr_addCharacter (s0 : S_Tr) (x1 : Int32) : Option S_Tr := B_Tr_addCharacter_0 s0 x1
set_option maxRecDepth 100000 in
set_option maxHeartbeats 4000000 in
theorem t_Tr_addCharacter_30 {p : Program} {l : Launch} {e : Env} {s : State} {m : MethodId} {args : Array Value} {below : List Frame} {meth : Method} {c : Code} {D : va_G} {A : Nat → Prop} {g : Nat → ClassId} {rest : va_W} {a0 : Nat → Nat} {ls : Array Slot} {H : Heap} {locs : List Loc} {s0 : S_Tr} {out : S_Tr} (X : Cx p s m args meth c prog_9_method_5_code 2 ws_Tr_addCharacter R_Tr none D g) (hl : lv_has ls 2 []) (hI : Iw D A (w_Tr g a0 s0 ++ (rest)) H) (hS : va_S A s.heap H locs) (h : B_Tr_addCharacter_30  s0 = some out) : W p l e (headSpec ws_Tr_addCharacter { frames := 0, cells := 0, slots := 0, locals := 0 }).room s m args below meth c H locs 0 0 (MQ below (QcV D A g (fun (_ : Unit) => w_Tr g a0 out ++ (rest))) args s 0 0 A) (F0 m 30 ls []) := by
  have X1 := X
  obtain ⟨hx, hb, hml, hown, hts, hr, hlocks, hKK⟩ := X1
  have ht : ∀ w ∈ TB, w.before args s = true := fun w h => hts w (List.mem_cons_of_mem _ h)
  have hK := hKK.1
  unfold B_Tr_addCharacter_30 at h
  have h9 := Option.some.inj h
  subst h9
  exact W.vret hx hb hr (fun t ht hW => ⟨⟨(), rfl, trivial, ⟨by rw [ht]; exact hI, hKK.moved hW⟩⟩, hS.F ht⟩) hS.2.2 d_Tr_addCharacter_30
set_option maxRecDepth 100000 in
set_option maxHeartbeats 4000000 in
theorem t_Tr_addCharacter_10 {p : Program} {l : Launch} {e : Env} {s : State} {m : MethodId} {args : Array Value} {below : List Frame} {meth : Method} {c : Code} {D : va_G} {A : Nat → Prop} {g : Nat → ClassId} {rest : va_W} {a0 : Nat → Nat} {ls : Array Slot} {H : Heap} {locs : List Loc} {s0 : S_Tr} {x1 : Int32} {out : S_Tr} (X : Cx p s m args meth c prog_9_method_5_code 2 ws_Tr_addCharacter R_Tr none D g) (hl : lv_has ls 2 [(0, .ref (a0 0)), (1, .int x1)]) (hI : Iw D A (w_Tr g a0 s0 ++ (rest)) H) (hS : va_S A s.heap H locs) (h : B_Tr_addCharacter_10  s0 x1 = some out) : W p l e (headSpec ws_Tr_addCharacter { frames := 0, cells := 0, slots := 0, locals := 0 }).room s m args below meth c H locs 0 0 (MQ below (QcV D A g (fun (_ : Unit) => w_Tr g a0 out ++ (rest))) args s 0 0 A) (F0 m 10 ls []) := by
  have X1 := X
  obtain ⟨hx, hb, hml, hown, hts, hr, hlocks, hKK⟩ := X1
  have ht : ∀ w ∈ TB, w.before args s = true := fun w h => hts w (List.mem_cons_of_mem _ h)
  have hK := hKK.1
  unfold B_Tr_addCharacter_10 at h
  refine lv_aload_n hx hb d_Tr_addCharacter_10 rfl (lv_at hl 0 rfl) ?_
  refine va_get (D := D) (ci := 7) (v := .ref (a0 5)) (C := R_Tr) (T := T_Tr) (N := 7) hx hb ht in_Tr hown hK hI.1 0 rfl rfl 4 (by decide) (ht _ m_138) (fun _ h9 => h9) rfl d_Tr_addCharacter_11 ?_
  refine lv_aload_n hx hb d_Tr_addCharacter_14 rfl (lv_at hl 0 rfl) ?_
  refine va_get (D := D) (ci := 7) (v := .int (Tr_characterCount s0)) (C := R_Tr) (T := T_Tr) (N := 7) hx hb ht in_Tr hown hK hI.1 0 rfl rfl 6 (by decide) (ht _ m_140) (fun _ h9 => h9) rfl d_Tr_addCharacter_15 ?_
  refine lv_iload_n hx hb d_Tr_addCharacter_18 rfl (lv_at hl 1 rfl) ?_
  by_cases hc1 : ((Tr_characterCount s0) < 0 ∨ 200 ≤ (Tr_characterCount s0).toNatClampNeg)
  · exact no_s (it_t h hc1)
  have h := it_f h hc1
  refine va_iast hx hb hK hI.1 hI.2 hS 5 0 rfl rfl hc1 d_Tr_addCharacter_19 (fun H locs hP hD hS => ?_)
  have hI : Iw D A (w_Tr g a0 (Tr_set_characters s0 (upd (Tr_characters s0) (Tr_characterCount s0).toNatClampNeg x1)) ++ (rest)) H := ⟨hP, hD⟩
  refine lv_aload_n hx hb d_Tr_addCharacter_20 rfl (lv_at hl 0 rfl) ?_
  refine lv_dup hx hb d_Tr_addCharacter_21 rfl ?_
  refine va_get (D := D) (ci := 7) (v := .int (Tr_characterCount (Tr_set_characters s0 (upd (Tr_characters s0) (Tr_characterCount s0).toNatClampNeg x1)))) (C := R_Tr) (T := T_Tr) (N := 7) hx hb ht in_Tr hown hK hI.1 0 rfl rfl 6 (by decide) (ht _ m_140) (fun _ h9 => h9) rfl d_Tr_addCharacter_22 ?_
  refine lv_iconst (v := 1) hx hb d_Tr_addCharacter_25 (by decide) ?_
  refine lv_iadd hx hb d_Tr_addCharacter_26 ?_
  refine va_put (D := D) (ci := 7) (v := .int ((Tr_characterCount (Tr_set_characters s0 (upd (Tr_characters s0) (Tr_characterCount s0).toNatClampNeg x1))) + (1 : Int32))) (ty := .int) (C := R_Tr) (T := T_Tr) (N := 7) hx hb ht in_Tr ty_Tr tyok_Tr nm_Tr hown hK hI.1 hI.2 hS 0 rfl rfl 6 (by decide) (ht _ m_140) (fun _ h9 => h9) rfl (by decide +kernel) rfl rfl (Nat.le_of_ble_eq_true rfl) d_Tr_addCharacter_27 (fun H locs hP hD hS => ?_)
  have hI : Iw D A (w_Tr g a0 (Tr_set_characterCount (Tr_set_characters s0 (upd (Tr_characters s0) (Tr_characterCount s0).toNatClampNeg x1)) ((Tr_characterCount (Tr_set_characters s0 (upd (Tr_characters s0) (Tr_characterCount s0).toNatClampNeg x1))) + (1 : Int32))) ++ (rest)) H := ⟨hP, hD⟩
  exact t_Tr_addCharacter_30 X (lv_sub hl [] rfl) hI hS h
set_option maxRecDepth 100000 in
set_option maxHeartbeats 4000000 in
theorem t_Tr_addCharacter_0 {p : Program} {l : Launch} {e : Env} {s : State} {m : MethodId} {args : Array Value} {below : List Frame} {meth : Method} {c : Code} {D : va_G} {A : Nat → Prop} {g : Nat → ClassId} {rest : va_W} {a0 : Nat → Nat} {ls : Array Slot} {H : Heap} {locs : List Loc} {s0 : S_Tr} {x1 : Int32} {out : S_Tr} (X : Cx p s m args meth c prog_9_method_5_code 2 ws_Tr_addCharacter R_Tr none D g) (hl : lv_has ls 2 [(0, .ref (a0 0)), (1, .int x1)]) (hI : Iw D A (w_Tr g a0 s0 ++ (rest)) H) (hS : va_S A s.heap H locs) (h : B_Tr_addCharacter_0  s0 x1 = some out) : W p l e (headSpec ws_Tr_addCharacter { frames := 0, cells := 0, slots := 0, locals := 0 }).room s m args below meth c H locs 0 0 (MQ below (QcV D A g (fun (_ : Unit) => w_Tr g a0 out ++ (rest))) args s 0 0 A) (F0 m 0 ls []) := by
  have X1 := X
  obtain ⟨hx, hb, hml, hown, hts, hr, hlocks, hKK⟩ := X1
  have ht : ∀ w ∈ TB, w.before args s = true := fun w h => hts w (List.mem_cons_of_mem _ h)
  have hK := hKK.1
  unfold B_Tr_addCharacter_0 at h
  refine lv_aload_n hx hb d_Tr_addCharacter_0 rfl (lv_at hl 0 rfl) ?_
  refine va_get (D := D) (ci := 7) (v := .int (Tr_characterCount s0)) (C := R_Tr) (T := T_Tr) (N := 7) hx hb ht in_Tr hown hK hI.1 0 rfl rfl 6 (by decide) (ht _ m_140) (fun _ h9 => h9) rfl d_Tr_addCharacter_1 ?_
  refine lv_sipush (v := 200) hx hb d_Tr_addCharacter_4 (by decide) ?_
  refine lv_icmp_ge (tgt := 30) hx hb d_Tr_addCharacter_7 (by decide) (fun hc => ?_) (fun hc => ?_)
  · have h := it_t h hc
    exact t_Tr_addCharacter_30 X (lv_sub hl [] rfl) hI hS h
  · have h := it_f h hc
    exact t_Tr_addCharacter_10 X (lv_sub hl [0, 1] rfl) hI hS h
set_option maxRecDepth 100000 in
set_option maxHeartbeats 4000000 in
theorem c_Tr_addCharacter {l : Launch} {D : va_G} {A : Nat → Prop} {g : Nat → ClassId} {rest : va_W} {a0 : Nat → Nat} {s0 : S_Tr} {x1 : Int32} {out : S_Tr} (h : F_Tr_addCharacter s0 x1 = some out) : Met l y_Tr_addCharacter ws_Tr_addCharacter { frames := 0, cells := 0, slots := 0, locals := 0 } (PcW D A g [.ref (a0 0), .int x1] (w_Tr g a0 s0 ++ (rest))) (QcV D A g (fun (_ : Unit) => w_Tr g a0 out ++ (rest))) 0 0 A := by
  refine Met.ofW (cc := prog_9_method_5_code) (maxL := 2) (ret := none) (by decide) rfl ?_
  intro p e s m args below meth c s₁ B hml hv
  obtain ⟨rfl, hI, hK⟩ := hv
  have hl := lv_entry [.ref (a0 0), .int x1] (n := 2) (Nat.le_of_ble_eq_true rfl)
  rw [lg_entry_eq]
  generalize (lg_sl [.ref (a0 0), .int x1] ++ List.replicate (2 - (lg_sl [.ref (a0 0), .int x1]).length) Slot.unset).toArray = ls at hl ⊢
  have hl : lv_has ls 2 [(0, .ref (a0 0)), (1, .int x1)] := hl
  exact t_Tr_addCharacter_0 ⟨B.exec, B.bytes, hml, findClass_of_methodNamed B.named, atoms_spec (ws := ws_Tr_addCharacter) B.pre, B.returns, B.notSynchronized, hK⟩ (lv_sub hl [0, 1] rfl) hI va_S.rf h
def ws_Tr_characterCount : List Cond := .code y_Tr_characterCount prog_9_method_4_code 1 (some .int) :: TB
def B_Tr_characterCount_0 (s0 : S_Tr) : Option Int32 :=
  some (Tr_characterCount s0)
def F_Tr_characterCount (s0 : S_Tr) : Option Int32 := B_Tr_characterCount_0 s0
set_option maxRecDepth 100000 in
set_option maxHeartbeats 4000000 in
theorem t_Tr_characterCount_0 {p : Program} {l : Launch} {e : Env} {s : State} {m : MethodId} {args : Array Value} {below : List Frame} {meth : Method} {c : Code} {D : va_G} {A : Nat → Prop} {g : Nat → ClassId} {rest : va_W} {a0 : Nat → Nat} {ls : Array Slot} {H : Heap} {locs : List Loc} {s0 : S_Tr} {out : Int32} (X : Cx p s m args meth c prog_9_method_4_code 1 ws_Tr_characterCount R_Tr (some .int) D g) (hl : lv_has ls 1 [(0, .ref (a0 0))]) (hI : Iw D A (w_Tr g a0 s0 ++ (rest)) H) (hS : va_S A s.heap H locs) (h : B_Tr_characterCount_0  s0 = some out) : W p l e (headSpec ws_Tr_characterCount { frames := 0, cells := 0, slots := 0, locals := 0 }).room s m args below meth c H locs 0 0 (MQ below (QcI D A g out (fun (_ : Unit) => w_Tr g a0 s0 ++ (rest))) args s 0 0 A) (F0 m 0 ls []) := by
  have X1 := X
  obtain ⟨hx, hb, hml, hown, hts, hr, hlocks, hKK⟩ := X1
  have ht : ∀ w ∈ TB, w.before args s = true := fun w h => hts w (List.mem_cons_of_mem _ h)
  have hK := hKK.1
  unfold B_Tr_characterCount_0 at h
  refine lv_aload_n hx hb d_Tr_characterCount_0 rfl (lv_at hl 0 rfl) ?_
  refine va_get (D := D) (ci := 7) (v := .int (Tr_characterCount s0)) (C := R_Tr) (T := T_Tr) (N := 7) hx hb ht in_Tr hown hK hI.1 0 rfl rfl 6 (by decide) (ht _ m_140) (fun _ h9 => h9) rfl d_Tr_characterCount_1 ?_
  have h9 := Option.some.inj h
  subst h9
  exact W.iret (v := (Tr_characterCount s0)) hx hb hr (fun t ht hW => ⟨⟨_, (), rfl, rfl, ⟨by rw [ht]; exact hI, hKK.moved hW⟩⟩, hS.F ht⟩) hS.2.2 d_Tr_characterCount_4
set_option maxRecDepth 100000 in
set_option maxHeartbeats 4000000 in
theorem c_Tr_characterCount {l : Launch} {D : va_G} {A : Nat → Prop} {g : Nat → ClassId} {rest : va_W} {a0 : Nat → Nat} {s0 : S_Tr} {out : Int32} (h : F_Tr_characterCount s0 = some out) : Met l y_Tr_characterCount ws_Tr_characterCount { frames := 0, cells := 0, slots := 0, locals := 0 } (PcW D A g [.ref (a0 0)] (w_Tr g a0 s0 ++ (rest))) (QcI D A g out (fun (_ : Unit) => w_Tr g a0 s0 ++ (rest))) 0 0 A := by
  refine Met.ofW (cc := prog_9_method_4_code) (maxL := 1) (ret := (some .int)) (by decide) rfl ?_
  intro p e s m args below meth c s₁ B hml hv
  obtain ⟨rfl, hI, hK⟩ := hv
  have hl := lv_entry [.ref (a0 0)] (n := 1) (Nat.le_of_ble_eq_true rfl)
  rw [lg_entry_eq]
  generalize (lg_sl [.ref (a0 0)] ++ List.replicate (1 - (lg_sl [.ref (a0 0)]).length) Slot.unset).toArray = ls at hl ⊢
  have hl : lv_has ls 1 [(0, .ref (a0 0))] := hl
  exact t_Tr_characterCount_0 ⟨B.exec, B.bytes, hml, findClass_of_methodNamed B.named, atoms_spec (ws := ws_Tr_characterCount) B.pre, B.returns, B.notSynchronized, hK⟩ (lv_sub hl [0] rfl) hI va_S.rf h
def ws_Tr_reset : List Cond := .code y_Tr_reset prog_9_method_2_code 1 none :: TB
def B_Tr_reset_0 (s0 : S_Tr) : Option S_Tr :=
  some (Tr_set_characterCount (Tr_set_count s0 (0 : Int32)) (0 : Int32))
def F_Tr_reset (s0 : S_Tr) : Option S_Tr := B_Tr_reset_0 s0
set_option maxRecDepth 100000 in
set_option maxHeartbeats 4000000 in
theorem t_Tr_reset_0 {p : Program} {l : Launch} {e : Env} {s : State} {m : MethodId} {args : Array Value} {below : List Frame} {meth : Method} {c : Code} {D : va_G} {A : Nat → Prop} {g : Nat → ClassId} {rest : va_W} {a0 : Nat → Nat} {ls : Array Slot} {H : Heap} {locs : List Loc} {s0 : S_Tr} {out : S_Tr} (X : Cx p s m args meth c prog_9_method_2_code 1 ws_Tr_reset R_Tr none D g) (hl : lv_has ls 1 [(0, .ref (a0 0))]) (hI : Iw D A (w_Tr g a0 s0 ++ (rest)) H) (hS : va_S A s.heap H locs) (h : B_Tr_reset_0  s0 = some out) : W p l e (headSpec ws_Tr_reset { frames := 0, cells := 0, slots := 0, locals := 0 }).room s m args below meth c H locs 0 0 (MQ below (QcV D A g (fun (_ : Unit) => w_Tr g a0 out ++ (rest))) args s 0 0 A) (F0 m 0 ls []) := by
  have X1 := X
  obtain ⟨hx, hb, hml, hown, hts, hr, hlocks, hKK⟩ := X1
  have ht : ∀ w ∈ TB, w.before args s = true := fun w h => hts w (List.mem_cons_of_mem _ h)
  have hK := hKK.1
  unfold B_Tr_reset_0 at h
  refine lv_aload_n hx hb d_Tr_reset_0 rfl (lv_at hl 0 rfl) ?_
  refine lv_iconst (v := 0) hx hb d_Tr_reset_1 (by decide) ?_
  refine va_put (D := D) (ci := 7) (v := .int (0 : Int32)) (ty := .int) (C := R_Tr) (T := T_Tr) (N := 7) hx hb ht in_Tr ty_Tr tyok_Tr nm_Tr hown hK hI.1 hI.2 hS 0 rfl rfl 5 (by decide) (ht _ m_139) (fun _ h9 => h9) rfl (by decide +kernel) rfl rfl (Nat.le_of_ble_eq_true rfl) d_Tr_reset_2 (fun H locs hP hD hS => ?_)
  have hI : Iw D A (w_Tr g a0 (Tr_set_count s0 (0 : Int32)) ++ (rest)) H := ⟨hP, hD⟩
  refine lv_aload_n hx hb d_Tr_reset_5 rfl (lv_at hl 0 rfl) ?_
  refine lv_iconst (v := 0) hx hb d_Tr_reset_6 (by decide) ?_
  refine va_put (D := D) (ci := 7) (v := .int (0 : Int32)) (ty := .int) (C := R_Tr) (T := T_Tr) (N := 7) hx hb ht in_Tr ty_Tr tyok_Tr nm_Tr hown hK hI.1 hI.2 hS 0 rfl rfl 6 (by decide) (ht _ m_140) (fun _ h9 => h9) rfl (by decide +kernel) rfl rfl (Nat.le_of_ble_eq_true rfl) d_Tr_reset_7 (fun H locs hP hD hS => ?_)
  have hI : Iw D A (w_Tr g a0 (Tr_set_characterCount (Tr_set_count s0 (0 : Int32)) (0 : Int32)) ++ (rest)) H := ⟨hP, hD⟩
  have h9 := Option.some.inj h
  subst h9
  exact W.vret hx hb hr (fun t ht hW => ⟨⟨(), rfl, trivial, ⟨by rw [ht]; exact hI, hKK.moved hW⟩⟩, hS.F ht⟩) hS.2.2 d_Tr_reset_10
set_option maxRecDepth 100000 in
set_option maxHeartbeats 4000000 in
theorem c_Tr_reset {l : Launch} {D : va_G} {A : Nat → Prop} {g : Nat → ClassId} {rest : va_W} {a0 : Nat → Nat} {s0 : S_Tr} {out : S_Tr} (h : F_Tr_reset s0 = some out) : Met l y_Tr_reset ws_Tr_reset { frames := 0, cells := 0, slots := 0, locals := 0 } (PcW D A g [.ref (a0 0)] (w_Tr g a0 s0 ++ (rest))) (QcV D A g (fun (_ : Unit) => w_Tr g a0 out ++ (rest))) 0 0 A := by
  refine Met.ofW (cc := prog_9_method_2_code) (maxL := 1) (ret := none) (by decide) rfl ?_
  intro p e s m args below meth c s₁ B hml hv
  obtain ⟨rfl, hI, hK⟩ := hv
  have hl := lv_entry [.ref (a0 0)] (n := 1) (Nat.le_of_ble_eq_true rfl)
  rw [lg_entry_eq]
  generalize (lg_sl [.ref (a0 0)] ++ List.replicate (1 - (lg_sl [.ref (a0 0)]).length) Slot.unset).toArray = ls at hl ⊢
  have hl : lv_has ls 1 [(0, .ref (a0 0))] := hl
  exact t_Tr_reset_0 ⟨B.exec, B.bytes, hml, findClass_of_methodNamed B.named, atoms_spec (ws := ws_Tr_reset) B.pre, B.returns, B.notSynchronized, hK⟩ (lv_sub hl [0] rfl) hI va_S.rf h
def ws_Tr_writeNumber : List Cond := .code y_Tr_writeNumber prog_9_method_18_code 6 none :: TB
def B_Tr_writeNumber_53 (s0 : S_Bs) : Option S_Bs :=
  some s0
def B_Tr_writeNumber_36 (k29 : S_Bs × Int32 × Int32 × Int32 → Option S_Bs) (s0 : S_Bs) (x1 : Int32) (x4 : Int32) (x5 : Int32) : Option S_Bs :=
  ((F_Bs_append s0 (x1 >>> (((8 : Int32) * x5) &&& 31))).bind fun o1 => (k29 (o1, x1, x4, (x5 + 1))))
def B_Tr_writeNumber_29 (k29 : S_Bs × Int32 × Int32 × Int32 → Option S_Bs) (s0 : S_Bs) (x1 : Int32) (x4 : Int32) (x5 : Int32) : Option S_Bs :=
  (if x4 ≤ x5 then (B_Tr_writeNumber_53 s0) else (B_Tr_writeNumber_36 k29 s0 x1 x4 x5))
def L_Tr_writeNumber_29 (v : S_Bs × Int32 × Int32 × Int32) : Option S_Bs := lp (fun k29 v => B_Tr_writeNumber_29  k29  v.1 v.2.1 v.2.2.1 v.2.2.2) FU v
def B_Tr_writeNumber_20 (s0 : S_Bs) (x1 : Int32) (x4 : Int32) : Option S_Bs :=
  ((F_Bs_append s0 x4).bind fun o1 => (L_Tr_writeNumber_29 (o1, x1, x4, (0 : Int32))))
def B_Tr_writeNumber_15 (s0 : S_Bs) (x1 : Int32) (x4 : Int32) : Option S_Bs :=
  ((F_Bs_append s0 (1 : Int32)).bind fun o1 => (B_Tr_writeNumber_20 o1 x1 x4))
def B_Tr_writeNumber_0 (s0 : S_Bs) (x0 : Int32) (x1 : Int32) (x2 : Int32) : Option S_Bs :=
  ((F_Tr_numberLength x1).bind fun o1 => ((F_Bs_append s0 x0).bind fun o3 => (if x2 = 0 then (B_Tr_writeNumber_15 o3 x1 o1) else (B_Tr_writeNumber_20 o3 x1 o1))))
def F_Tr_writeNumber (s0 : S_Bs) (x0 : Int32) (x1 : Int32) (x2 : Int32) : Option S_Bs := B_Tr_writeNumber_0 s0 x0 x1 x2
set_option maxRecDepth 100000 in
set_option maxHeartbeats 4000000 in
theorem t_Tr_writeNumber_53 {p : Program} {l : Launch} {e : Env} {s : State} {m : MethodId} {args : Array Value} {below : List Frame} {meth : Method} {c : Code} {D : va_G} {A : Nat → Prop} {g : Nat → ClassId} {rest : va_W} {a0 : Nat → Nat} {ls : Array Slot} {H : Heap} {locs : List Loc} {s0 : S_Bs} {out : S_Bs} (X : Cx p s m args meth c prog_9_method_18_code 6 ws_Tr_writeNumber R_Tr none D g) (hl : lv_has ls 6 []) (hI : Iw D A (w_Bs g a0 s0 ++ (rest)) H) (hS : va_S A s.heap H locs) (h : B_Tr_writeNumber_53  s0 = some out) : W p l e (headSpec ws_Tr_writeNumber { frames := 1, cells := 0, slots := 0, locals := 22 }).room s m args below meth c H locs 0 0 (MQ below (QcV D A g (fun (_ : Unit) => w_Bs g a0 out ++ (rest))) args s 0 0 A) (F0 m 53 ls []) := by
  have X1 := X
  obtain ⟨hx, hb, hml, hown, hts, hr, hlocks, hKK⟩ := X1
  have ht : ∀ w ∈ TB, w.before args s = true := fun w h => hts w (List.mem_cons_of_mem _ h)
  have hK := hKK.1
  unfold B_Tr_writeNumber_53 at h
  have h9 := Option.some.inj h
  subst h9
  exact W.vret hx hb hr (fun t ht hW => ⟨⟨(), rfl, trivial, ⟨by rw [ht]; exact hI, hKK.moved hW⟩⟩, hS.F ht⟩) hS.2.2 d_Tr_writeNumber_53
set_option maxRecDepth 100000 in
set_option maxHeartbeats 4000000 in
theorem t_Tr_writeNumber_36 {p : Program} {l : Launch} {e : Env} {s : State} {m : MethodId} {args : Array Value} {below : List Frame} {meth : Method} {c : Code} {D : va_G} {A : Nat → Prop} {g : Nat → ClassId} {rest : va_W} {a0 : Nat → Nat} {ls : Array Slot} {H : Heap} {locs : List Loc} {k29 : S_Bs × Int32 × Int32 × Int32 → Option S_Bs} {s0 : S_Bs} {x1 : Int32} {x4 : Int32} {x5 : Int32} {out : S_Bs} (X : Cx p s m args meth c prog_9_method_18_code 6 ws_Tr_writeNumber R_Tr none D g) (hk29 : ∀ (v : S_Bs × Int32 × Int32 × Int32) (ls : Array Slot) (H : Heap) (locs : List Loc), lv_has ls 6 [(1, .int v.2.1), (3, .ref (a0 0)), (4, .int v.2.2.1), (5, .int v.2.2.2)] → Iw D A (w_Bs g a0 v.1 ++ (rest)) H → va_S A s.heap H locs → k29 v = some out → W p l e (headSpec ws_Tr_writeNumber { frames := 1, cells := 0, slots := 0, locals := 22 }).room s m args below meth c H locs 0 0 (MQ below (QcV D A g (fun (_ : Unit) => w_Bs g a0 out ++ (rest))) args s 0 0 A) (F0 m 29 ls [])) (hl : lv_has ls 6 [(1, .int x1), (3, .ref (a0 0)), (4, .int x4), (5, .int x5)]) (hI : Iw D A (w_Bs g a0 s0 ++ (rest)) H) (hS : va_S A s.heap H locs) (h : B_Tr_writeNumber_36 k29 s0 x1 x4 x5 = some out) : W p l e (headSpec ws_Tr_writeNumber { frames := 1, cells := 0, slots := 0, locals := 22 }).room s m args below meth c H locs 0 0 (MQ below (QcV D A g (fun (_ : Unit) => w_Bs g a0 out ++ (rest))) args s 0 0 A) (F0 m 36 ls []) := by
  have X1 := X
  obtain ⟨hx, hb, hml, hown, hts, hr, hlocks, hKK⟩ := X1
  have ht : ∀ w ∈ TB, w.before args s = true := fun w h => hts w (List.mem_cons_of_mem _ h)
  have hK := hKK.1
  unfold B_Tr_writeNumber_36 at h
  refine lv_aload_n hx hb d_Tr_writeNumber_36 rfl (lv_at hl 1 rfl) ?_
  refine lv_iload_n hx hb d_Tr_writeNumber_37 rfl (lv_at hl 0 rfl) ?_
  refine lv_bipush (v := 8) hx hb d_Tr_writeNumber_38 (by decide) ?_
  refine lv_iload hx hb d_Tr_writeNumber_40 (lv_at hl 3 rfl) ?_
  refine lv_imul hx hb d_Tr_writeNumber_42 ?_
  refine lv_ishr hx hb d_Tr_writeNumber_43 ?_
  obtain ⟨o1, ho2, h⟩ := bd_s h
  refine cl_v (W1 := fun (_ : Unit) => w_Bs g a0 o1 ++ (rest)) (va_runV (As := [.int (x1 >>> (((8 : Int32) * x5) &&& 31))]) (rest := []) ⟨hx, hb, hml, hown, ht⟩ (c_Bs_append (l := l) (D := D) (A := A) (g := g) (rest := rest) (a0 := a0) ho2) (cwV 1 ht (gd_V m_555 m_267 m_268 m_2 m_269) rfl rfl rfl (by decide +kernel) ⟨(Nat.le_of_ble_eq_true rfl), (Nat.le_of_ble_eq_true rfl)⟩) (prV (ci := 0) (q0 := 0) hKK hI (List.Perm.refl _) rfl rfl rfl) rfl rfl hl.1 rfl (lv_room (Nat.le_of_ble_eq_true rfl)) d_Tr_writeNumber_44 ⟨(Nat.le_of_ble_eq_true rfl), (Nat.le_of_ble_eq_true rfl)⟩) hS (fun _ => ((List.Perm.refl _)).symm) (fun _ H locs hI hS => ?_)
  have hI : Iw D A (w_Bs g a0 o1 ++ (rest)) H := hI
  refine lv_iinc (k := 3) (v := (x5 + 1)) hx hb d_Tr_writeNumber_47 hl rfl (congrArg (fun z => x5 + z) (by decide)) (Nat.le_of_ble_eq_true rfl) rfl (fun ls hl => ?_)
  have hl : lv_has ls 6 [(5, .int (x5 + 1)), (1, .int x1), (3, .ref (a0 0)), (4, .int x4)] := hl
  refine lv_goto (tgt := 29) hx hb d_Tr_writeNumber_50 (by decide) ?_
  exact hk29 (o1, x1, x4, (x5 + 1)) _ _ _ (lv_sub hl [1, 2, 3, 0] rfl) hI hS h
set_option maxRecDepth 100000 in
set_option maxHeartbeats 4000000 in
theorem t_Tr_writeNumber_29 {p : Program} {l : Launch} {e : Env} {s : State} {m : MethodId} {args : Array Value} {below : List Frame} {meth : Method} {c : Code} {D : va_G} {A : Nat → Prop} {g : Nat → ClassId} {rest : va_W} {a0 : Nat → Nat} {ls : Array Slot} {H : Heap} {locs : List Loc} {k29 : S_Bs × Int32 × Int32 × Int32 → Option S_Bs} {s0 : S_Bs} {x1 : Int32} {x4 : Int32} {x5 : Int32} {out : S_Bs} (X : Cx p s m args meth c prog_9_method_18_code 6 ws_Tr_writeNumber R_Tr none D g) (hk29 : ∀ (v : S_Bs × Int32 × Int32 × Int32) (ls : Array Slot) (H : Heap) (locs : List Loc), lv_has ls 6 [(1, .int v.2.1), (3, .ref (a0 0)), (4, .int v.2.2.1), (5, .int v.2.2.2)] → Iw D A (w_Bs g a0 v.1 ++ (rest)) H → va_S A s.heap H locs → k29 v = some out → W p l e (headSpec ws_Tr_writeNumber { frames := 1, cells := 0, slots := 0, locals := 22 }).room s m args below meth c H locs 0 0 (MQ below (QcV D A g (fun (_ : Unit) => w_Bs g a0 out ++ (rest))) args s 0 0 A) (F0 m 29 ls [])) (hl : lv_has ls 6 [(1, .int x1), (3, .ref (a0 0)), (4, .int x4), (5, .int x5)]) (hI : Iw D A (w_Bs g a0 s0 ++ (rest)) H) (hS : va_S A s.heap H locs) (h : B_Tr_writeNumber_29 k29 s0 x1 x4 x5 = some out) : W p l e (headSpec ws_Tr_writeNumber { frames := 1, cells := 0, slots := 0, locals := 22 }).room s m args below meth c H locs 0 0 (MQ below (QcV D A g (fun (_ : Unit) => w_Bs g a0 out ++ (rest))) args s 0 0 A) (F0 m 29 ls []) := by
  have X1 := X
  obtain ⟨hx, hb, hml, hown, hts, hr, hlocks, hKK⟩ := X1
  have ht : ∀ w ∈ TB, w.before args s = true := fun w h => hts w (List.mem_cons_of_mem _ h)
  have hK := hKK.1
  unfold B_Tr_writeNumber_29 at h
  refine lv_iload hx hb d_Tr_writeNumber_29 (lv_at hl 3 rfl) ?_
  refine lv_iload hx hb d_Tr_writeNumber_31 (lv_at hl 2 rfl) ?_
  refine lv_icmp_ge (tgt := 53) hx hb d_Tr_writeNumber_33 (by decide) (fun hc => ?_) (fun hc => ?_)
  · have h := it_t h hc
    exact t_Tr_writeNumber_53 X (lv_sub hl [] rfl) hI hS h
  · have h := it_f h hc
    exact t_Tr_writeNumber_36 X hk29 (lv_sub hl [0, 1, 2, 3] rfl) hI hS h
set_option maxRecDepth 100000 in
set_option maxHeartbeats 4000000 in
theorem T_Tr_writeNumber_29 {p : Program} {l : Launch} {e : Env} {s : State} {m : MethodId} {args : Array Value} {below : List Frame} {meth : Method} {c : Code} {D : va_G} {A : Nat → Prop} {g : Nat → ClassId} {rest : va_W} {a0 : Nat → Nat} {ls : Array Slot} {H : Heap} {locs : List Loc} {s0 : S_Bs} {x1 : Int32} {x4 : Int32} {x5 : Int32} {out : S_Bs} (X : Cx p s m args meth c prog_9_method_18_code 6 ws_Tr_writeNumber R_Tr none D g) (hl : lv_has ls 6 [(1, .int x1), (3, .ref (a0 0)), (4, .int x4), (5, .int x5)]) (hI : Iw D A (w_Bs g a0 s0 ++ (rest)) H) (hS : va_S A s.heap H locs) (h : L_Tr_writeNumber_29   (s0, x1, x4, x5) = some out) : W p l e (headSpec ws_Tr_writeNumber { frames := 1, cells := 0, slots := 0, locals := 22 }).room s m args below meth c H locs 0 0 (MQ below (QcV D A g (fun (_ : Unit) => w_Bs g a0 out ++ (rest))) args s 0 0 A) (F0 m 29 ls []) := by
  unfold L_Tr_writeNumber_29 at h
  exact lp_ind (P := fun v => ∀ (ls : Array Slot) (H : Heap) (locs : List Loc), lv_has ls 6 [(1, .int v.2.1), (3, .ref (a0 0)), (4, .int v.2.2.1), (5, .int v.2.2.2)] → Iw D A (w_Bs g a0 v.1 ++ (rest)) H → va_S A s.heap H locs → W p l e (headSpec ws_Tr_writeNumber { frames := 1, cells := 0, slots := 0, locals := 22 }).room s m args below meth c H locs 0 0 (MQ below (QcV D A g (fun (_ : Unit) => w_Bs g a0 out ++ (rest))) args s 0 0 A) (F0 m 29 ls [])) (fun k v ih hb ls H locs  hl hI hS => t_Tr_writeNumber_29 X  (fun v' ls H locs  hl hI hS h' => ih v' h' ls H locs  hl hI hS) hl hI hS hb) FU _ h ls H locs  hl hI hS
set_option maxRecDepth 100000 in
set_option maxHeartbeats 4000000 in
theorem t_Tr_writeNumber_20 {p : Program} {l : Launch} {e : Env} {s : State} {m : MethodId} {args : Array Value} {below : List Frame} {meth : Method} {c : Code} {D : va_G} {A : Nat → Prop} {g : Nat → ClassId} {rest : va_W} {a0 : Nat → Nat} {ls : Array Slot} {H : Heap} {locs : List Loc} {s0 : S_Bs} {x1 : Int32} {x4 : Int32} {out : S_Bs} (X : Cx p s m args meth c prog_9_method_18_code 6 ws_Tr_writeNumber R_Tr none D g) (hl : lv_has ls 6 [(1, .int x1), (3, .ref (a0 0)), (4, .int x4)]) (hI : Iw D A (w_Bs g a0 s0 ++ (rest)) H) (hS : va_S A s.heap H locs) (h : B_Tr_writeNumber_20  s0 x1 x4 = some out) : W p l e (headSpec ws_Tr_writeNumber { frames := 1, cells := 0, slots := 0, locals := 22 }).room s m args below meth c H locs 0 0 (MQ below (QcV D A g (fun (_ : Unit) => w_Bs g a0 out ++ (rest))) args s 0 0 A) (F0 m 20 ls []) := by
  have X1 := X
  obtain ⟨hx, hb, hml, hown, hts, hr, hlocks, hKK⟩ := X1
  have ht : ∀ w ∈ TB, w.before args s = true := fun w h => hts w (List.mem_cons_of_mem _ h)
  have hK := hKK.1
  unfold B_Tr_writeNumber_20 at h
  refine lv_aload_n hx hb d_Tr_writeNumber_20 rfl (lv_at hl 1 rfl) ?_
  refine lv_iload hx hb d_Tr_writeNumber_21 (lv_at hl 2 rfl) ?_
  obtain ⟨o1, ho2, h⟩ := bd_s h
  refine cl_v (W1 := fun (_ : Unit) => w_Bs g a0 o1 ++ (rest)) (va_runV (As := [.int x4]) (rest := []) ⟨hx, hb, hml, hown, ht⟩ (c_Bs_append (l := l) (D := D) (A := A) (g := g) (rest := rest) (a0 := a0) ho2) (cwV 1 ht (gd_V m_555 m_267 m_268 m_2 m_269) rfl rfl rfl (by decide +kernel) ⟨(Nat.le_of_ble_eq_true rfl), (Nat.le_of_ble_eq_true rfl)⟩) (prV (ci := 0) (q0 := 0) hKK hI (List.Perm.refl _) rfl rfl rfl) rfl rfl hl.1 rfl (lv_room (Nat.le_of_ble_eq_true rfl)) d_Tr_writeNumber_23 ⟨(Nat.le_of_ble_eq_true rfl), (Nat.le_of_ble_eq_true rfl)⟩) hS (fun _ => ((List.Perm.refl _)).symm) (fun _ H locs hI hS => ?_)
  have hI : Iw D A (w_Bs g a0 o1 ++ (rest)) H := hI
  refine lv_iconst (v := 0) hx hb d_Tr_writeNumber_26 (by decide) ?_
  refine lv_istore hx hb d_Tr_writeNumber_27 hl (Nat.le_of_ble_eq_true rfl) rfl (fun ls hl => ?_)
  have hl : lv_has ls 6 [(5, .int (0 : Int32)), (1, .int x1), (3, .ref (a0 0)), (4, .int x4)] := hl
  exact T_Tr_writeNumber_29 X (lv_sub hl [1, 2, 3, 0] rfl) hI hS h
set_option maxRecDepth 100000 in
set_option maxHeartbeats 4000000 in
theorem t_Tr_writeNumber_15 {p : Program} {l : Launch} {e : Env} {s : State} {m : MethodId} {args : Array Value} {below : List Frame} {meth : Method} {c : Code} {D : va_G} {A : Nat → Prop} {g : Nat → ClassId} {rest : va_W} {a0 : Nat → Nat} {ls : Array Slot} {H : Heap} {locs : List Loc} {s0 : S_Bs} {x1 : Int32} {x4 : Int32} {out : S_Bs} (X : Cx p s m args meth c prog_9_method_18_code 6 ws_Tr_writeNumber R_Tr none D g) (hl : lv_has ls 6 [(1, .int x1), (3, .ref (a0 0)), (4, .int x4)]) (hI : Iw D A (w_Bs g a0 s0 ++ (rest)) H) (hS : va_S A s.heap H locs) (h : B_Tr_writeNumber_15  s0 x1 x4 = some out) : W p l e (headSpec ws_Tr_writeNumber { frames := 1, cells := 0, slots := 0, locals := 22 }).room s m args below meth c H locs 0 0 (MQ below (QcV D A g (fun (_ : Unit) => w_Bs g a0 out ++ (rest))) args s 0 0 A) (F0 m 15 ls []) := by
  have X1 := X
  obtain ⟨hx, hb, hml, hown, hts, hr, hlocks, hKK⟩ := X1
  have ht : ∀ w ∈ TB, w.before args s = true := fun w h => hts w (List.mem_cons_of_mem _ h)
  have hK := hKK.1
  unfold B_Tr_writeNumber_15 at h
  refine lv_aload_n hx hb d_Tr_writeNumber_15 rfl (lv_at hl 1 rfl) ?_
  refine lv_iconst (v := 1) hx hb d_Tr_writeNumber_16 (by decide) ?_
  obtain ⟨o1, ho2, h⟩ := bd_s h
  refine cl_v (W1 := fun (_ : Unit) => w_Bs g a0 o1 ++ (rest)) (va_runV (As := [.int (1 : Int32)]) (rest := []) ⟨hx, hb, hml, hown, ht⟩ (c_Bs_append (l := l) (D := D) (A := A) (g := g) (rest := rest) (a0 := a0) ho2) (cwV 1 ht (gd_V m_555 m_267 m_268 m_2 m_269) rfl rfl rfl (by decide +kernel) ⟨(Nat.le_of_ble_eq_true rfl), (Nat.le_of_ble_eq_true rfl)⟩) (prV (ci := 0) (q0 := 0) hKK hI (List.Perm.refl _) rfl rfl rfl) rfl rfl hl.1 rfl (lv_room (Nat.le_of_ble_eq_true rfl)) d_Tr_writeNumber_17 ⟨(Nat.le_of_ble_eq_true rfl), (Nat.le_of_ble_eq_true rfl)⟩) hS (fun _ => ((List.Perm.refl _)).symm) (fun _ H locs hI hS => ?_)
  have hI : Iw D A (w_Bs g a0 o1 ++ (rest)) H := hI
  exact t_Tr_writeNumber_20 X (lv_sub hl [0, 1, 2] rfl) hI hS h
set_option maxRecDepth 100000 in
set_option maxHeartbeats 4000000 in
theorem t_Tr_writeNumber_0 {p : Program} {l : Launch} {e : Env} {s : State} {m : MethodId} {args : Array Value} {below : List Frame} {meth : Method} {c : Code} {D : va_G} {A : Nat → Prop} {g : Nat → ClassId} {rest : va_W} {a0 : Nat → Nat} {ls : Array Slot} {H : Heap} {locs : List Loc} {s0 : S_Bs} {x0 : Int32} {x1 : Int32} {x2 : Int32} {out : S_Bs} (X : Cx p s m args meth c prog_9_method_18_code 6 ws_Tr_writeNumber R_Tr none D g) (hl : lv_has ls 6 [(0, .int x0), (1, .int x1), (2, .int x2), (3, .ref (a0 0))]) (hI : Iw D A (w_Bs g a0 s0 ++ (rest)) H) (hS : va_S A s.heap H locs) (h : B_Tr_writeNumber_0  s0 x0 x1 x2 = some out) : W p l e (headSpec ws_Tr_writeNumber { frames := 1, cells := 0, slots := 0, locals := 22 }).room s m args below meth c H locs 0 0 (MQ below (QcV D A g (fun (_ : Unit) => w_Bs g a0 out ++ (rest))) args s 0 0 A) (F0 m 0 ls []) := by
  have X1 := X
  obtain ⟨hx, hb, hml, hown, hts, hr, hlocks, hKK⟩ := X1
  have ht : ∀ w ∈ TB, w.before args s = true := fun w h => hts w (List.mem_cons_of_mem _ h)
  have hK := hKK.1
  unfold B_Tr_writeNumber_0 at h
  refine lv_iload_n hx hb d_Tr_writeNumber_0 rfl (lv_at hl 1 rfl) ?_
  obtain ⟨o1, ho2, h⟩ := bd_s h
  refine cl_i (W1 := fun (_ : Unit) => w_Bs g a0 s0 ++ (rest)) (va_runS (As := [.int x1]) (rest := []) ⟨hx, hb, hml, hown, ht⟩ (c_Tr_numberLength (l := l) (D := D) (A := A) (g := g) (rest := w_Bs g a0 s0 ++ (rest))  ho2) (va_cwS 1 ht (gd_S m_554 m_473 m_9 m_474) rfl rfl rfl (by decide +kernel) ⟨(Nat.le_of_ble_eq_true rfl), (Nat.le_of_ble_eq_true rfl)⟩) (prS hKK hI (List.Perm.refl _)) rfl rfl hl.1 rfl (lv_room (Nat.le_of_ble_eq_true rfl)) d_Tr_writeNumber_1 ⟨(Nat.le_of_ble_eq_true rfl), (Nat.le_of_ble_eq_true rfl)⟩) hS (fun _ => ((List.Perm.refl _)).symm) (fun _ H locs hI hS => ?_)
  have hI : Iw D A (w_Bs g a0 s0 ++ (rest)) H := hI
  refine lv_istore hx hb d_Tr_writeNumber_4 hl (Nat.le_of_ble_eq_true rfl) rfl (fun ls hl => ?_)
  have hl : lv_has ls 6 [(4, .int o1), (0, .int x0), (1, .int x1), (2, .int x2), (3, .ref (a0 0))] := hl
  refine lv_aload_n hx hb d_Tr_writeNumber_6 rfl (lv_at hl 4 rfl) ?_
  refine lv_iload_n hx hb d_Tr_writeNumber_7 rfl (lv_at hl 1 rfl) ?_
  obtain ⟨o3, ho4, h⟩ := bd_s h
  refine cl_v (W1 := fun (_ : Unit) => w_Bs g a0 o3 ++ (rest)) (va_runV (As := [.int x0]) (rest := []) ⟨hx, hb, hml, hown, ht⟩ (c_Bs_append (l := l) (D := D) (A := A) (g := g) (rest := rest) (a0 := a0) ho4) (cwV 1 ht (gd_V m_555 m_267 m_268 m_2 m_269) rfl rfl rfl (by decide +kernel) ⟨(Nat.le_of_ble_eq_true rfl), (Nat.le_of_ble_eq_true rfl)⟩) (prV (ci := 0) (q0 := 0) hKK hI (List.Perm.refl _) rfl rfl rfl) rfl rfl hl.1 rfl (lv_room (Nat.le_of_ble_eq_true rfl)) d_Tr_writeNumber_8 ⟨(Nat.le_of_ble_eq_true rfl), (Nat.le_of_ble_eq_true rfl)⟩) hS (fun _ => ((List.Perm.refl _)).symm) (fun _ H locs hI hS => ?_)
  have hI : Iw D A (w_Bs g a0 o3 ++ (rest)) H := hI
  refine lv_iload_n hx hb d_Tr_writeNumber_11 rfl (lv_at hl 3 rfl) ?_
  refine lv_if_ne (tgt := 20) hx hb d_Tr_writeNumber_12 (by decide) (fun hc => ?_) (fun hc => ?_)
  · have h := it_f h hc
    exact t_Tr_writeNumber_20 X (lv_sub hl [2, 4, 0] rfl) hI hS h
  · have h := it_t h hc
    exact t_Tr_writeNumber_15 X (lv_sub hl [2, 4, 0] rfl) hI hS h
set_option maxRecDepth 100000 in
set_option maxHeartbeats 4000000 in
theorem c_Tr_writeNumber {l : Launch} {D : va_G} {A : Nat → Prop} {g : Nat → ClassId} {rest : va_W} {a0 : Nat → Nat} {s0 : S_Bs} {x0 : Int32} {x1 : Int32} {x2 : Int32} {out : S_Bs} (h : F_Tr_writeNumber s0 x0 x1 x2 = some out) : Met l y_Tr_writeNumber ws_Tr_writeNumber { frames := 1, cells := 0, slots := 0, locals := 22 } (PcW D A g [.int x0, .int x1, .int x2, .ref (a0 0)] (w_Bs g a0 s0 ++ (rest))) (QcV D A g (fun (_ : Unit) => w_Bs g a0 out ++ (rest))) 0 0 A := by
  refine Met.ofW (cc := prog_9_method_18_code) (maxL := 6) (ret := none) (by decide) rfl ?_
  intro p e s m args below meth c s₁ B hml hv
  obtain ⟨rfl, hI, hK⟩ := hv
  have hl := lv_entry [.int x0, .int x1, .int x2, .ref (a0 0)] (n := 6) (Nat.le_of_ble_eq_true rfl)
  rw [lg_entry_eq]
  generalize (lg_sl [.int x0, .int x1, .int x2, .ref (a0 0)] ++ List.replicate (6 - (lg_sl [.int x0, .int x1, .int x2, .ref (a0 0)]).length) Slot.unset).toArray = ls at hl ⊢
  have hl : lv_has ls 6 [(0, .int x0), (1, .int x1), (2, .int x2), (3, .ref (a0 0))] := hl
  exact t_Tr_writeNumber_0 ⟨B.exec, B.bytes, hml, findClass_of_methodNamed B.named, atoms_spec (ws := ws_Tr_writeNumber) B.pre, B.returns, B.notSynchronized, hK⟩ (lv_sub hl [0, 1, 2, 3] rfl) hI va_S.rf h
def ws_Tr_character : List Cond := .code y_Tr_character prog_9_method_11_code 4 (some .int) :: TB
def B_Tr_character_47 (s0 : S_Tr) (y0 : Int32) : Option Int32 :=
  some y0
def B_Tr_character_46 (s0 : S_Tr) : Option Int32 :=
  (B_Tr_character_47 s0 ((-1) : Int32))
def B_Tr_character_37 (s0 : S_Tr) (x3 : Int32) : Option Int32 :=
  (if (x3 < 0 ∨ 200 ≤ x3.toNatClampNeg) then none else (B_Tr_character_47 s0 ((Tr_characters s0) x3.toNatClampNeg)))
def B_Tr_character_29 (s0 : S_Tr) (x3 : Int32) : Option Int32 :=
  (if (Tr_characterCount s0) ≤ x3 then (B_Tr_character_46 s0) else (B_Tr_character_37 s0 x3))
def B_Tr_character_24 (s0 : S_Tr) (y0 : Int32) : Option Int32 :=
  (if y0 < 0 then (B_Tr_character_46 s0) else (B_Tr_character_29 s0 y0))
def B_Tr_character_23 (s0 : S_Tr) : Option Int32 :=
  (B_Tr_character_24 s0 ((-1) : Int32))
def B_Tr_character_12 (s0 : S_Tr) (x1 : Int32) (x2 : Int32) : Option Int32 :=
  (if (x1 < 0 ∨ 101 ≤ x1.toNatClampNeg) then none else (B_Tr_character_24 s0 (((Tr_values s0) x1.toNatClampNeg) + x2)))
def B_Tr_character_4 (s0 : S_Tr) (x1 : Int32) (x2 : Int32) : Option Int32 :=
  (if (Tr_count s0) ≤ x1 then (B_Tr_character_23 s0) else (B_Tr_character_12 s0 x1 x2))
def B_Tr_character_0 (s0 : S_Tr) (x1 : Int32) (x2 : Int32) : Option Int32 :=
  (if x1 < 0 then (B_Tr_character_23 s0) else (B_Tr_character_4 s0 x1 x2))
def F_Tr_character (s0 : S_Tr) (x1 : Int32) (x2 : Int32) : Option Int32 := B_Tr_character_0 s0 x1 x2
set_option maxRecDepth 100000 in
set_option maxHeartbeats 4000000 in
theorem t_Tr_character_47 {p : Program} {l : Launch} {e : Env} {s : State} {m : MethodId} {args : Array Value} {below : List Frame} {meth : Method} {c : Code} {D : va_G} {A : Nat → Prop} {g : Nat → ClassId} {rest : va_W} {a0 : Nat → Nat} {ls : Array Slot} {H : Heap} {locs : List Loc} {s0 : S_Tr} {y0 : Int32} {out : Int32} (X : Cx p s m args meth c prog_9_method_11_code 4 ws_Tr_character R_Tr (some .int) D g) (hl : lv_has ls 4 []) (hI : Iw D A (w_Tr g a0 s0 ++ (rest)) H) (hS : va_S A s.heap H locs) (h : B_Tr_character_47  s0 y0 = some out) : W p l e (headSpec ws_Tr_character { frames := 0, cells := 0, slots := 0, locals := 0 }).room s m args below meth c H locs 0 0 (MQ below (QcI D A g out (fun (_ : Unit) => w_Tr g a0 s0 ++ (rest))) args s 0 0 A) (F0 m 47 ls [.int y0]) := by
  have X1 := X
  obtain ⟨hx, hb, hml, hown, hts, hr, hlocks, hKK⟩ := X1
  have ht : ∀ w ∈ TB, w.before args s = true := fun w h => hts w (List.mem_cons_of_mem _ h)
  have hK := hKK.1
  unfold B_Tr_character_47 at h
  have h9 := Option.some.inj h
  subst h9
  exact W.iret (v := y0) hx hb hr (fun t ht hW => ⟨⟨_, (), rfl, rfl, ⟨by rw [ht]; exact hI, hKK.moved hW⟩⟩, hS.F ht⟩) hS.2.2 d_Tr_character_47
set_option maxRecDepth 100000 in
set_option maxHeartbeats 4000000 in
theorem t_Tr_character_46 {p : Program} {l : Launch} {e : Env} {s : State} {m : MethodId} {args : Array Value} {below : List Frame} {meth : Method} {c : Code} {D : va_G} {A : Nat → Prop} {g : Nat → ClassId} {rest : va_W} {a0 : Nat → Nat} {ls : Array Slot} {H : Heap} {locs : List Loc} {s0 : S_Tr} {out : Int32} (X : Cx p s m args meth c prog_9_method_11_code 4 ws_Tr_character R_Tr (some .int) D g) (hl : lv_has ls 4 []) (hI : Iw D A (w_Tr g a0 s0 ++ (rest)) H) (hS : va_S A s.heap H locs) (h : B_Tr_character_46  s0 = some out) : W p l e (headSpec ws_Tr_character { frames := 0, cells := 0, slots := 0, locals := 0 }).room s m args below meth c H locs 0 0 (MQ below (QcI D A g out (fun (_ : Unit) => w_Tr g a0 s0 ++ (rest))) args s 0 0 A) (F0 m 46 ls []) := by
  have X1 := X
  obtain ⟨hx, hb, hml, hown, hts, hr, hlocks, hKK⟩ := X1
  have ht : ∀ w ∈ TB, w.before args s = true := fun w h => hts w (List.mem_cons_of_mem _ h)
  have hK := hKK.1
  unfold B_Tr_character_46 at h
  refine lv_iconst (v := (-1)) hx hb d_Tr_character_46 (by decide) ?_
  exact t_Tr_character_47 X (lv_sub hl [] rfl) hI hS h
set_option maxRecDepth 100000 in
set_option maxHeartbeats 4000000 in
theorem t_Tr_character_37 {p : Program} {l : Launch} {e : Env} {s : State} {m : MethodId} {args : Array Value} {below : List Frame} {meth : Method} {c : Code} {D : va_G} {A : Nat → Prop} {g : Nat → ClassId} {rest : va_W} {a0 : Nat → Nat} {ls : Array Slot} {H : Heap} {locs : List Loc} {s0 : S_Tr} {x3 : Int32} {out : Int32} (X : Cx p s m args meth c prog_9_method_11_code 4 ws_Tr_character R_Tr (some .int) D g) (hl : lv_has ls 4 [(0, .ref (a0 0)), (3, .int x3)]) (hI : Iw D A (w_Tr g a0 s0 ++ (rest)) H) (hS : va_S A s.heap H locs) (h : B_Tr_character_37  s0 x3 = some out) : W p l e (headSpec ws_Tr_character { frames := 0, cells := 0, slots := 0, locals := 0 }).room s m args below meth c H locs 0 0 (MQ below (QcI D A g out (fun (_ : Unit) => w_Tr g a0 s0 ++ (rest))) args s 0 0 A) (F0 m 37 ls []) := by
  have X1 := X
  obtain ⟨hx, hb, hml, hown, hts, hr, hlocks, hKK⟩ := X1
  have ht : ∀ w ∈ TB, w.before args s = true := fun w h => hts w (List.mem_cons_of_mem _ h)
  have hK := hKK.1
  unfold B_Tr_character_37 at h
  refine lv_aload_n hx hb d_Tr_character_37 rfl (lv_at hl 0 rfl) ?_
  refine va_get (D := D) (ci := 7) (v := .ref (a0 5)) (C := R_Tr) (T := T_Tr) (N := 7) hx hb ht in_Tr hown hK hI.1 0 rfl rfl 4 (by decide) (ht _ m_138) (fun _ h9 => h9) rfl d_Tr_character_38 ?_
  refine lv_iload_n hx hb d_Tr_character_41 rfl (lv_at hl 1 rfl) ?_
  by_cases hc1 : (x3 < 0 ∨ 200 ≤ x3.toNatClampNeg)
  · exact no_s (it_t h hc1)
  have h := it_f h hc1
  refine va_iald hx hb hK hI.1 5 0 rfl rfl hc1 d_Tr_character_42 ?_
  refine lv_goto (tgt := 47) hx hb d_Tr_character_43 (by decide) ?_
  exact t_Tr_character_47 X (lv_sub hl [] rfl) hI hS h
set_option maxRecDepth 100000 in
set_option maxHeartbeats 4000000 in
theorem t_Tr_character_29 {p : Program} {l : Launch} {e : Env} {s : State} {m : MethodId} {args : Array Value} {below : List Frame} {meth : Method} {c : Code} {D : va_G} {A : Nat → Prop} {g : Nat → ClassId} {rest : va_W} {a0 : Nat → Nat} {ls : Array Slot} {H : Heap} {locs : List Loc} {s0 : S_Tr} {x3 : Int32} {out : Int32} (X : Cx p s m args meth c prog_9_method_11_code 4 ws_Tr_character R_Tr (some .int) D g) (hl : lv_has ls 4 [(0, .ref (a0 0)), (3, .int x3)]) (hI : Iw D A (w_Tr g a0 s0 ++ (rest)) H) (hS : va_S A s.heap H locs) (h : B_Tr_character_29  s0 x3 = some out) : W p l e (headSpec ws_Tr_character { frames := 0, cells := 0, slots := 0, locals := 0 }).room s m args below meth c H locs 0 0 (MQ below (QcI D A g out (fun (_ : Unit) => w_Tr g a0 s0 ++ (rest))) args s 0 0 A) (F0 m 29 ls []) := by
  have X1 := X
  obtain ⟨hx, hb, hml, hown, hts, hr, hlocks, hKK⟩ := X1
  have ht : ∀ w ∈ TB, w.before args s = true := fun w h => hts w (List.mem_cons_of_mem _ h)
  have hK := hKK.1
  unfold B_Tr_character_29 at h
  refine lv_iload_n hx hb d_Tr_character_29 rfl (lv_at hl 1 rfl) ?_
  refine lv_aload_n hx hb d_Tr_character_30 rfl (lv_at hl 0 rfl) ?_
  refine va_get (D := D) (ci := 7) (v := .int (Tr_characterCount s0)) (C := R_Tr) (T := T_Tr) (N := 7) hx hb ht in_Tr hown hK hI.1 0 rfl rfl 6 (by decide) (ht _ m_140) (fun _ h9 => h9) rfl d_Tr_character_31 ?_
  refine lv_icmp_ge (tgt := 46) hx hb d_Tr_character_34 (by decide) (fun hc => ?_) (fun hc => ?_)
  · have h := it_t h hc
    exact t_Tr_character_46 X (lv_sub hl [] rfl) hI hS h
  · have h := it_f h hc
    exact t_Tr_character_37 X (lv_sub hl [0, 1] rfl) hI hS h
set_option maxRecDepth 100000 in
set_option maxHeartbeats 4000000 in
theorem t_Tr_character_24 {p : Program} {l : Launch} {e : Env} {s : State} {m : MethodId} {args : Array Value} {below : List Frame} {meth : Method} {c : Code} {D : va_G} {A : Nat → Prop} {g : Nat → ClassId} {rest : va_W} {a0 : Nat → Nat} {ls : Array Slot} {H : Heap} {locs : List Loc} {s0 : S_Tr} {y0 : Int32} {out : Int32} (X : Cx p s m args meth c prog_9_method_11_code 4 ws_Tr_character R_Tr (some .int) D g) (hl : lv_has ls 4 [(0, .ref (a0 0))]) (hI : Iw D A (w_Tr g a0 s0 ++ (rest)) H) (hS : va_S A s.heap H locs) (h : B_Tr_character_24  s0 y0 = some out) : W p l e (headSpec ws_Tr_character { frames := 0, cells := 0, slots := 0, locals := 0 }).room s m args below meth c H locs 0 0 (MQ below (QcI D A g out (fun (_ : Unit) => w_Tr g a0 s0 ++ (rest))) args s 0 0 A) (F0 m 24 ls [.int y0]) := by
  have X1 := X
  obtain ⟨hx, hb, hml, hown, hts, hr, hlocks, hKK⟩ := X1
  have ht : ∀ w ∈ TB, w.before args s = true := fun w h => hts w (List.mem_cons_of_mem _ h)
  have hK := hKK.1
  unfold B_Tr_character_24 at h
  refine lv_istore_n hx hb d_Tr_character_24 rfl hl (Nat.le_of_ble_eq_true rfl) rfl (fun ls hl => ?_)
  have hl : lv_has ls 4 [(3, .int y0), (0, .ref (a0 0))] := hl
  refine lv_iload_n hx hb d_Tr_character_25 rfl (lv_at hl 0 rfl) ?_
  refine lv_if_lt (tgt := 46) hx hb d_Tr_character_26 (by decide) (fun hc => ?_) (fun hc => ?_)
  · have h := it_t h hc
    exact t_Tr_character_46 X (lv_sub hl [] rfl) hI hS h
  · have h := it_f h hc
    exact t_Tr_character_29 X (lv_sub hl [1, 0] rfl) hI hS h
set_option maxRecDepth 100000 in
set_option maxHeartbeats 4000000 in
theorem t_Tr_character_23 {p : Program} {l : Launch} {e : Env} {s : State} {m : MethodId} {args : Array Value} {below : List Frame} {meth : Method} {c : Code} {D : va_G} {A : Nat → Prop} {g : Nat → ClassId} {rest : va_W} {a0 : Nat → Nat} {ls : Array Slot} {H : Heap} {locs : List Loc} {s0 : S_Tr} {out : Int32} (X : Cx p s m args meth c prog_9_method_11_code 4 ws_Tr_character R_Tr (some .int) D g) (hl : lv_has ls 4 [(0, .ref (a0 0))]) (hI : Iw D A (w_Tr g a0 s0 ++ (rest)) H) (hS : va_S A s.heap H locs) (h : B_Tr_character_23  s0 = some out) : W p l e (headSpec ws_Tr_character { frames := 0, cells := 0, slots := 0, locals := 0 }).room s m args below meth c H locs 0 0 (MQ below (QcI D A g out (fun (_ : Unit) => w_Tr g a0 s0 ++ (rest))) args s 0 0 A) (F0 m 23 ls []) := by
  have X1 := X
  obtain ⟨hx, hb, hml, hown, hts, hr, hlocks, hKK⟩ := X1
  have ht : ∀ w ∈ TB, w.before args s = true := fun w h => hts w (List.mem_cons_of_mem _ h)
  have hK := hKK.1
  unfold B_Tr_character_23 at h
  refine lv_iconst (v := (-1)) hx hb d_Tr_character_23 (by decide) ?_
  exact t_Tr_character_24 X (lv_sub hl [0] rfl) hI hS h
set_option maxRecDepth 100000 in
set_option maxHeartbeats 4000000 in
theorem t_Tr_character_12 {p : Program} {l : Launch} {e : Env} {s : State} {m : MethodId} {args : Array Value} {below : List Frame} {meth : Method} {c : Code} {D : va_G} {A : Nat → Prop} {g : Nat → ClassId} {rest : va_W} {a0 : Nat → Nat} {ls : Array Slot} {H : Heap} {locs : List Loc} {s0 : S_Tr} {x1 : Int32} {x2 : Int32} {out : Int32} (X : Cx p s m args meth c prog_9_method_11_code 4 ws_Tr_character R_Tr (some .int) D g) (hl : lv_has ls 4 [(0, .ref (a0 0)), (1, .int x1), (2, .int x2)]) (hI : Iw D A (w_Tr g a0 s0 ++ (rest)) H) (hS : va_S A s.heap H locs) (h : B_Tr_character_12  s0 x1 x2 = some out) : W p l e (headSpec ws_Tr_character { frames := 0, cells := 0, slots := 0, locals := 0 }).room s m args below meth c H locs 0 0 (MQ below (QcI D A g out (fun (_ : Unit) => w_Tr g a0 s0 ++ (rest))) args s 0 0 A) (F0 m 12 ls []) := by
  have X1 := X
  obtain ⟨hx, hb, hml, hown, hts, hr, hlocks, hKK⟩ := X1
  have ht : ∀ w ∈ TB, w.before args s = true := fun w h => hts w (List.mem_cons_of_mem _ h)
  have hK := hKK.1
  unfold B_Tr_character_12 at h
  refine lv_aload_n hx hb d_Tr_character_12 rfl (lv_at hl 0 rfl) ?_
  refine va_get (D := D) (ci := 7) (v := .ref (a0 3)) (C := R_Tr) (T := T_Tr) (N := 7) hx hb ht in_Tr hown hK hI.1 0 rfl rfl 2 (by decide) (ht _ m_136) (fun _ h9 => h9) rfl d_Tr_character_13 ?_
  refine lv_iload_n hx hb d_Tr_character_16 rfl (lv_at hl 1 rfl) ?_
  by_cases hc1 : (x1 < 0 ∨ 101 ≤ x1.toNatClampNeg)
  · exact no_s (it_t h hc1)
  have h := it_f h hc1
  refine va_iald hx hb hK hI.1 3 0 rfl rfl hc1 d_Tr_character_17 ?_
  refine lv_iload_n hx hb d_Tr_character_18 rfl (lv_at hl 2 rfl) ?_
  refine lv_iadd hx hb d_Tr_character_19 ?_
  refine lv_goto (tgt := 24) hx hb d_Tr_character_20 (by decide) ?_
  exact t_Tr_character_24 X (lv_sub hl [0] rfl) hI hS h
set_option maxRecDepth 100000 in
set_option maxHeartbeats 4000000 in
theorem t_Tr_character_4 {p : Program} {l : Launch} {e : Env} {s : State} {m : MethodId} {args : Array Value} {below : List Frame} {meth : Method} {c : Code} {D : va_G} {A : Nat → Prop} {g : Nat → ClassId} {rest : va_W} {a0 : Nat → Nat} {ls : Array Slot} {H : Heap} {locs : List Loc} {s0 : S_Tr} {x1 : Int32} {x2 : Int32} {out : Int32} (X : Cx p s m args meth c prog_9_method_11_code 4 ws_Tr_character R_Tr (some .int) D g) (hl : lv_has ls 4 [(0, .ref (a0 0)), (1, .int x1), (2, .int x2)]) (hI : Iw D A (w_Tr g a0 s0 ++ (rest)) H) (hS : va_S A s.heap H locs) (h : B_Tr_character_4  s0 x1 x2 = some out) : W p l e (headSpec ws_Tr_character { frames := 0, cells := 0, slots := 0, locals := 0 }).room s m args below meth c H locs 0 0 (MQ below (QcI D A g out (fun (_ : Unit) => w_Tr g a0 s0 ++ (rest))) args s 0 0 A) (F0 m 4 ls []) := by
  have X1 := X
  obtain ⟨hx, hb, hml, hown, hts, hr, hlocks, hKK⟩ := X1
  have ht : ∀ w ∈ TB, w.before args s = true := fun w h => hts w (List.mem_cons_of_mem _ h)
  have hK := hKK.1
  unfold B_Tr_character_4 at h
  refine lv_iload_n hx hb d_Tr_character_4 rfl (lv_at hl 1 rfl) ?_
  refine lv_aload_n hx hb d_Tr_character_5 rfl (lv_at hl 0 rfl) ?_
  refine va_get (D := D) (ci := 7) (v := .int (Tr_count s0)) (C := R_Tr) (T := T_Tr) (N := 7) hx hb ht in_Tr hown hK hI.1 0 rfl rfl 5 (by decide) (ht _ m_139) (fun _ h9 => h9) rfl d_Tr_character_6 ?_
  refine lv_icmp_ge (tgt := 23) hx hb d_Tr_character_9 (by decide) (fun hc => ?_) (fun hc => ?_)
  · have h := it_t h hc
    exact t_Tr_character_23 X (lv_sub hl [0] rfl) hI hS h
  · have h := it_f h hc
    exact t_Tr_character_12 X (lv_sub hl [0, 1, 2] rfl) hI hS h
set_option maxRecDepth 100000 in
set_option maxHeartbeats 4000000 in
theorem t_Tr_character_0 {p : Program} {l : Launch} {e : Env} {s : State} {m : MethodId} {args : Array Value} {below : List Frame} {meth : Method} {c : Code} {D : va_G} {A : Nat → Prop} {g : Nat → ClassId} {rest : va_W} {a0 : Nat → Nat} {ls : Array Slot} {H : Heap} {locs : List Loc} {s0 : S_Tr} {x1 : Int32} {x2 : Int32} {out : Int32} (X : Cx p s m args meth c prog_9_method_11_code 4 ws_Tr_character R_Tr (some .int) D g) (hl : lv_has ls 4 [(0, .ref (a0 0)), (1, .int x1), (2, .int x2)]) (hI : Iw D A (w_Tr g a0 s0 ++ (rest)) H) (hS : va_S A s.heap H locs) (h : B_Tr_character_0  s0 x1 x2 = some out) : W p l e (headSpec ws_Tr_character { frames := 0, cells := 0, slots := 0, locals := 0 }).room s m args below meth c H locs 0 0 (MQ below (QcI D A g out (fun (_ : Unit) => w_Tr g a0 s0 ++ (rest))) args s 0 0 A) (F0 m 0 ls []) := by
  have X1 := X
  obtain ⟨hx, hb, hml, hown, hts, hr, hlocks, hKK⟩ := X1
  have ht : ∀ w ∈ TB, w.before args s = true := fun w h => hts w (List.mem_cons_of_mem _ h)
  have hK := hKK.1
  unfold B_Tr_character_0 at h
  refine lv_iload_n hx hb d_Tr_character_0 rfl (lv_at hl 1 rfl) ?_
  refine lv_if_lt (tgt := 23) hx hb d_Tr_character_1 (by decide) (fun hc => ?_) (fun hc => ?_)
  · have h := it_t h hc
    exact t_Tr_character_23 X (lv_sub hl [0] rfl) hI hS h
  · have h := it_f h hc
    exact t_Tr_character_4 X (lv_sub hl [0, 1, 2] rfl) hI hS h
set_option maxRecDepth 100000 in
set_option maxHeartbeats 4000000 in
theorem c_Tr_character {l : Launch} {D : va_G} {A : Nat → Prop} {g : Nat → ClassId} {rest : va_W} {a0 : Nat → Nat} {s0 : S_Tr} {x1 : Int32} {x2 : Int32} {out : Int32} (h : F_Tr_character s0 x1 x2 = some out) : Met l y_Tr_character ws_Tr_character { frames := 0, cells := 0, slots := 0, locals := 0 } (PcW D A g [.ref (a0 0), .int x1, .int x2] (w_Tr g a0 s0 ++ (rest))) (QcI D A g out (fun (_ : Unit) => w_Tr g a0 s0 ++ (rest))) 0 0 A := by
  refine Met.ofW (cc := prog_9_method_11_code) (maxL := 4) (ret := (some .int)) (by decide) rfl ?_
  intro p e s m args below meth c s₁ B hml hv
  obtain ⟨rfl, hI, hK⟩ := hv
  have hl := lv_entry [.ref (a0 0), .int x1, .int x2] (n := 4) (Nat.le_of_ble_eq_true rfl)
  rw [lg_entry_eq]
  generalize (lg_sl [.ref (a0 0), .int x1, .int x2] ++ List.replicate (4 - (lg_sl [.ref (a0 0), .int x1, .int x2]).length) Slot.unset).toArray = ls at hl ⊢
  have hl : lv_has ls 4 [(0, .ref (a0 0)), (1, .int x1), (2, .int x2)] := hl
  exact t_Tr_character_0 ⟨B.exec, B.bytes, hml, findClass_of_methodNamed B.named, atoms_spec (ws := ws_Tr_character) B.pre, B.returns, B.notSynchronized, hK⟩ (lv_sub hl [0, 1, 2] rfl) hI va_S.rf h
def ws_Tr_valueLength : List Cond := .code y_Tr_valueLength prog_9_method_17_code 6 (some .int) :: TB
def B_Tr_valueLength_94 (s0 : S_Tr) (x3 : Int32) : Option Int32 :=
  some x3
def B_Tr_valueLength_86 (k5 : Int32 × Int32 × Int32 × Int32 → Option Int32) (s0 : S_Tr) (x1 : Int32) (x2 : Int32) (x4 : Int32) (y0 : Int32) (y1 : Int32) : Option Int32 :=
  (k5 (x1, x2, (y1 + y0), (x4 + 1)))
def B_Tr_valueLength_79 (k5 : Int32 × Int32 × Int32 × Int32 → Option Int32) (s0 : S_Tr) (x1 : Int32) (x2 : Int32) (x4 : Int32) (y0 : Int32) : Option Int32 :=
  (if (x4 < 0 ∨ 101 ≤ x4.toNatClampNeg) then none else (B_Tr_valueLength_86 k5 s0 x1 x2 x4 ((Tr_lengths s0) x4.toNatClampNeg) y0))
def B_Tr_valueLength_59 (k5 : Int32 × Int32 × Int32 × Int32 → Option Int32) (s0 : S_Tr) (x1 : Int32) (x2 : Int32) (x4 : Int32) (y0 : Int32) : Option Int32 :=
  (if (x4 < 0 ∨ 101 ≤ x4.toNatClampNeg) then none else (if (x4 < 0 ∨ 101 ≤ x4.toNatClampNeg) then none else (B_Tr_valueLength_86 k5 s0 x1 x2 x4 (((Tr_lengths s0) x4.toNatClampNeg) + (((Tr_lengths s0) x4.toNatClampNeg) - ((Tr_lengths s0) x4.toNatClampNeg) / (2 : Int32) * (2 : Int32))) y0)))
def B_Tr_valueLength_52 (k5 : Int32 × Int32 × Int32 × Int32 → Option Int32) (s0 : S_Tr) (x1 : Int32) (x2 : Int32) (x3 : Int32) (x4 : Int32) (x5 : Int32) : Option Int32 :=
  (if x5 = (2 : Int32) then (B_Tr_valueLength_59 k5 s0 x1 x2 x4 x3) else (B_Tr_valueLength_79 k5 s0 x1 x2 x4 x3))
def B_Tr_valueLength_50 (k5 : Int32 × Int32 × Int32 × Int32 → Option Int32) (s0 : S_Tr) (x1 : Int32) (x2 : Int32) (x4 : Int32) (x5 : Int32) (y0 : Int32) (y1 : Int32) : Option Int32 :=
  (B_Tr_valueLength_52 k5 s0 x1 x2 (y1 + y0) x4 x5)
def B_Tr_valueLength_49 (k5 : Int32 × Int32 × Int32 × Int32 → Option Int32) (s0 : S_Tr) (x1 : Int32) (x2 : Int32) (x4 : Int32) (x5 : Int32) (y0 : Int32) : Option Int32 :=
  (B_Tr_valueLength_50 k5 s0 x1 x2 x4 x5 (2 : Int32) y0)
def B_Tr_valueLength_45 (k5 : Int32 × Int32 × Int32 × Int32 → Option Int32) (s0 : S_Tr) (x1 : Int32) (x2 : Int32) (x4 : Int32) (x5 : Int32) (y0 : Int32) : Option Int32 :=
  (B_Tr_valueLength_50 k5 s0 x1 x2 x4 x5 (3 : Int32) y0)
def B_Tr_valueLength_39 (k5 : Int32 × Int32 × Int32 × Int32 → Option Int32) (s0 : S_Tr) (x1 : Int32) (x2 : Int32) (x4 : Int32) (x5 : Int32) (y0 : Int32) : Option Int32 :=
  (if x5 = (4 : Int32) then (B_Tr_valueLength_49 k5 s0 x1 x2 x4 x5 y0) else (B_Tr_valueLength_45 k5 s0 x1 x2 x4 x5 y0))
def B_Tr_valueLength_34 (k5 : Int32 × Int32 × Int32 × Int32 → Option Int32) (s0 : S_Tr) (x1 : Int32) (x2 : Int32) (x3 : Int32) (x4 : Int32) (x5 : Int32) : Option Int32 :=
  (if x2 = 0 then (B_Tr_valueLength_39 k5 s0 x1 x2 x4 x5 x3) else (B_Tr_valueLength_49 k5 s0 x1 x2 x4 x5 x3))
def B_Tr_valueLength_16 (k5 : Int32 × Int32 × Int32 × Int32 → Option Int32) (s0 : S_Tr) (x1 : Int32) (x2 : Int32) (x3 : Int32) (x4 : Int32) : Option Int32 :=
  (if (x4 < 0 ∨ 101 ≤ x4.toNatClampNeg) then none else ((F_Rn_kindOf ((Tr_tags s0) x4.toNatClampNeg)).bind fun o2 => (if x4 ≤ x1 then (B_Tr_valueLength_52 k5 s0 x1 x2 x3 x4 o2) else (B_Tr_valueLength_34 k5 s0 x1 x2 x3 x4 o2))))
def B_Tr_valueLength_5 (k5 : Int32 × Int32 × Int32 × Int32 → Option Int32) (s0 : S_Tr) (x1 : Int32) (x2 : Int32) (x3 : Int32) (x4 : Int32) : Option Int32 :=
  (if (x1 < 0 ∨ 101 ≤ x1.toNatClampNeg) then none else (if ((Tr_behind s0) x1.toNatClampNeg) ≤ x4 then (B_Tr_valueLength_94 s0 x3) else (B_Tr_valueLength_16 k5 s0 x1 x2 x3 x4)))
def L_Tr_valueLength_5 (s0 : S_Tr) (v : Int32 × Int32 × Int32 × Int32) : Option Int32 := lp (fun k5 v => B_Tr_valueLength_5  k5 s0 v.1 v.2.1 v.2.2.1 v.2.2.2) FU v
def B_Tr_valueLength_0 (s0 : S_Tr) (x1 : Int32) (x2 : Int32) : Option Int32 :=
  (L_Tr_valueLength_5 s0 (x1, x2, (0 : Int32), x1))
def F_Tr_valueLength (s0 : S_Tr) (x1 : Int32) (x2 : Int32) : Option Int32 := B_Tr_valueLength_0 s0 x1 x2
set_option maxRecDepth 100000 in
set_option maxHeartbeats 4000000 in
theorem t_Tr_valueLength_94 {p : Program} {l : Launch} {e : Env} {s : State} {m : MethodId} {args : Array Value} {below : List Frame} {meth : Method} {c : Code} {D : va_G} {A : Nat → Prop} {g : Nat → ClassId} {rest : va_W} {a0 : Nat → Nat} {ls : Array Slot} {H : Heap} {locs : List Loc} {s0 : S_Tr} {x3 : Int32} {out : Int32} (X : Cx p s m args meth c prog_9_method_17_code 6 ws_Tr_valueLength R_Tr (some .int) D g) (hl : lv_has ls 6 [(3, .int x3)]) (hI : Iw D A (w_Tr g a0 s0 ++ (rest)) H) (hS : va_S A s.heap H locs) (h : B_Tr_valueLength_94  s0 x3 = some out) : W p l e (headSpec ws_Tr_valueLength { frames := 1, cells := 0, slots := 0, locals := 20 }).room s m args below meth c H locs 0 0 (MQ below (QcI D A g out (fun (_ : Unit) => w_Tr g a0 s0 ++ (rest))) args s 0 0 A) (F0 m 94 ls []) := by
  have X1 := X
  obtain ⟨hx, hb, hml, hown, hts, hr, hlocks, hKK⟩ := X1
  have ht : ∀ w ∈ TB, w.before args s = true := fun w h => hts w (List.mem_cons_of_mem _ h)
  have hK := hKK.1
  unfold B_Tr_valueLength_94 at h
  refine lv_iload_n hx hb d_Tr_valueLength_94 rfl (lv_at hl 0 rfl) ?_
  have h9 := Option.some.inj h
  subst h9
  exact W.iret (v := x3) hx hb hr (fun t ht hW => ⟨⟨_, (), rfl, rfl, ⟨by rw [ht]; exact hI, hKK.moved hW⟩⟩, hS.F ht⟩) hS.2.2 d_Tr_valueLength_95
set_option maxRecDepth 100000 in
set_option maxHeartbeats 4000000 in
theorem t_Tr_valueLength_86 {p : Program} {l : Launch} {e : Env} {s : State} {m : MethodId} {args : Array Value} {below : List Frame} {meth : Method} {c : Code} {D : va_G} {A : Nat → Prop} {g : Nat → ClassId} {rest : va_W} {a0 : Nat → Nat} {ls : Array Slot} {H : Heap} {locs : List Loc} {k5 : Int32 × Int32 × Int32 × Int32 → Option Int32} {s0 : S_Tr} {x1 : Int32} {x2 : Int32} {x4 : Int32} {y0 : Int32} {y1 : Int32} {out : Int32} (X : Cx p s m args meth c prog_9_method_17_code 6 ws_Tr_valueLength R_Tr (some .int) D g) (hk5 : ∀ (v : Int32 × Int32 × Int32 × Int32) (ls : Array Slot) (H : Heap) (locs : List Loc), lv_has ls 6 [(0, .ref (a0 0)), (1, .int v.1), (2, .int v.2.1), (3, .int v.2.2.1), (4, .int v.2.2.2)] → Iw D A (w_Tr g a0 s0 ++ (rest)) H → va_S A s.heap H locs → k5 v = some out → W p l e (headSpec ws_Tr_valueLength { frames := 1, cells := 0, slots := 0, locals := 20 }).room s m args below meth c H locs 0 0 (MQ below (QcI D A g out (fun (_ : Unit) => w_Tr g a0 s0 ++ (rest))) args s 0 0 A) (F0 m 5 ls [])) (hl : lv_has ls 6 [(0, .ref (a0 0)), (1, .int x1), (2, .int x2), (4, .int x4)]) (hI : Iw D A (w_Tr g a0 s0 ++ (rest)) H) (hS : va_S A s.heap H locs) (h : B_Tr_valueLength_86 k5 s0 x1 x2 x4 y0 y1 = some out) : W p l e (headSpec ws_Tr_valueLength { frames := 1, cells := 0, slots := 0, locals := 20 }).room s m args below meth c H locs 0 0 (MQ below (QcI D A g out (fun (_ : Unit) => w_Tr g a0 s0 ++ (rest))) args s 0 0 A) (F0 m 86 ls [.int y0, .int y1]) := by
  have X1 := X
  obtain ⟨hx, hb, hml, hown, hts, hr, hlocks, hKK⟩ := X1
  have ht : ∀ w ∈ TB, w.before args s = true := fun w h => hts w (List.mem_cons_of_mem _ h)
  have hK := hKK.1
  unfold B_Tr_valueLength_86 at h
  refine lv_iadd hx hb d_Tr_valueLength_86 ?_
  refine lv_istore_n hx hb d_Tr_valueLength_87 rfl hl (Nat.le_of_ble_eq_true rfl) rfl (fun ls hl => ?_)
  have hl : lv_has ls 6 [(3, .int (y1 + y0)), (0, .ref (a0 0)), (1, .int x1), (2, .int x2), (4, .int x4)] := hl
  refine lv_iinc (k := 4) (v := (x4 + 1)) hx hb d_Tr_valueLength_88 hl rfl (congrArg (fun z => x4 + z) (by decide)) (Nat.le_of_ble_eq_true rfl) rfl (fun ls hl => ?_)
  have hl : lv_has ls 6 [(4, .int (x4 + 1)), (3, .int (y1 + y0)), (0, .ref (a0 0)), (1, .int x1), (2, .int x2)] := hl
  refine lv_goto (tgt := 5) hx hb d_Tr_valueLength_91 (by decide) ?_
  exact hk5 (x1, x2, (y1 + y0), (x4 + 1)) _ _ _ (lv_sub hl [2, 3, 4, 1, 0] rfl) hI hS h
set_option maxRecDepth 100000 in
set_option maxHeartbeats 4000000 in
theorem t_Tr_valueLength_79 {p : Program} {l : Launch} {e : Env} {s : State} {m : MethodId} {args : Array Value} {below : List Frame} {meth : Method} {c : Code} {D : va_G} {A : Nat → Prop} {g : Nat → ClassId} {rest : va_W} {a0 : Nat → Nat} {ls : Array Slot} {H : Heap} {locs : List Loc} {k5 : Int32 × Int32 × Int32 × Int32 → Option Int32} {s0 : S_Tr} {x1 : Int32} {x2 : Int32} {x4 : Int32} {y0 : Int32} {out : Int32} (X : Cx p s m args meth c prog_9_method_17_code 6 ws_Tr_valueLength R_Tr (some .int) D g) (hk5 : ∀ (v : Int32 × Int32 × Int32 × Int32) (ls : Array Slot) (H : Heap) (locs : List Loc), lv_has ls 6 [(0, .ref (a0 0)), (1, .int v.1), (2, .int v.2.1), (3, .int v.2.2.1), (4, .int v.2.2.2)] → Iw D A (w_Tr g a0 s0 ++ (rest)) H → va_S A s.heap H locs → k5 v = some out → W p l e (headSpec ws_Tr_valueLength { frames := 1, cells := 0, slots := 0, locals := 20 }).room s m args below meth c H locs 0 0 (MQ below (QcI D A g out (fun (_ : Unit) => w_Tr g a0 s0 ++ (rest))) args s 0 0 A) (F0 m 5 ls [])) (hl : lv_has ls 6 [(0, .ref (a0 0)), (1, .int x1), (2, .int x2), (4, .int x4)]) (hI : Iw D A (w_Tr g a0 s0 ++ (rest)) H) (hS : va_S A s.heap H locs) (h : B_Tr_valueLength_79 k5 s0 x1 x2 x4 y0 = some out) : W p l e (headSpec ws_Tr_valueLength { frames := 1, cells := 0, slots := 0, locals := 20 }).room s m args below meth c H locs 0 0 (MQ below (QcI D A g out (fun (_ : Unit) => w_Tr g a0 s0 ++ (rest))) args s 0 0 A) (F0 m 79 ls [.int y0]) := by
  have X1 := X
  obtain ⟨hx, hb, hml, hown, hts, hr, hlocks, hKK⟩ := X1
  have ht : ∀ w ∈ TB, w.before args s = true := fun w h => hts w (List.mem_cons_of_mem _ h)
  have hK := hKK.1
  unfold B_Tr_valueLength_79 at h
  refine lv_aload_n hx hb d_Tr_valueLength_79 rfl (lv_at hl 0 rfl) ?_
  refine va_get (D := D) (ci := 7) (v := .ref (a0 4)) (C := R_Tr) (T := T_Tr) (N := 7) hx hb ht in_Tr hown hK hI.1 0 rfl rfl 3 (by decide) (ht _ m_137) (fun _ h9 => h9) rfl d_Tr_valueLength_80 ?_
  refine lv_iload hx hb d_Tr_valueLength_83 (lv_at hl 3 rfl) ?_
  by_cases hc1 : (x4 < 0 ∨ 101 ≤ x4.toNatClampNeg)
  · exact no_s (it_t h hc1)
  have h := it_f h hc1
  refine va_iald hx hb hK hI.1 4 0 rfl rfl hc1 d_Tr_valueLength_85 ?_
  exact t_Tr_valueLength_86 X hk5 (lv_sub hl [0, 1, 2, 3] rfl) hI hS h
set_option maxRecDepth 100000 in
set_option maxHeartbeats 4000000 in
theorem t_Tr_valueLength_59 {p : Program} {l : Launch} {e : Env} {s : State} {m : MethodId} {args : Array Value} {below : List Frame} {meth : Method} {c : Code} {D : va_G} {A : Nat → Prop} {g : Nat → ClassId} {rest : va_W} {a0 : Nat → Nat} {ls : Array Slot} {H : Heap} {locs : List Loc} {k5 : Int32 × Int32 × Int32 × Int32 → Option Int32} {s0 : S_Tr} {x1 : Int32} {x2 : Int32} {x4 : Int32} {y0 : Int32} {out : Int32} (X : Cx p s m args meth c prog_9_method_17_code 6 ws_Tr_valueLength R_Tr (some .int) D g) (hk5 : ∀ (v : Int32 × Int32 × Int32 × Int32) (ls : Array Slot) (H : Heap) (locs : List Loc), lv_has ls 6 [(0, .ref (a0 0)), (1, .int v.1), (2, .int v.2.1), (3, .int v.2.2.1), (4, .int v.2.2.2)] → Iw D A (w_Tr g a0 s0 ++ (rest)) H → va_S A s.heap H locs → k5 v = some out → W p l e (headSpec ws_Tr_valueLength { frames := 1, cells := 0, slots := 0, locals := 20 }).room s m args below meth c H locs 0 0 (MQ below (QcI D A g out (fun (_ : Unit) => w_Tr g a0 s0 ++ (rest))) args s 0 0 A) (F0 m 5 ls [])) (hl : lv_has ls 6 [(0, .ref (a0 0)), (1, .int x1), (2, .int x2), (4, .int x4)]) (hI : Iw D A (w_Tr g a0 s0 ++ (rest)) H) (hS : va_S A s.heap H locs) (h : B_Tr_valueLength_59 k5 s0 x1 x2 x4 y0 = some out) : W p l e (headSpec ws_Tr_valueLength { frames := 1, cells := 0, slots := 0, locals := 20 }).room s m args below meth c H locs 0 0 (MQ below (QcI D A g out (fun (_ : Unit) => w_Tr g a0 s0 ++ (rest))) args s 0 0 A) (F0 m 59 ls [.int y0]) := by
  have X1 := X
  obtain ⟨hx, hb, hml, hown, hts, hr, hlocks, hKK⟩ := X1
  have ht : ∀ w ∈ TB, w.before args s = true := fun w h => hts w (List.mem_cons_of_mem _ h)
  have hK := hKK.1
  unfold B_Tr_valueLength_59 at h
  refine lv_aload_n hx hb d_Tr_valueLength_59 rfl (lv_at hl 0 rfl) ?_
  refine va_get (D := D) (ci := 7) (v := .ref (a0 4)) (C := R_Tr) (T := T_Tr) (N := 7) hx hb ht in_Tr hown hK hI.1 0 rfl rfl 3 (by decide) (ht _ m_137) (fun _ h9 => h9) rfl d_Tr_valueLength_60 ?_
  refine lv_iload hx hb d_Tr_valueLength_63 (lv_at hl 3 rfl) ?_
  by_cases hc1 : (x4 < 0 ∨ 101 ≤ x4.toNatClampNeg)
  · exact no_s (it_t h hc1)
  have h := it_f h hc1
  refine va_iald hx hb hK hI.1 4 0 rfl rfl hc1 d_Tr_valueLength_65 ?_
  refine lv_aload_n hx hb d_Tr_valueLength_66 rfl (lv_at hl 0 rfl) ?_
  refine va_get (D := D) (ci := 7) (v := .ref (a0 4)) (C := R_Tr) (T := T_Tr) (N := 7) hx hb ht in_Tr hown hK hI.1 0 rfl rfl 3 (by decide) (ht _ m_137) (fun _ h9 => h9) rfl d_Tr_valueLength_67 ?_
  refine lv_iload hx hb d_Tr_valueLength_70 (lv_at hl 3 rfl) ?_
  by_cases hc2 : (x4 < 0 ∨ 101 ≤ x4.toNatClampNeg)
  · exact no_s (it_t h hc2)
  have h := it_f h hc2
  refine va_iald hx hb hK hI.1 4 0 rfl rfl hc2 d_Tr_valueLength_72 ?_
  refine lv_iconst (v := 2) hx hb d_Tr_valueLength_73 (by decide) ?_
  refine lv_irem hx hb d_Tr_valueLength_74 (by decide) ?_
  refine lv_iadd hx hb d_Tr_valueLength_75 ?_
  refine lv_goto (tgt := 86) hx hb d_Tr_valueLength_76 (by decide) ?_
  exact t_Tr_valueLength_86 X hk5 (lv_sub hl [0, 1, 2, 3] rfl) hI hS h
set_option maxRecDepth 100000 in
set_option maxHeartbeats 4000000 in
theorem t_Tr_valueLength_52 {p : Program} {l : Launch} {e : Env} {s : State} {m : MethodId} {args : Array Value} {below : List Frame} {meth : Method} {c : Code} {D : va_G} {A : Nat → Prop} {g : Nat → ClassId} {rest : va_W} {a0 : Nat → Nat} {ls : Array Slot} {H : Heap} {locs : List Loc} {k5 : Int32 × Int32 × Int32 × Int32 → Option Int32} {s0 : S_Tr} {x1 : Int32} {x2 : Int32} {x3 : Int32} {x4 : Int32} {x5 : Int32} {out : Int32} (X : Cx p s m args meth c prog_9_method_17_code 6 ws_Tr_valueLength R_Tr (some .int) D g) (hk5 : ∀ (v : Int32 × Int32 × Int32 × Int32) (ls : Array Slot) (H : Heap) (locs : List Loc), lv_has ls 6 [(0, .ref (a0 0)), (1, .int v.1), (2, .int v.2.1), (3, .int v.2.2.1), (4, .int v.2.2.2)] → Iw D A (w_Tr g a0 s0 ++ (rest)) H → va_S A s.heap H locs → k5 v = some out → W p l e (headSpec ws_Tr_valueLength { frames := 1, cells := 0, slots := 0, locals := 20 }).room s m args below meth c H locs 0 0 (MQ below (QcI D A g out (fun (_ : Unit) => w_Tr g a0 s0 ++ (rest))) args s 0 0 A) (F0 m 5 ls [])) (hl : lv_has ls 6 [(0, .ref (a0 0)), (1, .int x1), (2, .int x2), (3, .int x3), (4, .int x4), (5, .int x5)]) (hI : Iw D A (w_Tr g a0 s0 ++ (rest)) H) (hS : va_S A s.heap H locs) (h : B_Tr_valueLength_52 k5 s0 x1 x2 x3 x4 x5 = some out) : W p l e (headSpec ws_Tr_valueLength { frames := 1, cells := 0, slots := 0, locals := 20 }).room s m args below meth c H locs 0 0 (MQ below (QcI D A g out (fun (_ : Unit) => w_Tr g a0 s0 ++ (rest))) args s 0 0 A) (F0 m 52 ls []) := by
  have X1 := X
  obtain ⟨hx, hb, hml, hown, hts, hr, hlocks, hKK⟩ := X1
  have ht : ∀ w ∈ TB, w.before args s = true := fun w h => hts w (List.mem_cons_of_mem _ h)
  have hK := hKK.1
  unfold B_Tr_valueLength_52 at h
  refine lv_iload_n hx hb d_Tr_valueLength_52 rfl (lv_at hl 3 rfl) ?_
  refine lv_iload hx hb d_Tr_valueLength_53 (lv_at hl 5 rfl) ?_
  refine lv_iconst (v := 2) hx hb d_Tr_valueLength_55 (by decide) ?_
  refine lv_icmp_ne (tgt := 79) hx hb d_Tr_valueLength_56 (by decide) (fun hc => ?_) (fun hc => ?_)
  · have h := it_f h hc
    exact t_Tr_valueLength_79 X hk5 (lv_sub hl [0, 1, 2, 4] rfl) hI hS h
  · have h := it_t h hc
    exact t_Tr_valueLength_59 X hk5 (lv_sub hl [0, 1, 2, 4] rfl) hI hS h
set_option maxRecDepth 100000 in
set_option maxHeartbeats 4000000 in
theorem t_Tr_valueLength_50 {p : Program} {l : Launch} {e : Env} {s : State} {m : MethodId} {args : Array Value} {below : List Frame} {meth : Method} {c : Code} {D : va_G} {A : Nat → Prop} {g : Nat → ClassId} {rest : va_W} {a0 : Nat → Nat} {ls : Array Slot} {H : Heap} {locs : List Loc} {k5 : Int32 × Int32 × Int32 × Int32 → Option Int32} {s0 : S_Tr} {x1 : Int32} {x2 : Int32} {x4 : Int32} {x5 : Int32} {y0 : Int32} {y1 : Int32} {out : Int32} (X : Cx p s m args meth c prog_9_method_17_code 6 ws_Tr_valueLength R_Tr (some .int) D g) (hk5 : ∀ (v : Int32 × Int32 × Int32 × Int32) (ls : Array Slot) (H : Heap) (locs : List Loc), lv_has ls 6 [(0, .ref (a0 0)), (1, .int v.1), (2, .int v.2.1), (3, .int v.2.2.1), (4, .int v.2.2.2)] → Iw D A (w_Tr g a0 s0 ++ (rest)) H → va_S A s.heap H locs → k5 v = some out → W p l e (headSpec ws_Tr_valueLength { frames := 1, cells := 0, slots := 0, locals := 20 }).room s m args below meth c H locs 0 0 (MQ below (QcI D A g out (fun (_ : Unit) => w_Tr g a0 s0 ++ (rest))) args s 0 0 A) (F0 m 5 ls [])) (hl : lv_has ls 6 [(0, .ref (a0 0)), (1, .int x1), (2, .int x2), (4, .int x4), (5, .int x5)]) (hI : Iw D A (w_Tr g a0 s0 ++ (rest)) H) (hS : va_S A s.heap H locs) (h : B_Tr_valueLength_50 k5 s0 x1 x2 x4 x5 y0 y1 = some out) : W p l e (headSpec ws_Tr_valueLength { frames := 1, cells := 0, slots := 0, locals := 20 }).room s m args below meth c H locs 0 0 (MQ below (QcI D A g out (fun (_ : Unit) => w_Tr g a0 s0 ++ (rest))) args s 0 0 A) (F0 m 50 ls [.int y0, .int y1]) := by
  have X1 := X
  obtain ⟨hx, hb, hml, hown, hts, hr, hlocks, hKK⟩ := X1
  have ht : ∀ w ∈ TB, w.before args s = true := fun w h => hts w (List.mem_cons_of_mem _ h)
  have hK := hKK.1
  unfold B_Tr_valueLength_50 at h
  refine lv_iadd hx hb d_Tr_valueLength_50 ?_
  refine lv_istore_n hx hb d_Tr_valueLength_51 rfl hl (Nat.le_of_ble_eq_true rfl) rfl (fun ls hl => ?_)
  have hl : lv_has ls 6 [(3, .int (y1 + y0)), (0, .ref (a0 0)), (1, .int x1), (2, .int x2), (4, .int x4), (5, .int x5)] := hl
  exact t_Tr_valueLength_52 X hk5 (lv_sub hl [1, 2, 3, 0, 4, 5] rfl) hI hS h
set_option maxRecDepth 100000 in
set_option maxHeartbeats 4000000 in
theorem t_Tr_valueLength_49 {p : Program} {l : Launch} {e : Env} {s : State} {m : MethodId} {args : Array Value} {below : List Frame} {meth : Method} {c : Code} {D : va_G} {A : Nat → Prop} {g : Nat → ClassId} {rest : va_W} {a0 : Nat → Nat} {ls : Array Slot} {H : Heap} {locs : List Loc} {k5 : Int32 × Int32 × Int32 × Int32 → Option Int32} {s0 : S_Tr} {x1 : Int32} {x2 : Int32} {x4 : Int32} {x5 : Int32} {y0 : Int32} {out : Int32} (X : Cx p s m args meth c prog_9_method_17_code 6 ws_Tr_valueLength R_Tr (some .int) D g) (hk5 : ∀ (v : Int32 × Int32 × Int32 × Int32) (ls : Array Slot) (H : Heap) (locs : List Loc), lv_has ls 6 [(0, .ref (a0 0)), (1, .int v.1), (2, .int v.2.1), (3, .int v.2.2.1), (4, .int v.2.2.2)] → Iw D A (w_Tr g a0 s0 ++ (rest)) H → va_S A s.heap H locs → k5 v = some out → W p l e (headSpec ws_Tr_valueLength { frames := 1, cells := 0, slots := 0, locals := 20 }).room s m args below meth c H locs 0 0 (MQ below (QcI D A g out (fun (_ : Unit) => w_Tr g a0 s0 ++ (rest))) args s 0 0 A) (F0 m 5 ls [])) (hl : lv_has ls 6 [(0, .ref (a0 0)), (1, .int x1), (2, .int x2), (4, .int x4), (5, .int x5)]) (hI : Iw D A (w_Tr g a0 s0 ++ (rest)) H) (hS : va_S A s.heap H locs) (h : B_Tr_valueLength_49 k5 s0 x1 x2 x4 x5 y0 = some out) : W p l e (headSpec ws_Tr_valueLength { frames := 1, cells := 0, slots := 0, locals := 20 }).room s m args below meth c H locs 0 0 (MQ below (QcI D A g out (fun (_ : Unit) => w_Tr g a0 s0 ++ (rest))) args s 0 0 A) (F0 m 49 ls [.int y0]) := by
  have X1 := X
  obtain ⟨hx, hb, hml, hown, hts, hr, hlocks, hKK⟩ := X1
  have ht : ∀ w ∈ TB, w.before args s = true := fun w h => hts w (List.mem_cons_of_mem _ h)
  have hK := hKK.1
  unfold B_Tr_valueLength_49 at h
  refine lv_iconst (v := 2) hx hb d_Tr_valueLength_49 (by decide) ?_
  exact t_Tr_valueLength_50 X hk5 (lv_sub hl [0, 1, 2, 3, 4] rfl) hI hS h
set_option maxRecDepth 100000 in
set_option maxHeartbeats 4000000 in
theorem t_Tr_valueLength_45 {p : Program} {l : Launch} {e : Env} {s : State} {m : MethodId} {args : Array Value} {below : List Frame} {meth : Method} {c : Code} {D : va_G} {A : Nat → Prop} {g : Nat → ClassId} {rest : va_W} {a0 : Nat → Nat} {ls : Array Slot} {H : Heap} {locs : List Loc} {k5 : Int32 × Int32 × Int32 × Int32 → Option Int32} {s0 : S_Tr} {x1 : Int32} {x2 : Int32} {x4 : Int32} {x5 : Int32} {y0 : Int32} {out : Int32} (X : Cx p s m args meth c prog_9_method_17_code 6 ws_Tr_valueLength R_Tr (some .int) D g) (hk5 : ∀ (v : Int32 × Int32 × Int32 × Int32) (ls : Array Slot) (H : Heap) (locs : List Loc), lv_has ls 6 [(0, .ref (a0 0)), (1, .int v.1), (2, .int v.2.1), (3, .int v.2.2.1), (4, .int v.2.2.2)] → Iw D A (w_Tr g a0 s0 ++ (rest)) H → va_S A s.heap H locs → k5 v = some out → W p l e (headSpec ws_Tr_valueLength { frames := 1, cells := 0, slots := 0, locals := 20 }).room s m args below meth c H locs 0 0 (MQ below (QcI D A g out (fun (_ : Unit) => w_Tr g a0 s0 ++ (rest))) args s 0 0 A) (F0 m 5 ls [])) (hl : lv_has ls 6 [(0, .ref (a0 0)), (1, .int x1), (2, .int x2), (4, .int x4), (5, .int x5)]) (hI : Iw D A (w_Tr g a0 s0 ++ (rest)) H) (hS : va_S A s.heap H locs) (h : B_Tr_valueLength_45 k5 s0 x1 x2 x4 x5 y0 = some out) : W p l e (headSpec ws_Tr_valueLength { frames := 1, cells := 0, slots := 0, locals := 20 }).room s m args below meth c H locs 0 0 (MQ below (QcI D A g out (fun (_ : Unit) => w_Tr g a0 s0 ++ (rest))) args s 0 0 A) (F0 m 45 ls [.int y0]) := by
  have X1 := X
  obtain ⟨hx, hb, hml, hown, hts, hr, hlocks, hKK⟩ := X1
  have ht : ∀ w ∈ TB, w.before args s = true := fun w h => hts w (List.mem_cons_of_mem _ h)
  have hK := hKK.1
  unfold B_Tr_valueLength_45 at h
  refine lv_iconst (v := 3) hx hb d_Tr_valueLength_45 (by decide) ?_
  refine lv_goto (tgt := 50) hx hb d_Tr_valueLength_46 (by decide) ?_
  exact t_Tr_valueLength_50 X hk5 (lv_sub hl [0, 1, 2, 3, 4] rfl) hI hS h
set_option maxRecDepth 100000 in
set_option maxHeartbeats 4000000 in
theorem t_Tr_valueLength_39 {p : Program} {l : Launch} {e : Env} {s : State} {m : MethodId} {args : Array Value} {below : List Frame} {meth : Method} {c : Code} {D : va_G} {A : Nat → Prop} {g : Nat → ClassId} {rest : va_W} {a0 : Nat → Nat} {ls : Array Slot} {H : Heap} {locs : List Loc} {k5 : Int32 × Int32 × Int32 × Int32 → Option Int32} {s0 : S_Tr} {x1 : Int32} {x2 : Int32} {x4 : Int32} {x5 : Int32} {y0 : Int32} {out : Int32} (X : Cx p s m args meth c prog_9_method_17_code 6 ws_Tr_valueLength R_Tr (some .int) D g) (hk5 : ∀ (v : Int32 × Int32 × Int32 × Int32) (ls : Array Slot) (H : Heap) (locs : List Loc), lv_has ls 6 [(0, .ref (a0 0)), (1, .int v.1), (2, .int v.2.1), (3, .int v.2.2.1), (4, .int v.2.2.2)] → Iw D A (w_Tr g a0 s0 ++ (rest)) H → va_S A s.heap H locs → k5 v = some out → W p l e (headSpec ws_Tr_valueLength { frames := 1, cells := 0, slots := 0, locals := 20 }).room s m args below meth c H locs 0 0 (MQ below (QcI D A g out (fun (_ : Unit) => w_Tr g a0 s0 ++ (rest))) args s 0 0 A) (F0 m 5 ls [])) (hl : lv_has ls 6 [(0, .ref (a0 0)), (1, .int x1), (2, .int x2), (4, .int x4), (5, .int x5)]) (hI : Iw D A (w_Tr g a0 s0 ++ (rest)) H) (hS : va_S A s.heap H locs) (h : B_Tr_valueLength_39 k5 s0 x1 x2 x4 x5 y0 = some out) : W p l e (headSpec ws_Tr_valueLength { frames := 1, cells := 0, slots := 0, locals := 20 }).room s m args below meth c H locs 0 0 (MQ below (QcI D A g out (fun (_ : Unit) => w_Tr g a0 s0 ++ (rest))) args s 0 0 A) (F0 m 39 ls [.int y0]) := by
  have X1 := X
  obtain ⟨hx, hb, hml, hown, hts, hr, hlocks, hKK⟩ := X1
  have ht : ∀ w ∈ TB, w.before args s = true := fun w h => hts w (List.mem_cons_of_mem _ h)
  have hK := hKK.1
  unfold B_Tr_valueLength_39 at h
  refine lv_iload hx hb d_Tr_valueLength_39 (lv_at hl 4 rfl) ?_
  refine lv_iconst (v := 4) hx hb d_Tr_valueLength_41 (by decide) ?_
  refine lv_icmp_eq (tgt := 49) hx hb d_Tr_valueLength_42 (by decide) (fun hc => ?_) (fun hc => ?_)
  · have h := it_t h hc
    exact t_Tr_valueLength_49 X hk5 (lv_sub hl [0, 1, 2, 3, 4] rfl) hI hS h
  · have h := it_f h hc
    exact t_Tr_valueLength_45 X hk5 (lv_sub hl [0, 1, 2, 3, 4] rfl) hI hS h
set_option maxRecDepth 100000 in
set_option maxHeartbeats 4000000 in
theorem t_Tr_valueLength_34 {p : Program} {l : Launch} {e : Env} {s : State} {m : MethodId} {args : Array Value} {below : List Frame} {meth : Method} {c : Code} {D : va_G} {A : Nat → Prop} {g : Nat → ClassId} {rest : va_W} {a0 : Nat → Nat} {ls : Array Slot} {H : Heap} {locs : List Loc} {k5 : Int32 × Int32 × Int32 × Int32 → Option Int32} {s0 : S_Tr} {x1 : Int32} {x2 : Int32} {x3 : Int32} {x4 : Int32} {x5 : Int32} {out : Int32} (X : Cx p s m args meth c prog_9_method_17_code 6 ws_Tr_valueLength R_Tr (some .int) D g) (hk5 : ∀ (v : Int32 × Int32 × Int32 × Int32) (ls : Array Slot) (H : Heap) (locs : List Loc), lv_has ls 6 [(0, .ref (a0 0)), (1, .int v.1), (2, .int v.2.1), (3, .int v.2.2.1), (4, .int v.2.2.2)] → Iw D A (w_Tr g a0 s0 ++ (rest)) H → va_S A s.heap H locs → k5 v = some out → W p l e (headSpec ws_Tr_valueLength { frames := 1, cells := 0, slots := 0, locals := 20 }).room s m args below meth c H locs 0 0 (MQ below (QcI D A g out (fun (_ : Unit) => w_Tr g a0 s0 ++ (rest))) args s 0 0 A) (F0 m 5 ls [])) (hl : lv_has ls 6 [(0, .ref (a0 0)), (1, .int x1), (2, .int x2), (3, .int x3), (4, .int x4), (5, .int x5)]) (hI : Iw D A (w_Tr g a0 s0 ++ (rest)) H) (hS : va_S A s.heap H locs) (h : B_Tr_valueLength_34 k5 s0 x1 x2 x3 x4 x5 = some out) : W p l e (headSpec ws_Tr_valueLength { frames := 1, cells := 0, slots := 0, locals := 20 }).room s m args below meth c H locs 0 0 (MQ below (QcI D A g out (fun (_ : Unit) => w_Tr g a0 s0 ++ (rest))) args s 0 0 A) (F0 m 34 ls []) := by
  have X1 := X
  obtain ⟨hx, hb, hml, hown, hts, hr, hlocks, hKK⟩ := X1
  have ht : ∀ w ∈ TB, w.before args s = true := fun w h => hts w (List.mem_cons_of_mem _ h)
  have hK := hKK.1
  unfold B_Tr_valueLength_34 at h
  refine lv_iload_n hx hb d_Tr_valueLength_34 rfl (lv_at hl 3 rfl) ?_
  refine lv_iload_n hx hb d_Tr_valueLength_35 rfl (lv_at hl 2 rfl) ?_
  refine lv_if_ne (tgt := 49) hx hb d_Tr_valueLength_36 (by decide) (fun hc => ?_) (fun hc => ?_)
  · have h := it_f h hc
    exact t_Tr_valueLength_49 X hk5 (lv_sub hl [0, 1, 2, 4, 5] rfl) hI hS h
  · have h := it_t h hc
    exact t_Tr_valueLength_39 X hk5 (lv_sub hl [0, 1, 2, 4, 5] rfl) hI hS h
set_option maxRecDepth 100000 in
set_option maxHeartbeats 4000000 in
theorem t_Tr_valueLength_16 {p : Program} {l : Launch} {e : Env} {s : State} {m : MethodId} {args : Array Value} {below : List Frame} {meth : Method} {c : Code} {D : va_G} {A : Nat → Prop} {g : Nat → ClassId} {rest : va_W} {a0 : Nat → Nat} {ls : Array Slot} {H : Heap} {locs : List Loc} {k5 : Int32 × Int32 × Int32 × Int32 → Option Int32} {s0 : S_Tr} {x1 : Int32} {x2 : Int32} {x3 : Int32} {x4 : Int32} {out : Int32} (X : Cx p s m args meth c prog_9_method_17_code 6 ws_Tr_valueLength R_Tr (some .int) D g) (hk5 : ∀ (v : Int32 × Int32 × Int32 × Int32) (ls : Array Slot) (H : Heap) (locs : List Loc), lv_has ls 6 [(0, .ref (a0 0)), (1, .int v.1), (2, .int v.2.1), (3, .int v.2.2.1), (4, .int v.2.2.2)] → Iw D A (w_Tr g a0 s0 ++ (rest)) H → va_S A s.heap H locs → k5 v = some out → W p l e (headSpec ws_Tr_valueLength { frames := 1, cells := 0, slots := 0, locals := 20 }).room s m args below meth c H locs 0 0 (MQ below (QcI D A g out (fun (_ : Unit) => w_Tr g a0 s0 ++ (rest))) args s 0 0 A) (F0 m 5 ls [])) (hl : lv_has ls 6 [(0, .ref (a0 0)), (1, .int x1), (2, .int x2), (3, .int x3), (4, .int x4)]) (hI : Iw D A (w_Tr g a0 s0 ++ (rest)) H) (hS : va_S A s.heap H locs) (h : B_Tr_valueLength_16 k5 s0 x1 x2 x3 x4 = some out) : W p l e (headSpec ws_Tr_valueLength { frames := 1, cells := 0, slots := 0, locals := 20 }).room s m args below meth c H locs 0 0 (MQ below (QcI D A g out (fun (_ : Unit) => w_Tr g a0 s0 ++ (rest))) args s 0 0 A) (F0 m 16 ls []) := by
  have X1 := X
  obtain ⟨hx, hb, hml, hown, hts, hr, hlocks, hKK⟩ := X1
  have ht : ∀ w ∈ TB, w.before args s = true := fun w h => hts w (List.mem_cons_of_mem _ h)
  have hK := hKK.1
  unfold B_Tr_valueLength_16 at h
  refine lv_aload_n hx hb d_Tr_valueLength_16 rfl (lv_at hl 0 rfl) ?_
  refine va_get (D := D) (ci := 7) (v := .ref (a0 1)) (C := R_Tr) (T := T_Tr) (N := 7) hx hb ht in_Tr hown hK hI.1 0 rfl rfl 0 (by decide) (ht _ m_134) (fun _ h9 => h9) rfl d_Tr_valueLength_17 ?_
  refine lv_iload hx hb d_Tr_valueLength_20 (lv_at hl 4 rfl) ?_
  by_cases hc1 : (x4 < 0 ∨ 101 ≤ x4.toNatClampNeg)
  · exact no_s (it_t h hc1)
  have h := it_f h hc1
  refine va_iald hx hb hK hI.1 1 0 rfl rfl hc1 d_Tr_valueLength_22 ?_
  obtain ⟨o2, ho3, h⟩ := bd_s h
  refine cl_i (W1 := fun (_ : Unit) => w_Tr g a0 s0 ++ (rest)) (va_runSN (As := [.int ((Tr_tags s0) x4.toNatClampNeg)]) (rest := []) ⟨hx, hb, hml, hown, ht⟩ (c_Rn_kindOf (l := l) (D := D) (A := A) (g := g) (rest := w_Tr g a0 s0 ++ (rest))  ho3) ⟨va_cnB 1 ht (gd_0 m_456) rfl rfl rfl hKK.2.2.1 (ht _ m_1) (by decide +kernel) ⟨(Nat.le_of_ble_eq_true rfl), (Nat.le_of_ble_eq_true rfl)⟩, ht _ m_455, trivial⟩ (prS hKK hI (List.Perm.refl _)) rfl rfl hl.1 rfl (lv_room (Nat.le_of_ble_eq_true rfl)) d_Tr_valueLength_23 ⟨(Nat.le_of_ble_eq_true rfl), (Nat.le_of_ble_eq_true rfl)⟩) hS (fun _ => ((List.Perm.refl _)).symm) (fun _ H locs hI hS => ?_)
  have hI : Iw D A (w_Tr g a0 s0 ++ (rest)) H := hI
  refine lv_istore hx hb d_Tr_valueLength_26 hl (Nat.le_of_ble_eq_true rfl) rfl (fun ls hl => ?_)
  have hl : lv_has ls 6 [(5, .int o2), (0, .ref (a0 0)), (1, .int x1), (2, .int x2), (3, .int x3), (4, .int x4)] := hl
  refine lv_iload hx hb d_Tr_valueLength_28 (lv_at hl 5 rfl) ?_
  refine lv_iload_n hx hb d_Tr_valueLength_30 rfl (lv_at hl 2 rfl) ?_
  refine lv_icmp_le (tgt := 52) hx hb d_Tr_valueLength_31 (by decide) (fun hc => ?_) (fun hc => ?_)
  · have h := it_t h hc
    exact t_Tr_valueLength_52 X hk5 (lv_sub hl [1, 2, 3, 4, 5, 0] rfl) hI hS h
  · have h := it_f h hc
    exact t_Tr_valueLength_34 X hk5 (lv_sub hl [1, 2, 3, 4, 5, 0] rfl) hI hS h
set_option maxRecDepth 100000 in
set_option maxHeartbeats 4000000 in
theorem t_Tr_valueLength_5 {p : Program} {l : Launch} {e : Env} {s : State} {m : MethodId} {args : Array Value} {below : List Frame} {meth : Method} {c : Code} {D : va_G} {A : Nat → Prop} {g : Nat → ClassId} {rest : va_W} {a0 : Nat → Nat} {ls : Array Slot} {H : Heap} {locs : List Loc} {k5 : Int32 × Int32 × Int32 × Int32 → Option Int32} {s0 : S_Tr} {x1 : Int32} {x2 : Int32} {x3 : Int32} {x4 : Int32} {out : Int32} (X : Cx p s m args meth c prog_9_method_17_code 6 ws_Tr_valueLength R_Tr (some .int) D g) (hk5 : ∀ (v : Int32 × Int32 × Int32 × Int32) (ls : Array Slot) (H : Heap) (locs : List Loc), lv_has ls 6 [(0, .ref (a0 0)), (1, .int v.1), (2, .int v.2.1), (3, .int v.2.2.1), (4, .int v.2.2.2)] → Iw D A (w_Tr g a0 s0 ++ (rest)) H → va_S A s.heap H locs → k5 v = some out → W p l e (headSpec ws_Tr_valueLength { frames := 1, cells := 0, slots := 0, locals := 20 }).room s m args below meth c H locs 0 0 (MQ below (QcI D A g out (fun (_ : Unit) => w_Tr g a0 s0 ++ (rest))) args s 0 0 A) (F0 m 5 ls [])) (hl : lv_has ls 6 [(0, .ref (a0 0)), (1, .int x1), (2, .int x2), (3, .int x3), (4, .int x4)]) (hI : Iw D A (w_Tr g a0 s0 ++ (rest)) H) (hS : va_S A s.heap H locs) (h : B_Tr_valueLength_5 k5 s0 x1 x2 x3 x4 = some out) : W p l e (headSpec ws_Tr_valueLength { frames := 1, cells := 0, slots := 0, locals := 20 }).room s m args below meth c H locs 0 0 (MQ below (QcI D A g out (fun (_ : Unit) => w_Tr g a0 s0 ++ (rest))) args s 0 0 A) (F0 m 5 ls []) := by
  have X1 := X
  obtain ⟨hx, hb, hml, hown, hts, hr, hlocks, hKK⟩ := X1
  have ht : ∀ w ∈ TB, w.before args s = true := fun w h => hts w (List.mem_cons_of_mem _ h)
  have hK := hKK.1
  unfold B_Tr_valueLength_5 at h
  refine lv_iload hx hb d_Tr_valueLength_5 (lv_at hl 4 rfl) ?_
  refine lv_aload_n hx hb d_Tr_valueLength_7 rfl (lv_at hl 0 rfl) ?_
  refine va_get (D := D) (ci := 7) (v := .ref (a0 2)) (C := R_Tr) (T := T_Tr) (N := 7) hx hb ht in_Tr hown hK hI.1 0 rfl rfl 1 (by decide) (ht _ m_135) (fun _ h9 => h9) rfl d_Tr_valueLength_8 ?_
  refine lv_iload_n hx hb d_Tr_valueLength_11 rfl (lv_at hl 1 rfl) ?_
  by_cases hc1 : (x1 < 0 ∨ 101 ≤ x1.toNatClampNeg)
  · exact no_s (it_t h hc1)
  have h := it_f h hc1
  refine va_iald hx hb hK hI.1 2 0 rfl rfl hc1 d_Tr_valueLength_12 ?_
  refine lv_icmp_ge (tgt := 94) hx hb d_Tr_valueLength_13 (by decide) (fun hc => ?_) (fun hc => ?_)
  · have h := it_t h hc
    exact t_Tr_valueLength_94 X (lv_sub hl [3] rfl) hI hS h
  · have h := it_f h hc
    exact t_Tr_valueLength_16 X hk5 (lv_sub hl [0, 1, 2, 3, 4] rfl) hI hS h
set_option maxRecDepth 100000 in
set_option maxHeartbeats 4000000 in
theorem T_Tr_valueLength_5 {p : Program} {l : Launch} {e : Env} {s : State} {m : MethodId} {args : Array Value} {below : List Frame} {meth : Method} {c : Code} {D : va_G} {A : Nat → Prop} {g : Nat → ClassId} {rest : va_W} {a0 : Nat → Nat} {ls : Array Slot} {H : Heap} {locs : List Loc} {s0 : S_Tr} {x1 : Int32} {x2 : Int32} {x3 : Int32} {x4 : Int32} {out : Int32} (X : Cx p s m args meth c prog_9_method_17_code 6 ws_Tr_valueLength R_Tr (some .int) D g) (hl : lv_has ls 6 [(0, .ref (a0 0)), (1, .int x1), (2, .int x2), (3, .int x3), (4, .int x4)]) (hI : Iw D A (w_Tr g a0 s0 ++ (rest)) H) (hS : va_S A s.heap H locs) (h : L_Tr_valueLength_5  s0 (x1, x2, x3, x4) = some out) : W p l e (headSpec ws_Tr_valueLength { frames := 1, cells := 0, slots := 0, locals := 20 }).room s m args below meth c H locs 0 0 (MQ below (QcI D A g out (fun (_ : Unit) => w_Tr g a0 s0 ++ (rest))) args s 0 0 A) (F0 m 5 ls []) := by
  unfold L_Tr_valueLength_5 at h
  exact lp_ind (P := fun v => ∀ (ls : Array Slot) (H : Heap) (locs : List Loc), lv_has ls 6 [(0, .ref (a0 0)), (1, .int v.1), (2, .int v.2.1), (3, .int v.2.2.1), (4, .int v.2.2.2)] → Iw D A (w_Tr g a0 s0 ++ (rest)) H → va_S A s.heap H locs → W p l e (headSpec ws_Tr_valueLength { frames := 1, cells := 0, slots := 0, locals := 20 }).room s m args below meth c H locs 0 0 (MQ below (QcI D A g out (fun (_ : Unit) => w_Tr g a0 s0 ++ (rest))) args s 0 0 A) (F0 m 5 ls [])) (fun k v ih hb ls H locs  hl hI hS => t_Tr_valueLength_5 X  (fun v' ls H locs  hl hI hS h' => ih v' h' ls H locs  hl hI hS) hl hI hS hb) FU _ h ls H locs  hl hI hS
set_option maxRecDepth 100000 in
set_option maxHeartbeats 4000000 in
theorem t_Tr_valueLength_0 {p : Program} {l : Launch} {e : Env} {s : State} {m : MethodId} {args : Array Value} {below : List Frame} {meth : Method} {c : Code} {D : va_G} {A : Nat → Prop} {g : Nat → ClassId} {rest : va_W} {a0 : Nat → Nat} {ls : Array Slot} {H : Heap} {locs : List Loc} {s0 : S_Tr} {x1 : Int32} {x2 : Int32} {out : Int32} (X : Cx p s m args meth c prog_9_method_17_code 6 ws_Tr_valueLength R_Tr (some .int) D g) (hl : lv_has ls 6 [(0, .ref (a0 0)), (1, .int x1), (2, .int x2)]) (hI : Iw D A (w_Tr g a0 s0 ++ (rest)) H) (hS : va_S A s.heap H locs) (h : B_Tr_valueLength_0  s0 x1 x2 = some out) : W p l e (headSpec ws_Tr_valueLength { frames := 1, cells := 0, slots := 0, locals := 20 }).room s m args below meth c H locs 0 0 (MQ below (QcI D A g out (fun (_ : Unit) => w_Tr g a0 s0 ++ (rest))) args s 0 0 A) (F0 m 0 ls []) := by
  have X1 := X
  obtain ⟨hx, hb, hml, hown, hts, hr, hlocks, hKK⟩ := X1
  have ht : ∀ w ∈ TB, w.before args s = true := fun w h => hts w (List.mem_cons_of_mem _ h)
  have hK := hKK.1
  unfold B_Tr_valueLength_0 at h
  refine lv_iconst (v := 0) hx hb d_Tr_valueLength_0 (by decide) ?_
  refine lv_istore_n hx hb d_Tr_valueLength_1 rfl hl (Nat.le_of_ble_eq_true rfl) rfl (fun ls hl => ?_)
  have hl : lv_has ls 6 [(3, .int (0 : Int32)), (0, .ref (a0 0)), (1, .int x1), (2, .int x2)] := hl
  refine lv_iload_n hx hb d_Tr_valueLength_2 rfl (lv_at hl 2 rfl) ?_
  refine lv_istore hx hb d_Tr_valueLength_3 hl (Nat.le_of_ble_eq_true rfl) rfl (fun ls hl => ?_)
  have hl : lv_has ls 6 [(4, .int x1), (3, .int (0 : Int32)), (0, .ref (a0 0)), (1, .int x1), (2, .int x2)] := hl
  exact T_Tr_valueLength_5 X (lv_sub hl [2, 3, 4, 1, 0] rfl) hI hS h
set_option maxRecDepth 100000 in
set_option maxHeartbeats 4000000 in
theorem c_Tr_valueLength {l : Launch} {D : va_G} {A : Nat → Prop} {g : Nat → ClassId} {rest : va_W} {a0 : Nat → Nat} {s0 : S_Tr} {x1 : Int32} {x2 : Int32} {out : Int32} (h : F_Tr_valueLength s0 x1 x2 = some out) : Met l y_Tr_valueLength ws_Tr_valueLength { frames := 1, cells := 0, slots := 0, locals := 20 } (PcW D A g [.ref (a0 0), .int x1, .int x2] (w_Tr g a0 s0 ++ (rest))) (QcI D A g out (fun (_ : Unit) => w_Tr g a0 s0 ++ (rest))) 0 0 A := by
  refine Met.ofW (cc := prog_9_method_17_code) (maxL := 6) (ret := (some .int)) (by decide) rfl ?_
  intro p e s m args below meth c s₁ B hml hv
  obtain ⟨rfl, hI, hK⟩ := hv
  have hl := lv_entry [.ref (a0 0), .int x1, .int x2] (n := 6) (Nat.le_of_ble_eq_true rfl)
  rw [lg_entry_eq]
  generalize (lg_sl [.ref (a0 0), .int x1, .int x2] ++ List.replicate (6 - (lg_sl [.ref (a0 0), .int x1, .int x2]).length) Slot.unset).toArray = ls at hl ⊢
  have hl : lv_has ls 6 [(0, .ref (a0 0)), (1, .int x1), (2, .int x2)] := hl
  exact t_Tr_valueLength_0 ⟨B.exec, B.bytes, hml, findClass_of_methodNamed B.named, atoms_spec (ws := ws_Tr_valueLength) B.pre, B.returns, B.notSynchronized, hK⟩ (lv_sub hl [0, 1, 2] rfl) hI va_S.rf h
def ws_Tr_writeNode : List Cond := .code y_Tr_writeNode prog_9_method_16_code 8 (some .boolean) :: TB
def B_Tr_writeNode_131 (s0 : S_Tr) (s1 : S_Bs) : Option (Int32 × S_Bs) :=
  some ((1 : Int32), s1)
def B_Tr_writeNode_122 (k91 : S_Bs × Int32 × Int32 × Int32 → Option (Int32 × S_Bs)) (s0 : S_Tr) (s1 : S_Bs) (x1 : Int32) (x6 : Int32) (x7 : Int32) (y0 : Int32) : Option (Int32 × S_Bs) :=
  ((F_Bs_append s1 y0).bind fun o1 => (k91 (o1, x1, x6, (x7 + 1))))
def B_Tr_writeNode_120 (k91 : S_Bs × Int32 × Int32 × Int32 → Option (Int32 × S_Bs)) (s0 : S_Tr) (s1 : S_Bs) (x1 : Int32) (x6 : Int32) (x7 : Int32) : Option (Int32 × S_Bs) :=
  (B_Tr_writeNode_122 k91 s0 s1 x1 x6 x7 (32 : Int32))
def B_Tr_writeNode_110 (k91 : S_Bs × Int32 × Int32 × Int32 → Option (Int32 × S_Bs)) (s0 : S_Tr) (s1 : S_Bs) (x1 : Int32) (x6 : Int32) (x7 : Int32) : Option (Int32 × S_Bs) :=
  ((F_Tr_character s0 x1 x7).bind fun o1 => (B_Tr_writeNode_122 k91 s0 s1 x1 x6 x7 o1))
def B_Tr_writeNode_98 (k91 : S_Bs × Int32 × Int32 × Int32 → Option (Int32 × S_Bs)) (s0 : S_Tr) (s1 : S_Bs) (x1 : Int32) (x6 : Int32) (x7 : Int32) : Option (Int32 × S_Bs) :=
  (if (x1 < 0 ∨ 101 ≤ x1.toNatClampNeg) then none else (if ((Tr_lengths s0) x1.toNatClampNeg) ≤ x7 then (B_Tr_writeNode_120 k91 s0 s1 x1 x6 x7) else (B_Tr_writeNode_110 k91 s0 s1 x1 x6 x7)))
def B_Tr_writeNode_91 (k91 : S_Bs × Int32 × Int32 × Int32 → Option (Int32 × S_Bs)) (s0 : S_Tr) (s1 : S_Bs) (x1 : Int32) (x6 : Int32) (x7 : Int32) : Option (Int32 × S_Bs) :=
  (if x6 ≤ x7 then (B_Tr_writeNode_131 s0 s1) else (B_Tr_writeNode_98 k91 s0 s1 x1 x6 x7))
def L_Tr_writeNode_91 (s0 : S_Tr) (v : S_Bs × Int32 × Int32 × Int32) : Option (Int32 × S_Bs) := lp (fun k91 v => B_Tr_writeNode_91  k91 s0 v.1 v.2.1 v.2.2.1 v.2.2.2) FU v
def B_Tr_writeNode_88 (s0 : S_Tr) (s1 : S_Bs) (x1 : Int32) (x6 : Int32) : Option (Int32 × S_Bs) :=
  (L_Tr_writeNode_91 s0 (s1, x1, x6, (0 : Int32)))
def B_Tr_writeNode_76 (s0 : S_Tr) (s1 : S_Bs) (x1 : Int32) (x5 : Int32) (x6 : Int32) : Option (Int32 × S_Bs) :=
  ((F_Bs_append s1 x6).bind fun o1 => (if x5 = (2 : Int32) then (B_Tr_writeNode_88 s0 o1 x1 x6) else (B_Tr_writeNode_131 s0 o1)))
def B_Tr_writeNode_70 (s0 : S_Tr) (s1 : S_Bs) (x1 : Int32) (x5 : Int32) (x6 : Int32) : Option (Int32 × S_Bs) :=
  ((F_Bs_append s1 x5).bind fun o1 => (B_Tr_writeNode_76 s0 o1 x1 x5 x6))
def B_Tr_writeNode_64 (s0 : S_Tr) (s1 : S_Bs) (x1 : Int32) (x5 : Int32) (x6 : Int32) : Option (Int32 × S_Bs) :=
  (if x5 = (4 : Int32) then (B_Tr_writeNode_76 s0 s1 x1 x5 x6) else (B_Tr_writeNode_70 s0 s1 x1 x5 x6))
def B_Tr_writeNode_54 (s0 : S_Tr) (s1 : S_Bs) (x1 : Int32) (x2 : Int32) (x4 : Int32) (x5 : Int32) (x6 : Int32) : Option (Int32 × S_Bs) :=
  ((F_Bs_append s1 x4).bind fun o1 => (if x2 = 0 then (B_Tr_writeNode_64 s0 o1 x1 x5 x6) else (B_Tr_writeNode_76 s0 o1 x1 x5 x6)))
def B_Tr_writeNode_52 (s0 : S_Tr) (s1 : S_Bs) : Option (Int32 × S_Bs) :=
  some ((0 : Int32), s1)
def B_Tr_writeNode_36 (s0 : S_Tr) (s1 : S_Bs) (x1 : Int32) (x2 : Int32) (x4 : Int32) (x5 : Int32) : Option (Int32 × S_Bs) :=
  ((F_Tr_valueLength s0 x1 x2).bind fun o1 => (if o1 ≤ (240 : Int32) then (B_Tr_writeNode_54 s0 s1 x1 x2 x4 x5 o1) else (B_Tr_writeNode_52 s0 s1)))
def B_Tr_writeNode_21 (s0 : S_Tr) (s1 : S_Bs) (x1 : Int32) (x2 : Int32) (x4 : Int32) : Option (Int32 × S_Bs) :=
  (if (x1 < 0 ∨ 101 ≤ x1.toNatClampNeg) then none else ((F_Tr_writeNumber s1 x4 ((Tr_values s0) x1.toNatClampNeg) x2).bind fun o2 => some ((1 : Int32), o2)))
def B_Tr_writeNode_0 (s0 : S_Tr) (s1 : S_Bs) (x1 : Int32) (x2 : Int32) : Option (Int32 × S_Bs) :=
  (if (x1 < 0 ∨ 101 ≤ x1.toNatClampNeg) then none else ((F_Rn_kindOf ((Tr_tags s0) x1.toNatClampNeg)).bind fun o2 => (if o2 = (1 : Int32) then (B_Tr_writeNode_21 s0 s1 x1 x2 ((Tr_tags s0) x1.toNatClampNeg)) else (B_Tr_writeNode_36 s0 s1 x1 x2 ((Tr_tags s0) x1.toNatClampNeg) o2))))
def F_Tr_writeNode (s0 : S_Tr) (s1 : S_Bs) (x1 : Int32) (x2 : Int32) : Option (Int32 × S_Bs) := B_Tr_writeNode_0 s0 s1 x1 x2
set_option maxRecDepth 100000 in
set_option maxHeartbeats 4000000 in
theorem t_Tr_writeNode_131 {p : Program} {l : Launch} {e : Env} {s : State} {m : MethodId} {args : Array Value} {below : List Frame} {meth : Method} {c : Code} {D : va_G} {A : Nat → Prop} {g : Nat → ClassId} {rest : va_W} {a0 : Nat → Nat} {a1 : Nat → Nat} {ls : Array Slot} {H : Heap} {locs : List Loc} {s0 : S_Tr} {s1 : S_Bs} {out : Int32 × S_Bs} (X : Cx p s m args meth c prog_9_method_16_code 8 ws_Tr_writeNode R_Tr (some .boolean) D g) (hl : lv_has ls 8 []) (hI : Iw D A (w_Tr g a0 s0 ++ (w_Bs g a1 s1 ++ (rest))) H) (hS : va_S A s.heap H locs) (h : B_Tr_writeNode_131  s0 s1 = some out) : W p l e (headSpec ws_Tr_writeNode { frames := 2, cells := 0, slots := 0, locals := 47 }).room s m args below meth c H locs 0 0 (MQ below (QcI D A g out.1 (fun (_ : Unit) => w_Tr g a0 s0 ++ (w_Bs g a1 out.2 ++ (rest)))) args s 0 0 A) (F0 m 131 ls []) := by
  have X1 := X
  obtain ⟨hx, hb, hml, hown, hts, hr, hlocks, hKK⟩ := X1
  have ht : ∀ w ∈ TB, w.before args s = true := fun w h => hts w (List.mem_cons_of_mem _ h)
  have hK := hKK.1
  unfold B_Tr_writeNode_131 at h
  refine lv_iconst (v := 1) hx hb d_Tr_writeNode_131 (by decide) ?_
  have h9 := Option.some.inj h
  subst h9
  exact W.zret (v := (1 : Int32)) hx hb hr rfl (fun t ht hW => ⟨⟨_, (), rfl, rfl, ⟨by rw [ht]; exact hI, hKK.moved hW⟩⟩, hS.F ht⟩) hS.2.2 d_Tr_writeNode_132
set_option maxRecDepth 100000 in
set_option maxHeartbeats 4000000 in
theorem t_Tr_writeNode_122 {p : Program} {l : Launch} {e : Env} {s : State} {m : MethodId} {args : Array Value} {below : List Frame} {meth : Method} {c : Code} {D : va_G} {A : Nat → Prop} {g : Nat → ClassId} {rest : va_W} {a0 : Nat → Nat} {a1 : Nat → Nat} {ls : Array Slot} {H : Heap} {locs : List Loc} {k91 : S_Bs × Int32 × Int32 × Int32 → Option (Int32 × S_Bs)} {s0 : S_Tr} {s1 : S_Bs} {x1 : Int32} {x6 : Int32} {x7 : Int32} {y0 : Int32} {out : Int32 × S_Bs} (X : Cx p s m args meth c prog_9_method_16_code 8 ws_Tr_writeNode R_Tr (some .boolean) D g) (hk91 : ∀ (v : S_Bs × Int32 × Int32 × Int32) (ls : Array Slot) (H : Heap) (locs : List Loc), lv_has ls 8 [(0, .ref (a0 0)), (1, .int v.2.1), (3, .ref (a1 0)), (6, .int v.2.2.1), (7, .int v.2.2.2)] → Iw D A (w_Tr g a0 s0 ++ (w_Bs g a1 v.1 ++ (rest))) H → va_S A s.heap H locs → k91 v = some out → W p l e (headSpec ws_Tr_writeNode { frames := 2, cells := 0, slots := 0, locals := 47 }).room s m args below meth c H locs 0 0 (MQ below (QcI D A g out.1 (fun (_ : Unit) => w_Tr g a0 s0 ++ (w_Bs g a1 out.2 ++ (rest)))) args s 0 0 A) (F0 m 91 ls [])) (hl : lv_has ls 8 [(0, .ref (a0 0)), (1, .int x1), (3, .ref (a1 0)), (6, .int x6), (7, .int x7)]) (hI : Iw D A (w_Tr g a0 s0 ++ (w_Bs g a1 s1 ++ (rest))) H) (hS : va_S A s.heap H locs) (h : B_Tr_writeNode_122 k91 s0 s1 x1 x6 x7 y0 = some out) : W p l e (headSpec ws_Tr_writeNode { frames := 2, cells := 0, slots := 0, locals := 47 }).room s m args below meth c H locs 0 0 (MQ below (QcI D A g out.1 (fun (_ : Unit) => w_Tr g a0 s0 ++ (w_Bs g a1 out.2 ++ (rest)))) args s 0 0 A) (F0 m 122 ls [.int y0, .ref (a1 0)]) := by
  have X1 := X
  obtain ⟨hx, hb, hml, hown, hts, hr, hlocks, hKK⟩ := X1
  have ht : ∀ w ∈ TB, w.before args s = true := fun w h => hts w (List.mem_cons_of_mem _ h)
  have hK := hKK.1
  unfold B_Tr_writeNode_122 at h
  obtain ⟨o1, ho2, h⟩ := bd_s h
  refine cl_v (W1 := fun (_ : Unit) => w_Tr g a0 s0 ++ (w_Bs g a1 o1 ++ (rest))) (va_runV (As := [.int y0]) (rest := []) ⟨hx, hb, hml, hown, ht⟩ (c_Bs_append (l := l) (D := D) (A := A) (g := g) (rest := w_Tr g a0 s0 ++ (rest)) (a0 := a1) ho2) (cwV 1 ht (gd_V m_555 m_267 m_268 m_2 m_269) rfl rfl rfl (by decide +kernel) ⟨(Nat.le_of_ble_eq_true rfl), (Nat.le_of_ble_eq_true rfl)⟩) (prV (ci := 0) (q0 := 0) hKK hI (mv_1) rfl rfl rfl) rfl rfl hl.1 rfl (lv_room (Nat.le_of_ble_eq_true rfl)) d_Tr_writeNode_122 ⟨(Nat.le_of_ble_eq_true rfl), (Nat.le_of_ble_eq_true rfl)⟩) hS (fun _ => ((mv_1)).symm) (fun _ H locs hI hS => ?_)
  have hI : Iw D A (w_Tr g a0 s0 ++ (w_Bs g a1 o1 ++ (rest))) H := hI
  refine lv_iinc (k := 4) (v := (x7 + 1)) hx hb d_Tr_writeNode_125 hl rfl (congrArg (fun z => x7 + z) (by decide)) (Nat.le_of_ble_eq_true rfl) rfl (fun ls hl => ?_)
  have hl : lv_has ls 8 [(7, .int (x7 + 1)), (0, .ref (a0 0)), (1, .int x1), (3, .ref (a1 0)), (6, .int x6)] := hl
  refine lv_goto (tgt := 91) hx hb d_Tr_writeNode_128 (by decide) ?_
  exact hk91 (o1, x1, x6, (x7 + 1)) _ _ _ (lv_sub hl [1, 2, 3, 4, 0] rfl) hI hS h
set_option maxRecDepth 100000 in
set_option maxHeartbeats 4000000 in
theorem t_Tr_writeNode_120 {p : Program} {l : Launch} {e : Env} {s : State} {m : MethodId} {args : Array Value} {below : List Frame} {meth : Method} {c : Code} {D : va_G} {A : Nat → Prop} {g : Nat → ClassId} {rest : va_W} {a0 : Nat → Nat} {a1 : Nat → Nat} {ls : Array Slot} {H : Heap} {locs : List Loc} {k91 : S_Bs × Int32 × Int32 × Int32 → Option (Int32 × S_Bs)} {s0 : S_Tr} {s1 : S_Bs} {x1 : Int32} {x6 : Int32} {x7 : Int32} {out : Int32 × S_Bs} (X : Cx p s m args meth c prog_9_method_16_code 8 ws_Tr_writeNode R_Tr (some .boolean) D g) (hk91 : ∀ (v : S_Bs × Int32 × Int32 × Int32) (ls : Array Slot) (H : Heap) (locs : List Loc), lv_has ls 8 [(0, .ref (a0 0)), (1, .int v.2.1), (3, .ref (a1 0)), (6, .int v.2.2.1), (7, .int v.2.2.2)] → Iw D A (w_Tr g a0 s0 ++ (w_Bs g a1 v.1 ++ (rest))) H → va_S A s.heap H locs → k91 v = some out → W p l e (headSpec ws_Tr_writeNode { frames := 2, cells := 0, slots := 0, locals := 47 }).room s m args below meth c H locs 0 0 (MQ below (QcI D A g out.1 (fun (_ : Unit) => w_Tr g a0 s0 ++ (w_Bs g a1 out.2 ++ (rest)))) args s 0 0 A) (F0 m 91 ls [])) (hl : lv_has ls 8 [(0, .ref (a0 0)), (1, .int x1), (3, .ref (a1 0)), (6, .int x6), (7, .int x7)]) (hI : Iw D A (w_Tr g a0 s0 ++ (w_Bs g a1 s1 ++ (rest))) H) (hS : va_S A s.heap H locs) (h : B_Tr_writeNode_120 k91 s0 s1 x1 x6 x7 = some out) : W p l e (headSpec ws_Tr_writeNode { frames := 2, cells := 0, slots := 0, locals := 47 }).room s m args below meth c H locs 0 0 (MQ below (QcI D A g out.1 (fun (_ : Unit) => w_Tr g a0 s0 ++ (w_Bs g a1 out.2 ++ (rest)))) args s 0 0 A) (F0 m 120 ls [.ref (a1 0)]) := by
  have X1 := X
  obtain ⟨hx, hb, hml, hown, hts, hr, hlocks, hKK⟩ := X1
  have ht : ∀ w ∈ TB, w.before args s = true := fun w h => hts w (List.mem_cons_of_mem _ h)
  have hK := hKK.1
  unfold B_Tr_writeNode_120 at h
  refine lv_bipush (v := 32) hx hb d_Tr_writeNode_120 (by decide) ?_
  exact t_Tr_writeNode_122 X hk91 (lv_sub hl [0, 1, 2, 3, 4] rfl) hI hS h
set_option maxRecDepth 100000 in
set_option maxHeartbeats 4000000 in
theorem t_Tr_writeNode_110 {p : Program} {l : Launch} {e : Env} {s : State} {m : MethodId} {args : Array Value} {below : List Frame} {meth : Method} {c : Code} {D : va_G} {A : Nat → Prop} {g : Nat → ClassId} {rest : va_W} {a0 : Nat → Nat} {a1 : Nat → Nat} {ls : Array Slot} {H : Heap} {locs : List Loc} {k91 : S_Bs × Int32 × Int32 × Int32 → Option (Int32 × S_Bs)} {s0 : S_Tr} {s1 : S_Bs} {x1 : Int32} {x6 : Int32} {x7 : Int32} {out : Int32 × S_Bs} (X : Cx p s m args meth c prog_9_method_16_code 8 ws_Tr_writeNode R_Tr (some .boolean) D g) (hk91 : ∀ (v : S_Bs × Int32 × Int32 × Int32) (ls : Array Slot) (H : Heap) (locs : List Loc), lv_has ls 8 [(0, .ref (a0 0)), (1, .int v.2.1), (3, .ref (a1 0)), (6, .int v.2.2.1), (7, .int v.2.2.2)] → Iw D A (w_Tr g a0 s0 ++ (w_Bs g a1 v.1 ++ (rest))) H → va_S A s.heap H locs → k91 v = some out → W p l e (headSpec ws_Tr_writeNode { frames := 2, cells := 0, slots := 0, locals := 47 }).room s m args below meth c H locs 0 0 (MQ below (QcI D A g out.1 (fun (_ : Unit) => w_Tr g a0 s0 ++ (w_Bs g a1 out.2 ++ (rest)))) args s 0 0 A) (F0 m 91 ls [])) (hl : lv_has ls 8 [(0, .ref (a0 0)), (1, .int x1), (3, .ref (a1 0)), (6, .int x6), (7, .int x7)]) (hI : Iw D A (w_Tr g a0 s0 ++ (w_Bs g a1 s1 ++ (rest))) H) (hS : va_S A s.heap H locs) (h : B_Tr_writeNode_110 k91 s0 s1 x1 x6 x7 = some out) : W p l e (headSpec ws_Tr_writeNode { frames := 2, cells := 0, slots := 0, locals := 47 }).room s m args below meth c H locs 0 0 (MQ below (QcI D A g out.1 (fun (_ : Unit) => w_Tr g a0 s0 ++ (w_Bs g a1 out.2 ++ (rest)))) args s 0 0 A) (F0 m 110 ls [.ref (a1 0)]) := by
  have X1 := X
  obtain ⟨hx, hb, hml, hown, hts, hr, hlocks, hKK⟩ := X1
  have ht : ∀ w ∈ TB, w.before args s = true := fun w h => hts w (List.mem_cons_of_mem _ h)
  have hK := hKK.1
  unfold B_Tr_writeNode_110 at h
  refine lv_aload_n hx hb d_Tr_writeNode_110 rfl (lv_at hl 0 rfl) ?_
  refine lv_iload_n hx hb d_Tr_writeNode_111 rfl (lv_at hl 1 rfl) ?_
  refine lv_iload hx hb d_Tr_writeNode_112 (lv_at hl 4 rfl) ?_
  obtain ⟨o1, ho2, h⟩ := bd_s h
  refine cl_i (W1 := fun (_ : Unit) => w_Tr g a0 s0 ++ (w_Bs g a1 s1 ++ (rest))) (va_runV (As := [.int x1, .int x7]) (rest := [.ref (a1 0)]) ⟨hx, hb, hml, hown, ht⟩ (c_Tr_character (l := l) (D := D) (A := A) (g := g) (rest := w_Bs g a1 s1 ++ (rest)) (a0 := a0) ho2) (cwV 2 ht (gd_V m_579 m_580 m_581 m_9 m_582) rfl rfl rfl (by decide +kernel) ⟨(Nat.le_of_ble_eq_true rfl), (Nat.le_of_ble_eq_true rfl)⟩) (prV (ci := 7) (q0 := 0) hKK hI (List.Perm.refl _) rfl rfl rfl) rfl rfl hl.1 rfl (lv_room (Nat.le_of_ble_eq_true rfl)) d_Tr_writeNode_114 ⟨(Nat.le_of_ble_eq_true rfl), (Nat.le_of_ble_eq_true rfl)⟩) hS (fun _ => ((List.Perm.refl _)).symm) (fun _ H locs hI hS => ?_)
  have hI : Iw D A (w_Tr g a0 s0 ++ (w_Bs g a1 s1 ++ (rest))) H := hI
  refine lv_goto (tgt := 122) hx hb d_Tr_writeNode_117 (by decide) ?_
  exact t_Tr_writeNode_122 X hk91 (lv_sub hl [0, 1, 2, 3, 4] rfl) hI hS h
set_option maxRecDepth 100000 in
set_option maxHeartbeats 4000000 in
theorem t_Tr_writeNode_98 {p : Program} {l : Launch} {e : Env} {s : State} {m : MethodId} {args : Array Value} {below : List Frame} {meth : Method} {c : Code} {D : va_G} {A : Nat → Prop} {g : Nat → ClassId} {rest : va_W} {a0 : Nat → Nat} {a1 : Nat → Nat} {ls : Array Slot} {H : Heap} {locs : List Loc} {k91 : S_Bs × Int32 × Int32 × Int32 → Option (Int32 × S_Bs)} {s0 : S_Tr} {s1 : S_Bs} {x1 : Int32} {x6 : Int32} {x7 : Int32} {out : Int32 × S_Bs} (X : Cx p s m args meth c prog_9_method_16_code 8 ws_Tr_writeNode R_Tr (some .boolean) D g) (hk91 : ∀ (v : S_Bs × Int32 × Int32 × Int32) (ls : Array Slot) (H : Heap) (locs : List Loc), lv_has ls 8 [(0, .ref (a0 0)), (1, .int v.2.1), (3, .ref (a1 0)), (6, .int v.2.2.1), (7, .int v.2.2.2)] → Iw D A (w_Tr g a0 s0 ++ (w_Bs g a1 v.1 ++ (rest))) H → va_S A s.heap H locs → k91 v = some out → W p l e (headSpec ws_Tr_writeNode { frames := 2, cells := 0, slots := 0, locals := 47 }).room s m args below meth c H locs 0 0 (MQ below (QcI D A g out.1 (fun (_ : Unit) => w_Tr g a0 s0 ++ (w_Bs g a1 out.2 ++ (rest)))) args s 0 0 A) (F0 m 91 ls [])) (hl : lv_has ls 8 [(0, .ref (a0 0)), (1, .int x1), (3, .ref (a1 0)), (6, .int x6), (7, .int x7)]) (hI : Iw D A (w_Tr g a0 s0 ++ (w_Bs g a1 s1 ++ (rest))) H) (hS : va_S A s.heap H locs) (h : B_Tr_writeNode_98 k91 s0 s1 x1 x6 x7 = some out) : W p l e (headSpec ws_Tr_writeNode { frames := 2, cells := 0, slots := 0, locals := 47 }).room s m args below meth c H locs 0 0 (MQ below (QcI D A g out.1 (fun (_ : Unit) => w_Tr g a0 s0 ++ (w_Bs g a1 out.2 ++ (rest)))) args s 0 0 A) (F0 m 98 ls []) := by
  have X1 := X
  obtain ⟨hx, hb, hml, hown, hts, hr, hlocks, hKK⟩ := X1
  have ht : ∀ w ∈ TB, w.before args s = true := fun w h => hts w (List.mem_cons_of_mem _ h)
  have hK := hKK.1
  unfold B_Tr_writeNode_98 at h
  refine lv_aload_n hx hb d_Tr_writeNode_98 rfl (lv_at hl 2 rfl) ?_
  refine lv_iload hx hb d_Tr_writeNode_99 (lv_at hl 4 rfl) ?_
  refine lv_aload_n hx hb d_Tr_writeNode_101 rfl (lv_at hl 0 rfl) ?_
  refine va_get (D := D) (ci := 7) (v := .ref (a0 4)) (C := R_Tr) (T := T_Tr) (N := 7) hx hb ht in_Tr hown hK hI.1 0 rfl rfl 3 (by decide) (ht _ m_137) (fun _ h9 => h9) rfl d_Tr_writeNode_102 ?_
  refine lv_iload_n hx hb d_Tr_writeNode_105 rfl (lv_at hl 1 rfl) ?_
  by_cases hc1 : (x1 < 0 ∨ 101 ≤ x1.toNatClampNeg)
  · exact no_s (it_t h hc1)
  have h := it_f h hc1
  refine va_iald hx hb hK hI.1 4 0 rfl rfl hc1 d_Tr_writeNode_106 ?_
  refine lv_icmp_ge (tgt := 120) hx hb d_Tr_writeNode_107 (by decide) (fun hc => ?_) (fun hc => ?_)
  · have h := it_t h hc
    exact t_Tr_writeNode_120 X hk91 (lv_sub hl [0, 1, 2, 3, 4] rfl) hI hS h
  · have h := it_f h hc
    exact t_Tr_writeNode_110 X hk91 (lv_sub hl [0, 1, 2, 3, 4] rfl) hI hS h
set_option maxRecDepth 100000 in
set_option maxHeartbeats 4000000 in
theorem t_Tr_writeNode_91 {p : Program} {l : Launch} {e : Env} {s : State} {m : MethodId} {args : Array Value} {below : List Frame} {meth : Method} {c : Code} {D : va_G} {A : Nat → Prop} {g : Nat → ClassId} {rest : va_W} {a0 : Nat → Nat} {a1 : Nat → Nat} {ls : Array Slot} {H : Heap} {locs : List Loc} {k91 : S_Bs × Int32 × Int32 × Int32 → Option (Int32 × S_Bs)} {s0 : S_Tr} {s1 : S_Bs} {x1 : Int32} {x6 : Int32} {x7 : Int32} {out : Int32 × S_Bs} (X : Cx p s m args meth c prog_9_method_16_code 8 ws_Tr_writeNode R_Tr (some .boolean) D g) (hk91 : ∀ (v : S_Bs × Int32 × Int32 × Int32) (ls : Array Slot) (H : Heap) (locs : List Loc), lv_has ls 8 [(0, .ref (a0 0)), (1, .int v.2.1), (3, .ref (a1 0)), (6, .int v.2.2.1), (7, .int v.2.2.2)] → Iw D A (w_Tr g a0 s0 ++ (w_Bs g a1 v.1 ++ (rest))) H → va_S A s.heap H locs → k91 v = some out → W p l e (headSpec ws_Tr_writeNode { frames := 2, cells := 0, slots := 0, locals := 47 }).room s m args below meth c H locs 0 0 (MQ below (QcI D A g out.1 (fun (_ : Unit) => w_Tr g a0 s0 ++ (w_Bs g a1 out.2 ++ (rest)))) args s 0 0 A) (F0 m 91 ls [])) (hl : lv_has ls 8 [(0, .ref (a0 0)), (1, .int x1), (3, .ref (a1 0)), (6, .int x6), (7, .int x7)]) (hI : Iw D A (w_Tr g a0 s0 ++ (w_Bs g a1 s1 ++ (rest))) H) (hS : va_S A s.heap H locs) (h : B_Tr_writeNode_91 k91 s0 s1 x1 x6 x7 = some out) : W p l e (headSpec ws_Tr_writeNode { frames := 2, cells := 0, slots := 0, locals := 47 }).room s m args below meth c H locs 0 0 (MQ below (QcI D A g out.1 (fun (_ : Unit) => w_Tr g a0 s0 ++ (w_Bs g a1 out.2 ++ (rest)))) args s 0 0 A) (F0 m 91 ls []) := by
  have X1 := X
  obtain ⟨hx, hb, hml, hown, hts, hr, hlocks, hKK⟩ := X1
  have ht : ∀ w ∈ TB, w.before args s = true := fun w h => hts w (List.mem_cons_of_mem _ h)
  have hK := hKK.1
  unfold B_Tr_writeNode_91 at h
  refine lv_iload hx hb d_Tr_writeNode_91 (lv_at hl 4 rfl) ?_
  refine lv_iload hx hb d_Tr_writeNode_93 (lv_at hl 3 rfl) ?_
  refine lv_icmp_ge (tgt := 131) hx hb d_Tr_writeNode_95 (by decide) (fun hc => ?_) (fun hc => ?_)
  · have h := it_t h hc
    exact t_Tr_writeNode_131 X (lv_sub hl [] rfl) hI hS h
  · have h := it_f h hc
    exact t_Tr_writeNode_98 X hk91 (lv_sub hl [0, 1, 2, 3, 4] rfl) hI hS h
set_option maxRecDepth 100000 in
set_option maxHeartbeats 4000000 in
theorem T_Tr_writeNode_91 {p : Program} {l : Launch} {e : Env} {s : State} {m : MethodId} {args : Array Value} {below : List Frame} {meth : Method} {c : Code} {D : va_G} {A : Nat → Prop} {g : Nat → ClassId} {rest : va_W} {a0 : Nat → Nat} {a1 : Nat → Nat} {ls : Array Slot} {H : Heap} {locs : List Loc} {s0 : S_Tr} {s1 : S_Bs} {x1 : Int32} {x6 : Int32} {x7 : Int32} {out : Int32 × S_Bs} (X : Cx p s m args meth c prog_9_method_16_code 8 ws_Tr_writeNode R_Tr (some .boolean) D g) (hl : lv_has ls 8 [(0, .ref (a0 0)), (1, .int x1), (3, .ref (a1 0)), (6, .int x6), (7, .int x7)]) (hI : Iw D A (w_Tr g a0 s0 ++ (w_Bs g a1 s1 ++ (rest))) H) (hS : va_S A s.heap H locs) (h : L_Tr_writeNode_91  s0 (s1, x1, x6, x7) = some out) : W p l e (headSpec ws_Tr_writeNode { frames := 2, cells := 0, slots := 0, locals := 47 }).room s m args below meth c H locs 0 0 (MQ below (QcI D A g out.1 (fun (_ : Unit) => w_Tr g a0 s0 ++ (w_Bs g a1 out.2 ++ (rest)))) args s 0 0 A) (F0 m 91 ls []) := by
  unfold L_Tr_writeNode_91 at h
  exact lp_ind (P := fun v => ∀ (ls : Array Slot) (H : Heap) (locs : List Loc), lv_has ls 8 [(0, .ref (a0 0)), (1, .int v.2.1), (3, .ref (a1 0)), (6, .int v.2.2.1), (7, .int v.2.2.2)] → Iw D A (w_Tr g a0 s0 ++ (w_Bs g a1 v.1 ++ (rest))) H → va_S A s.heap H locs → W p l e (headSpec ws_Tr_writeNode { frames := 2, cells := 0, slots := 0, locals := 47 }).room s m args below meth c H locs 0 0 (MQ below (QcI D A g out.1 (fun (_ : Unit) => w_Tr g a0 s0 ++ (w_Bs g a1 out.2 ++ (rest)))) args s 0 0 A) (F0 m 91 ls [])) (fun k v ih hb ls H locs  hl hI hS => t_Tr_writeNode_91 X  (fun v' ls H locs  hl hI hS h' => ih v' h' ls H locs  hl hI hS) hl hI hS hb) FU _ h ls H locs  hl hI hS
set_option maxRecDepth 100000 in
set_option maxHeartbeats 4000000 in
theorem t_Tr_writeNode_88 {p : Program} {l : Launch} {e : Env} {s : State} {m : MethodId} {args : Array Value} {below : List Frame} {meth : Method} {c : Code} {D : va_G} {A : Nat → Prop} {g : Nat → ClassId} {rest : va_W} {a0 : Nat → Nat} {a1 : Nat → Nat} {ls : Array Slot} {H : Heap} {locs : List Loc} {s0 : S_Tr} {s1 : S_Bs} {x1 : Int32} {x6 : Int32} {out : Int32 × S_Bs} (X : Cx p s m args meth c prog_9_method_16_code 8 ws_Tr_writeNode R_Tr (some .boolean) D g) (hl : lv_has ls 8 [(0, .ref (a0 0)), (1, .int x1), (3, .ref (a1 0)), (6, .int x6)]) (hI : Iw D A (w_Tr g a0 s0 ++ (w_Bs g a1 s1 ++ (rest))) H) (hS : va_S A s.heap H locs) (h : B_Tr_writeNode_88  s0 s1 x1 x6 = some out) : W p l e (headSpec ws_Tr_writeNode { frames := 2, cells := 0, slots := 0, locals := 47 }).room s m args below meth c H locs 0 0 (MQ below (QcI D A g out.1 (fun (_ : Unit) => w_Tr g a0 s0 ++ (w_Bs g a1 out.2 ++ (rest)))) args s 0 0 A) (F0 m 88 ls []) := by
  have X1 := X
  obtain ⟨hx, hb, hml, hown, hts, hr, hlocks, hKK⟩ := X1
  have ht : ∀ w ∈ TB, w.before args s = true := fun w h => hts w (List.mem_cons_of_mem _ h)
  have hK := hKK.1
  unfold B_Tr_writeNode_88 at h
  refine lv_iconst (v := 0) hx hb d_Tr_writeNode_88 (by decide) ?_
  refine lv_istore hx hb d_Tr_writeNode_89 hl (Nat.le_of_ble_eq_true rfl) rfl (fun ls hl => ?_)
  have hl : lv_has ls 8 [(7, .int (0 : Int32)), (0, .ref (a0 0)), (1, .int x1), (3, .ref (a1 0)), (6, .int x6)] := hl
  exact T_Tr_writeNode_91 X (lv_sub hl [1, 2, 3, 4, 0] rfl) hI hS h
set_option maxRecDepth 100000 in
set_option maxHeartbeats 4000000 in
theorem t_Tr_writeNode_76 {p : Program} {l : Launch} {e : Env} {s : State} {m : MethodId} {args : Array Value} {below : List Frame} {meth : Method} {c : Code} {D : va_G} {A : Nat → Prop} {g : Nat → ClassId} {rest : va_W} {a0 : Nat → Nat} {a1 : Nat → Nat} {ls : Array Slot} {H : Heap} {locs : List Loc} {s0 : S_Tr} {s1 : S_Bs} {x1 : Int32} {x5 : Int32} {x6 : Int32} {out : Int32 × S_Bs} (X : Cx p s m args meth c prog_9_method_16_code 8 ws_Tr_writeNode R_Tr (some .boolean) D g) (hl : lv_has ls 8 [(0, .ref (a0 0)), (1, .int x1), (3, .ref (a1 0)), (5, .int x5), (6, .int x6)]) (hI : Iw D A (w_Tr g a0 s0 ++ (w_Bs g a1 s1 ++ (rest))) H) (hS : va_S A s.heap H locs) (h : B_Tr_writeNode_76  s0 s1 x1 x5 x6 = some out) : W p l e (headSpec ws_Tr_writeNode { frames := 2, cells := 0, slots := 0, locals := 47 }).room s m args below meth c H locs 0 0 (MQ below (QcI D A g out.1 (fun (_ : Unit) => w_Tr g a0 s0 ++ (w_Bs g a1 out.2 ++ (rest)))) args s 0 0 A) (F0 m 76 ls []) := by
  have X1 := X
  obtain ⟨hx, hb, hml, hown, hts, hr, hlocks, hKK⟩ := X1
  have ht : ∀ w ∈ TB, w.before args s = true := fun w h => hts w (List.mem_cons_of_mem _ h)
  have hK := hKK.1
  unfold B_Tr_writeNode_76 at h
  refine lv_aload_n hx hb d_Tr_writeNode_76 rfl (lv_at hl 2 rfl) ?_
  refine lv_iload hx hb d_Tr_writeNode_77 (lv_at hl 4 rfl) ?_
  obtain ⟨o1, ho2, h⟩ := bd_s h
  refine cl_v (W1 := fun (_ : Unit) => w_Tr g a0 s0 ++ (w_Bs g a1 o1 ++ (rest))) (va_runV (As := [.int x6]) (rest := []) ⟨hx, hb, hml, hown, ht⟩ (c_Bs_append (l := l) (D := D) (A := A) (g := g) (rest := w_Tr g a0 s0 ++ (rest)) (a0 := a1) ho2) (cwV 1 ht (gd_V m_555 m_267 m_268 m_2 m_269) rfl rfl rfl (by decide +kernel) ⟨(Nat.le_of_ble_eq_true rfl), (Nat.le_of_ble_eq_true rfl)⟩) (prV (ci := 0) (q0 := 0) hKK hI (mv_1) rfl rfl rfl) rfl rfl hl.1 rfl (lv_room (Nat.le_of_ble_eq_true rfl)) d_Tr_writeNode_79 ⟨(Nat.le_of_ble_eq_true rfl), (Nat.le_of_ble_eq_true rfl)⟩) hS (fun _ => ((mv_1)).symm) (fun _ H locs hI hS => ?_)
  have hI : Iw D A (w_Tr g a0 s0 ++ (w_Bs g a1 o1 ++ (rest))) H := hI
  refine lv_iload hx hb d_Tr_writeNode_82 (lv_at hl 3 rfl) ?_
  refine lv_iconst (v := 2) hx hb d_Tr_writeNode_84 (by decide) ?_
  refine lv_icmp_ne (tgt := 131) hx hb d_Tr_writeNode_85 (by decide) (fun hc => ?_) (fun hc => ?_)
  · have h := it_f h hc
    exact t_Tr_writeNode_131 X (lv_sub hl [] rfl) hI hS h
  · have h := it_t h hc
    exact t_Tr_writeNode_88 X (lv_sub hl [0, 1, 2, 4] rfl) hI hS h
set_option maxRecDepth 100000 in
set_option maxHeartbeats 4000000 in
theorem t_Tr_writeNode_70 {p : Program} {l : Launch} {e : Env} {s : State} {m : MethodId} {args : Array Value} {below : List Frame} {meth : Method} {c : Code} {D : va_G} {A : Nat → Prop} {g : Nat → ClassId} {rest : va_W} {a0 : Nat → Nat} {a1 : Nat → Nat} {ls : Array Slot} {H : Heap} {locs : List Loc} {s0 : S_Tr} {s1 : S_Bs} {x1 : Int32} {x5 : Int32} {x6 : Int32} {out : Int32 × S_Bs} (X : Cx p s m args meth c prog_9_method_16_code 8 ws_Tr_writeNode R_Tr (some .boolean) D g) (hl : lv_has ls 8 [(0, .ref (a0 0)), (1, .int x1), (3, .ref (a1 0)), (5, .int x5), (6, .int x6)]) (hI : Iw D A (w_Tr g a0 s0 ++ (w_Bs g a1 s1 ++ (rest))) H) (hS : va_S A s.heap H locs) (h : B_Tr_writeNode_70  s0 s1 x1 x5 x6 = some out) : W p l e (headSpec ws_Tr_writeNode { frames := 2, cells := 0, slots := 0, locals := 47 }).room s m args below meth c H locs 0 0 (MQ below (QcI D A g out.1 (fun (_ : Unit) => w_Tr g a0 s0 ++ (w_Bs g a1 out.2 ++ (rest)))) args s 0 0 A) (F0 m 70 ls []) := by
  have X1 := X
  obtain ⟨hx, hb, hml, hown, hts, hr, hlocks, hKK⟩ := X1
  have ht : ∀ w ∈ TB, w.before args s = true := fun w h => hts w (List.mem_cons_of_mem _ h)
  have hK := hKK.1
  unfold B_Tr_writeNode_70 at h
  refine lv_aload_n hx hb d_Tr_writeNode_70 rfl (lv_at hl 2 rfl) ?_
  refine lv_iload hx hb d_Tr_writeNode_71 (lv_at hl 3 rfl) ?_
  obtain ⟨o1, ho2, h⟩ := bd_s h
  refine cl_v (W1 := fun (_ : Unit) => w_Tr g a0 s0 ++ (w_Bs g a1 o1 ++ (rest))) (va_runV (As := [.int x5]) (rest := []) ⟨hx, hb, hml, hown, ht⟩ (c_Bs_append (l := l) (D := D) (A := A) (g := g) (rest := w_Tr g a0 s0 ++ (rest)) (a0 := a1) ho2) (cwV 1 ht (gd_V m_555 m_267 m_268 m_2 m_269) rfl rfl rfl (by decide +kernel) ⟨(Nat.le_of_ble_eq_true rfl), (Nat.le_of_ble_eq_true rfl)⟩) (prV (ci := 0) (q0 := 0) hKK hI (mv_1) rfl rfl rfl) rfl rfl hl.1 rfl (lv_room (Nat.le_of_ble_eq_true rfl)) d_Tr_writeNode_73 ⟨(Nat.le_of_ble_eq_true rfl), (Nat.le_of_ble_eq_true rfl)⟩) hS (fun _ => ((mv_1)).symm) (fun _ H locs hI hS => ?_)
  have hI : Iw D A (w_Tr g a0 s0 ++ (w_Bs g a1 o1 ++ (rest))) H := hI
  exact t_Tr_writeNode_76 X (lv_sub hl [0, 1, 2, 3, 4] rfl) hI hS h
set_option maxRecDepth 100000 in
set_option maxHeartbeats 4000000 in
theorem t_Tr_writeNode_64 {p : Program} {l : Launch} {e : Env} {s : State} {m : MethodId} {args : Array Value} {below : List Frame} {meth : Method} {c : Code} {D : va_G} {A : Nat → Prop} {g : Nat → ClassId} {rest : va_W} {a0 : Nat → Nat} {a1 : Nat → Nat} {ls : Array Slot} {H : Heap} {locs : List Loc} {s0 : S_Tr} {s1 : S_Bs} {x1 : Int32} {x5 : Int32} {x6 : Int32} {out : Int32 × S_Bs} (X : Cx p s m args meth c prog_9_method_16_code 8 ws_Tr_writeNode R_Tr (some .boolean) D g) (hl : lv_has ls 8 [(0, .ref (a0 0)), (1, .int x1), (3, .ref (a1 0)), (5, .int x5), (6, .int x6)]) (hI : Iw D A (w_Tr g a0 s0 ++ (w_Bs g a1 s1 ++ (rest))) H) (hS : va_S A s.heap H locs) (h : B_Tr_writeNode_64  s0 s1 x1 x5 x6 = some out) : W p l e (headSpec ws_Tr_writeNode { frames := 2, cells := 0, slots := 0, locals := 47 }).room s m args below meth c H locs 0 0 (MQ below (QcI D A g out.1 (fun (_ : Unit) => w_Tr g a0 s0 ++ (w_Bs g a1 out.2 ++ (rest)))) args s 0 0 A) (F0 m 64 ls []) := by
  have X1 := X
  obtain ⟨hx, hb, hml, hown, hts, hr, hlocks, hKK⟩ := X1
  have ht : ∀ w ∈ TB, w.before args s = true := fun w h => hts w (List.mem_cons_of_mem _ h)
  have hK := hKK.1
  unfold B_Tr_writeNode_64 at h
  refine lv_iload hx hb d_Tr_writeNode_64 (lv_at hl 3 rfl) ?_
  refine lv_iconst (v := 4) hx hb d_Tr_writeNode_66 (by decide) ?_
  refine lv_icmp_eq (tgt := 76) hx hb d_Tr_writeNode_67 (by decide) (fun hc => ?_) (fun hc => ?_)
  · have h := it_t h hc
    exact t_Tr_writeNode_76 X (lv_sub hl [0, 1, 2, 3, 4] rfl) hI hS h
  · have h := it_f h hc
    exact t_Tr_writeNode_70 X (lv_sub hl [0, 1, 2, 3, 4] rfl) hI hS h
set_option maxRecDepth 100000 in
set_option maxHeartbeats 4000000 in
theorem t_Tr_writeNode_54 {p : Program} {l : Launch} {e : Env} {s : State} {m : MethodId} {args : Array Value} {below : List Frame} {meth : Method} {c : Code} {D : va_G} {A : Nat → Prop} {g : Nat → ClassId} {rest : va_W} {a0 : Nat → Nat} {a1 : Nat → Nat} {ls : Array Slot} {H : Heap} {locs : List Loc} {s0 : S_Tr} {s1 : S_Bs} {x1 : Int32} {x2 : Int32} {x4 : Int32} {x5 : Int32} {x6 : Int32} {out : Int32 × S_Bs} (X : Cx p s m args meth c prog_9_method_16_code 8 ws_Tr_writeNode R_Tr (some .boolean) D g) (hl : lv_has ls 8 [(0, .ref (a0 0)), (1, .int x1), (2, .int x2), (3, .ref (a1 0)), (4, .int x4), (5, .int x5), (6, .int x6)]) (hI : Iw D A (w_Tr g a0 s0 ++ (w_Bs g a1 s1 ++ (rest))) H) (hS : va_S A s.heap H locs) (h : B_Tr_writeNode_54  s0 s1 x1 x2 x4 x5 x6 = some out) : W p l e (headSpec ws_Tr_writeNode { frames := 2, cells := 0, slots := 0, locals := 47 }).room s m args below meth c H locs 0 0 (MQ below (QcI D A g out.1 (fun (_ : Unit) => w_Tr g a0 s0 ++ (w_Bs g a1 out.2 ++ (rest)))) args s 0 0 A) (F0 m 54 ls []) := by
  have X1 := X
  obtain ⟨hx, hb, hml, hown, hts, hr, hlocks, hKK⟩ := X1
  have ht : ∀ w ∈ TB, w.before args s = true := fun w h => hts w (List.mem_cons_of_mem _ h)
  have hK := hKK.1
  unfold B_Tr_writeNode_54 at h
  refine lv_aload_n hx hb d_Tr_writeNode_54 rfl (lv_at hl 3 rfl) ?_
  refine lv_iload hx hb d_Tr_writeNode_55 (lv_at hl 4 rfl) ?_
  obtain ⟨o1, ho2, h⟩ := bd_s h
  refine cl_v (W1 := fun (_ : Unit) => w_Tr g a0 s0 ++ (w_Bs g a1 o1 ++ (rest))) (va_runV (As := [.int x4]) (rest := []) ⟨hx, hb, hml, hown, ht⟩ (c_Bs_append (l := l) (D := D) (A := A) (g := g) (rest := w_Tr g a0 s0 ++ (rest)) (a0 := a1) ho2) (cwV 1 ht (gd_V m_555 m_267 m_268 m_2 m_269) rfl rfl rfl (by decide +kernel) ⟨(Nat.le_of_ble_eq_true rfl), (Nat.le_of_ble_eq_true rfl)⟩) (prV (ci := 0) (q0 := 0) hKK hI (mv_1) rfl rfl rfl) rfl rfl hl.1 rfl (lv_room (Nat.le_of_ble_eq_true rfl)) d_Tr_writeNode_57 ⟨(Nat.le_of_ble_eq_true rfl), (Nat.le_of_ble_eq_true rfl)⟩) hS (fun _ => ((mv_1)).symm) (fun _ H locs hI hS => ?_)
  have hI : Iw D A (w_Tr g a0 s0 ++ (w_Bs g a1 o1 ++ (rest))) H := hI
  refine lv_iload_n hx hb d_Tr_writeNode_60 rfl (lv_at hl 2 rfl) ?_
  refine lv_if_ne (tgt := 76) hx hb d_Tr_writeNode_61 (by decide) (fun hc => ?_) (fun hc => ?_)
  · have h := it_f h hc
    exact t_Tr_writeNode_76 X (lv_sub hl [0, 1, 3, 5, 6] rfl) hI hS h
  · have h := it_t h hc
    exact t_Tr_writeNode_64 X (lv_sub hl [0, 1, 3, 5, 6] rfl) hI hS h
set_option maxRecDepth 100000 in
set_option maxHeartbeats 4000000 in
theorem t_Tr_writeNode_52 {p : Program} {l : Launch} {e : Env} {s : State} {m : MethodId} {args : Array Value} {below : List Frame} {meth : Method} {c : Code} {D : va_G} {A : Nat → Prop} {g : Nat → ClassId} {rest : va_W} {a0 : Nat → Nat} {a1 : Nat → Nat} {ls : Array Slot} {H : Heap} {locs : List Loc} {s0 : S_Tr} {s1 : S_Bs} {out : Int32 × S_Bs} (X : Cx p s m args meth c prog_9_method_16_code 8 ws_Tr_writeNode R_Tr (some .boolean) D g) (hl : lv_has ls 8 []) (hI : Iw D A (w_Tr g a0 s0 ++ (w_Bs g a1 s1 ++ (rest))) H) (hS : va_S A s.heap H locs) (h : B_Tr_writeNode_52  s0 s1 = some out) : W p l e (headSpec ws_Tr_writeNode { frames := 2, cells := 0, slots := 0, locals := 47 }).room s m args below meth c H locs 0 0 (MQ below (QcI D A g out.1 (fun (_ : Unit) => w_Tr g a0 s0 ++ (w_Bs g a1 out.2 ++ (rest)))) args s 0 0 A) (F0 m 52 ls []) := by
  have X1 := X
  obtain ⟨hx, hb, hml, hown, hts, hr, hlocks, hKK⟩ := X1
  have ht : ∀ w ∈ TB, w.before args s = true := fun w h => hts w (List.mem_cons_of_mem _ h)
  have hK := hKK.1
  unfold B_Tr_writeNode_52 at h
  refine lv_iconst (v := 0) hx hb d_Tr_writeNode_52 (by decide) ?_
  have h9 := Option.some.inj h
  subst h9
  exact W.zret (v := (0 : Int32)) hx hb hr rfl (fun t ht hW => ⟨⟨_, (), rfl, rfl, ⟨by rw [ht]; exact hI, hKK.moved hW⟩⟩, hS.F ht⟩) hS.2.2 d_Tr_writeNode_53
set_option maxRecDepth 100000 in
set_option maxHeartbeats 4000000 in
theorem t_Tr_writeNode_36 {p : Program} {l : Launch} {e : Env} {s : State} {m : MethodId} {args : Array Value} {below : List Frame} {meth : Method} {c : Code} {D : va_G} {A : Nat → Prop} {g : Nat → ClassId} {rest : va_W} {a0 : Nat → Nat} {a1 : Nat → Nat} {ls : Array Slot} {H : Heap} {locs : List Loc} {s0 : S_Tr} {s1 : S_Bs} {x1 : Int32} {x2 : Int32} {x4 : Int32} {x5 : Int32} {out : Int32 × S_Bs} (X : Cx p s m args meth c prog_9_method_16_code 8 ws_Tr_writeNode R_Tr (some .boolean) D g) (hl : lv_has ls 8 [(0, .ref (a0 0)), (1, .int x1), (2, .int x2), (3, .ref (a1 0)), (4, .int x4), (5, .int x5)]) (hI : Iw D A (w_Tr g a0 s0 ++ (w_Bs g a1 s1 ++ (rest))) H) (hS : va_S A s.heap H locs) (h : B_Tr_writeNode_36  s0 s1 x1 x2 x4 x5 = some out) : W p l e (headSpec ws_Tr_writeNode { frames := 2, cells := 0, slots := 0, locals := 47 }).room s m args below meth c H locs 0 0 (MQ below (QcI D A g out.1 (fun (_ : Unit) => w_Tr g a0 s0 ++ (w_Bs g a1 out.2 ++ (rest)))) args s 0 0 A) (F0 m 36 ls []) := by
  have X1 := X
  obtain ⟨hx, hb, hml, hown, hts, hr, hlocks, hKK⟩ := X1
  have ht : ∀ w ∈ TB, w.before args s = true := fun w h => hts w (List.mem_cons_of_mem _ h)
  have hK := hKK.1
  unfold B_Tr_writeNode_36 at h
  refine lv_aload_n hx hb d_Tr_writeNode_36 rfl (lv_at hl 0 rfl) ?_
  refine lv_iload_n hx hb d_Tr_writeNode_37 rfl (lv_at hl 1 rfl) ?_
  refine lv_iload_n hx hb d_Tr_writeNode_38 rfl (lv_at hl 2 rfl) ?_
  obtain ⟨o1, ho2, h⟩ := bd_s h
  refine cl_i (W1 := fun (_ : Unit) => w_Tr g a0 s0 ++ (w_Bs g a1 s1 ++ (rest))) (va_runV (As := [.int x1, .int x2]) (rest := []) ⟨hx, hb, hml, hown, ht⟩ (c_Tr_valueLength (l := l) (D := D) (A := A) (g := g) (rest := w_Bs g a1 s1 ++ (rest)) (a0 := a0) ho2) (cwV 2 ht (gd_V m_575 m_577 mp_31 m_9 m_578) rfl rfl rfl (by decide +kernel) ⟨(Nat.le_of_ble_eq_true rfl), (Nat.le_of_ble_eq_true rfl)⟩) (prV (ci := 7) (q0 := 0) hKK hI (List.Perm.refl _) rfl rfl rfl) rfl rfl hl.1 rfl (lv_room (Nat.le_of_ble_eq_true rfl)) d_Tr_writeNode_39 ⟨(Nat.le_of_ble_eq_true rfl), (Nat.le_of_ble_eq_true rfl)⟩) hS (fun _ => ((List.Perm.refl _)).symm) (fun _ H locs hI hS => ?_)
  have hI : Iw D A (w_Tr g a0 s0 ++ (w_Bs g a1 s1 ++ (rest))) H := hI
  refine lv_istore hx hb d_Tr_writeNode_42 hl (Nat.le_of_ble_eq_true rfl) rfl (fun ls hl => ?_)
  have hl : lv_has ls 8 [(6, .int o1), (0, .ref (a0 0)), (1, .int x1), (2, .int x2), (3, .ref (a1 0)), (4, .int x4), (5, .int x5)] := hl
  refine lv_iload hx hb d_Tr_writeNode_44 (lv_at hl 0 rfl) ?_
  refine lv_sipush (v := 240) hx hb d_Tr_writeNode_46 (by decide) ?_
  refine lv_icmp_le (tgt := 54) hx hb d_Tr_writeNode_49 (by decide) (fun hc => ?_) (fun hc => ?_)
  · have h := it_t h hc
    exact t_Tr_writeNode_54 X (lv_sub hl [1, 2, 3, 4, 5, 6, 0] rfl) hI hS h
  · have h := it_f h hc
    exact t_Tr_writeNode_52 X (lv_sub hl [] rfl) hI hS h
set_option maxRecDepth 100000 in
set_option maxHeartbeats 4000000 in
theorem t_Tr_writeNode_21 {p : Program} {l : Launch} {e : Env} {s : State} {m : MethodId} {args : Array Value} {below : List Frame} {meth : Method} {c : Code} {D : va_G} {A : Nat → Prop} {g : Nat → ClassId} {rest : va_W} {a0 : Nat → Nat} {a1 : Nat → Nat} {ls : Array Slot} {H : Heap} {locs : List Loc} {s0 : S_Tr} {s1 : S_Bs} {x1 : Int32} {x2 : Int32} {x4 : Int32} {out : Int32 × S_Bs} (X : Cx p s m args meth c prog_9_method_16_code 8 ws_Tr_writeNode R_Tr (some .boolean) D g) (hl : lv_has ls 8 [(0, .ref (a0 0)), (1, .int x1), (2, .int x2), (3, .ref (a1 0)), (4, .int x4)]) (hI : Iw D A (w_Tr g a0 s0 ++ (w_Bs g a1 s1 ++ (rest))) H) (hS : va_S A s.heap H locs) (h : B_Tr_writeNode_21  s0 s1 x1 x2 x4 = some out) : W p l e (headSpec ws_Tr_writeNode { frames := 2, cells := 0, slots := 0, locals := 47 }).room s m args below meth c H locs 0 0 (MQ below (QcI D A g out.1 (fun (_ : Unit) => w_Tr g a0 s0 ++ (w_Bs g a1 out.2 ++ (rest)))) args s 0 0 A) (F0 m 21 ls []) := by
  have X1 := X
  obtain ⟨hx, hb, hml, hown, hts, hr, hlocks, hKK⟩ := X1
  have ht : ∀ w ∈ TB, w.before args s = true := fun w h => hts w (List.mem_cons_of_mem _ h)
  have hK := hKK.1
  unfold B_Tr_writeNode_21 at h
  refine lv_iload hx hb d_Tr_writeNode_21 (lv_at hl 4 rfl) ?_
  refine lv_aload_n hx hb d_Tr_writeNode_23 rfl (lv_at hl 0 rfl) ?_
  refine va_get (D := D) (ci := 7) (v := .ref (a0 3)) (C := R_Tr) (T := T_Tr) (N := 7) hx hb ht in_Tr hown hK hI.1 0 rfl rfl 2 (by decide) (ht _ m_136) (fun _ h9 => h9) rfl d_Tr_writeNode_24 ?_
  refine lv_iload_n hx hb d_Tr_writeNode_27 rfl (lv_at hl 1 rfl) ?_
  by_cases hc1 : (x1 < 0 ∨ 101 ≤ x1.toNatClampNeg)
  · exact no_s (it_t h hc1)
  have h := it_f h hc1
  refine va_iald hx hb hK hI.1 3 0 rfl rfl hc1 d_Tr_writeNode_28 ?_
  refine lv_iload_n hx hb d_Tr_writeNode_29 rfl (lv_at hl 2 rfl) ?_
  refine lv_aload_n hx hb d_Tr_writeNode_30 rfl (lv_at hl 3 rfl) ?_
  obtain ⟨o2, ho3, h⟩ := bd_s h
  refine cl_v (W1 := fun (_ : Unit) => w_Tr g a0 s0 ++ (w_Bs g a1 o2 ++ (rest))) (va_runS (As := [.int x4, .int ((Tr_values s0) x1.toNatClampNeg), .int x2, .ref (a1 0)]) (rest := []) ⟨hx, hb, hml, hown, ht⟩ (c_Tr_writeNumber (l := l) (D := D) (A := A) (g := g) (rest := w_Tr g a0 s0 ++ (rest)) (a0 := a1) ho3) (va_cwS 4 ht (gd_S m_574 m_552 m_9 m_553) rfl rfl rfl (by decide +kernel) ⟨(Nat.le_of_ble_eq_true rfl), (Nat.le_of_ble_eq_true rfl)⟩) (prS hKK hI (mv_1)) rfl rfl hl.1 rfl (lv_room (Nat.le_of_ble_eq_true rfl)) d_Tr_writeNode_31 ⟨(Nat.le_of_ble_eq_true rfl), (Nat.le_of_ble_eq_true rfl)⟩) hS (fun _ => ((mv_1)).symm) (fun _ H locs hI hS => ?_)
  have hI : Iw D A (w_Tr g a0 s0 ++ (w_Bs g a1 o2 ++ (rest))) H := hI
  refine lv_iconst (v := 1) hx hb d_Tr_writeNode_34 (by decide) ?_
  have h9 := Option.some.inj h
  subst h9
  exact W.zret (v := (1 : Int32)) hx hb hr rfl (fun t ht hW => ⟨⟨_, (), rfl, rfl, ⟨by rw [ht]; exact hI, hKK.moved hW⟩⟩, hS.F ht⟩) hS.2.2 d_Tr_writeNode_35
set_option maxRecDepth 100000 in
set_option maxHeartbeats 4000000 in
theorem t_Tr_writeNode_0 {p : Program} {l : Launch} {e : Env} {s : State} {m : MethodId} {args : Array Value} {below : List Frame} {meth : Method} {c : Code} {D : va_G} {A : Nat → Prop} {g : Nat → ClassId} {rest : va_W} {a0 : Nat → Nat} {a1 : Nat → Nat} {ls : Array Slot} {H : Heap} {locs : List Loc} {s0 : S_Tr} {s1 : S_Bs} {x1 : Int32} {x2 : Int32} {out : Int32 × S_Bs} (X : Cx p s m args meth c prog_9_method_16_code 8 ws_Tr_writeNode R_Tr (some .boolean) D g) (hl : lv_has ls 8 [(0, .ref (a0 0)), (1, .int x1), (2, .int x2), (3, .ref (a1 0))]) (hI : Iw D A (w_Tr g a0 s0 ++ (w_Bs g a1 s1 ++ (rest))) H) (hS : va_S A s.heap H locs) (h : B_Tr_writeNode_0  s0 s1 x1 x2 = some out) : W p l e (headSpec ws_Tr_writeNode { frames := 2, cells := 0, slots := 0, locals := 47 }).room s m args below meth c H locs 0 0 (MQ below (QcI D A g out.1 (fun (_ : Unit) => w_Tr g a0 s0 ++ (w_Bs g a1 out.2 ++ (rest)))) args s 0 0 A) (F0 m 0 ls []) := by
  have X1 := X
  obtain ⟨hx, hb, hml, hown, hts, hr, hlocks, hKK⟩ := X1
  have ht : ∀ w ∈ TB, w.before args s = true := fun w h => hts w (List.mem_cons_of_mem _ h)
  have hK := hKK.1
  unfold B_Tr_writeNode_0 at h
  refine lv_aload_n hx hb d_Tr_writeNode_0 rfl (lv_at hl 0 rfl) ?_
  refine va_get (D := D) (ci := 7) (v := .ref (a0 1)) (C := R_Tr) (T := T_Tr) (N := 7) hx hb ht in_Tr hown hK hI.1 0 rfl rfl 0 (by decide) (ht _ m_134) (fun _ h9 => h9) rfl d_Tr_writeNode_1 ?_
  refine lv_iload_n hx hb d_Tr_writeNode_4 rfl (lv_at hl 1 rfl) ?_
  by_cases hc1 : (x1 < 0 ∨ 101 ≤ x1.toNatClampNeg)
  · exact no_s (it_t h hc1)
  have h := it_f h hc1
  refine va_iald hx hb hK hI.1 1 0 rfl rfl hc1 d_Tr_writeNode_5 ?_
  refine lv_istore hx hb d_Tr_writeNode_6 hl (Nat.le_of_ble_eq_true rfl) rfl (fun ls hl => ?_)
  have hl : lv_has ls 8 [(4, .int ((Tr_tags s0) x1.toNatClampNeg)), (0, .ref (a0 0)), (1, .int x1), (2, .int x2), (3, .ref (a1 0))] := hl
  refine lv_iload hx hb d_Tr_writeNode_8 (lv_at hl 0 rfl) ?_
  obtain ⟨o2, ho3, h⟩ := bd_s h
  refine cl_i (W1 := fun (_ : Unit) => w_Tr g a0 s0 ++ (w_Bs g a1 s1 ++ (rest))) (va_runSN (As := [.int ((Tr_tags s0) x1.toNatClampNeg)]) (rest := []) ⟨hx, hb, hml, hown, ht⟩ (c_Rn_kindOf (l := l) (D := D) (A := A) (g := g) (rest := w_Tr g a0 s0 ++ (w_Bs g a1 s1 ++ (rest)))  ho3) ⟨va_cnB 1 ht (gd_0 m_456) rfl rfl rfl hKK.2.2.1 (ht _ m_1) (by decide +kernel) ⟨(Nat.le_of_ble_eq_true rfl), (Nat.le_of_ble_eq_true rfl)⟩, ht _ m_455, trivial⟩ (prS hKK hI (List.Perm.refl _)) rfl rfl hl.1 rfl (lv_room (Nat.le_of_ble_eq_true rfl)) d_Tr_writeNode_10 ⟨(Nat.le_of_ble_eq_true rfl), (Nat.le_of_ble_eq_true rfl)⟩) hS (fun _ => ((List.Perm.refl _)).symm) (fun _ H locs hI hS => ?_)
  have hI : Iw D A (w_Tr g a0 s0 ++ (w_Bs g a1 s1 ++ (rest))) H := hI
  refine lv_istore hx hb d_Tr_writeNode_13 hl (Nat.le_of_ble_eq_true rfl) rfl (fun ls hl => ?_)
  have hl : lv_has ls 8 [(5, .int o2), (4, .int ((Tr_tags s0) x1.toNatClampNeg)), (0, .ref (a0 0)), (1, .int x1), (2, .int x2), (3, .ref (a1 0))] := hl
  refine lv_iload hx hb d_Tr_writeNode_15 (lv_at hl 0 rfl) ?_
  refine lv_iconst (v := 1) hx hb d_Tr_writeNode_17 (by decide) ?_
  refine lv_icmp_ne (tgt := 36) hx hb d_Tr_writeNode_18 (by decide) (fun hc => ?_) (fun hc => ?_)
  · have h := it_f h hc
    exact t_Tr_writeNode_36 X (lv_sub hl [2, 3, 4, 5, 1, 0] rfl) hI hS h
  · have h := it_t h hc
    exact t_Tr_writeNode_21 X (lv_sub hl [2, 3, 4, 5, 1] rfl) hI hS h
set_option maxRecDepth 100000 in
set_option maxHeartbeats 4000000 in
theorem c_Tr_writeNode {l : Launch} {D : va_G} {A : Nat → Prop} {g : Nat → ClassId} {rest : va_W} {a0 : Nat → Nat} {a1 : Nat → Nat} {s0 : S_Tr} {s1 : S_Bs} {x1 : Int32} {x2 : Int32} {out : Int32 × S_Bs} (h : F_Tr_writeNode s0 s1 x1 x2 = some out) : Met l y_Tr_writeNode ws_Tr_writeNode { frames := 2, cells := 0, slots := 0, locals := 47 } (PcW D A g [.ref (a0 0), .int x1, .int x2, .ref (a1 0)] (w_Tr g a0 s0 ++ (w_Bs g a1 s1 ++ (rest)))) (QcI D A g out.1 (fun (_ : Unit) => w_Tr g a0 s0 ++ (w_Bs g a1 out.2 ++ (rest)))) 0 0 A := by
  refine Met.ofW (cc := prog_9_method_16_code) (maxL := 8) (ret := (some .boolean)) (by decide) rfl ?_
  intro p e s m args below meth c s₁ B hml hv
  obtain ⟨rfl, hI, hK⟩ := hv
  have hl := lv_entry [.ref (a0 0), .int x1, .int x2, .ref (a1 0)] (n := 8) (Nat.le_of_ble_eq_true rfl)
  rw [lg_entry_eq]
  generalize (lg_sl [.ref (a0 0), .int x1, .int x2, .ref (a1 0)] ++ List.replicate (8 - (lg_sl [.ref (a0 0), .int x1, .int x2, .ref (a1 0)]).length) Slot.unset).toArray = ls at hl ⊢
  have hl : lv_has ls 8 [(0, .ref (a0 0)), (1, .int x1), (2, .int x2), (3, .ref (a1 0))] := hl
  exact t_Tr_writeNode_0 ⟨B.exec, B.bytes, hml, findClass_of_methodNamed B.named, atoms_spec (ws := ws_Tr_writeNode) B.pre, B.returns, B.notSynchronized, hK⟩ (lv_sub hl [0, 1, 2, 3] rfl) hI va_S.rf h
def ws_Tr_writeAll : List Cond := .code y_Tr_writeAll prog_9_method_14_code 5 (some .boolean) :: TB
def B_Tr_writeAll_37 (s0 : S_Tr) (s1 : S_Bs) (x3 : Int32) : Option (Int32 × S_Bs) :=
  (if x3 = 0 ∨ x3 = 1 then some (x3, s1) else none)
def B_Tr_writeAll_22 (k9 : S_Bs × Int32 × Int32 × Int32 → Option (Int32 × S_Bs)) (s0 : S_Tr) (s1 : S_Bs) (x1 : Int32) (x4 : Int32) : Option (Int32 × S_Bs) :=
  ((F_Tr_writeNode s0 s1 x4 x1).bind fun o1 => (k9 (o1.2, x1, o1.1, (x4 + 1))))
def B_Tr_writeAll_18 (k9 : S_Bs × Int32 × Int32 × Int32 → Option (Int32 × S_Bs)) (s0 : S_Tr) (s1 : S_Bs) (x1 : Int32) (x3 : Int32) (x4 : Int32) : Option (Int32 × S_Bs) :=
  (if x3 = 0 then (B_Tr_writeAll_37 s0 s1 x3) else (B_Tr_writeAll_22 k9 s0 s1 x1 x4))
def B_Tr_writeAll_9 (k9 : S_Bs × Int32 × Int32 × Int32 → Option (Int32 × S_Bs)) (s0 : S_Tr) (s1 : S_Bs) (x1 : Int32) (x3 : Int32) (x4 : Int32) : Option (Int32 × S_Bs) :=
  (if (Tr_count s0) ≤ x4 then (B_Tr_writeAll_37 s0 s1 x3) else (B_Tr_writeAll_18 k9 s0 s1 x1 x3 x4))
def L_Tr_writeAll_9 (s0 : S_Tr) (v : S_Bs × Int32 × Int32 × Int32) : Option (Int32 × S_Bs) := lp (fun k9 v => B_Tr_writeAll_9  k9 s0 v.1 v.2.1 v.2.2.1 v.2.2.2) FU v
def B_Tr_writeAll_0 (s0 : S_Tr) (s1 : S_Bs) (x1 : Int32) : Option (Int32 × S_Bs) :=
  ((F_Bs_reset s1).bind fun o1 => (L_Tr_writeAll_9 s0 (o1, x1, (1 : Int32), (1 : Int32))))
def F_Tr_writeAll (s0 : S_Tr) (s1 : S_Bs) (x1 : Int32) : Option (Int32 × S_Bs) := B_Tr_writeAll_0 s0 s1 x1
set_option maxRecDepth 100000 in
set_option maxHeartbeats 4000000 in
theorem t_Tr_writeAll_37 {p : Program} {l : Launch} {e : Env} {s : State} {m : MethodId} {args : Array Value} {below : List Frame} {meth : Method} {c : Code} {D : va_G} {A : Nat → Prop} {g : Nat → ClassId} {rest : va_W} {a0 : Nat → Nat} {a1 : Nat → Nat} {ls : Array Slot} {H : Heap} {locs : List Loc} {s0 : S_Tr} {s1 : S_Bs} {x3 : Int32} {out : Int32 × S_Bs} (X : Cx p s m args meth c prog_9_method_14_code 5 ws_Tr_writeAll R_Tr (some .boolean) D g) (hl : lv_has ls 5 [(3, .int x3)]) (hI : Iw D A (w_Tr g a0 s0 ++ (w_Bs g a1 s1 ++ (rest))) H) (hS : va_S A s.heap H locs) (h : B_Tr_writeAll_37  s0 s1 x3 = some out) : W p l e (headSpec ws_Tr_writeAll { frames := 3, cells := 0, slots := 0, locals := 74 }).room s m args below meth c H locs 0 0 (MQ below (QcI D A g out.1 (fun (_ : Unit) => w_Tr g a0 s0 ++ (w_Bs g a1 out.2 ++ (rest)))) args s 0 0 A) (F0 m 37 ls []) := by
  have X1 := X
  obtain ⟨hx, hb, hml, hown, hts, hr, hlocks, hKK⟩ := X1
  have ht : ∀ w ∈ TB, w.before args s = true := fun w h => hts w (List.mem_cons_of_mem _ h)
  have hK := hKK.1
  unfold B_Tr_writeAll_37 at h
  refine lv_iload_n hx hb d_Tr_writeAll_37 rfl (lv_at hl 0 rfl) ?_
  have hc1 : x3 = 0 ∨ x3 = 1 := by
    by_cases z : x3 = 0 ∨ x3 = 1
    · exact z
    · exact no_s (it_f h z)
  have h := it_t h hc1
  have h9 := Option.some.inj h
  subst h9
  exact W.zret (v := x3) hx hb hr (by rcases hc1 with z | z <;> rw [z] <;> rfl) (fun t ht hW => ⟨⟨_, (), rfl, rfl, ⟨by rw [ht]; exact hI, hKK.moved hW⟩⟩, hS.F ht⟩) hS.2.2 d_Tr_writeAll_38
set_option maxRecDepth 100000 in
set_option maxHeartbeats 4000000 in
theorem t_Tr_writeAll_22 {p : Program} {l : Launch} {e : Env} {s : State} {m : MethodId} {args : Array Value} {below : List Frame} {meth : Method} {c : Code} {D : va_G} {A : Nat → Prop} {g : Nat → ClassId} {rest : va_W} {a0 : Nat → Nat} {a1 : Nat → Nat} {ls : Array Slot} {H : Heap} {locs : List Loc} {k9 : S_Bs × Int32 × Int32 × Int32 → Option (Int32 × S_Bs)} {s0 : S_Tr} {s1 : S_Bs} {x1 : Int32} {x4 : Int32} {out : Int32 × S_Bs} (X : Cx p s m args meth c prog_9_method_14_code 5 ws_Tr_writeAll R_Tr (some .boolean) D g) (hk9 : ∀ (v : S_Bs × Int32 × Int32 × Int32) (ls : Array Slot) (H : Heap) (locs : List Loc), lv_has ls 5 [(0, .ref (a0 0)), (1, .int v.2.1), (2, .ref (a1 0)), (3, .int v.2.2.1), (4, .int v.2.2.2)] → Iw D A (w_Tr g a0 s0 ++ (w_Bs g a1 v.1 ++ (rest))) H → va_S A s.heap H locs → k9 v = some out → W p l e (headSpec ws_Tr_writeAll { frames := 3, cells := 0, slots := 0, locals := 74 }).room s m args below meth c H locs 0 0 (MQ below (QcI D A g out.1 (fun (_ : Unit) => w_Tr g a0 s0 ++ (w_Bs g a1 out.2 ++ (rest)))) args s 0 0 A) (F0 m 9 ls [])) (hl : lv_has ls 5 [(0, .ref (a0 0)), (1, .int x1), (2, .ref (a1 0)), (4, .int x4)]) (hI : Iw D A (w_Tr g a0 s0 ++ (w_Bs g a1 s1 ++ (rest))) H) (hS : va_S A s.heap H locs) (h : B_Tr_writeAll_22 k9 s0 s1 x1 x4 = some out) : W p l e (headSpec ws_Tr_writeAll { frames := 3, cells := 0, slots := 0, locals := 74 }).room s m args below meth c H locs 0 0 (MQ below (QcI D A g out.1 (fun (_ : Unit) => w_Tr g a0 s0 ++ (w_Bs g a1 out.2 ++ (rest)))) args s 0 0 A) (F0 m 22 ls []) := by
  have X1 := X
  obtain ⟨hx, hb, hml, hown, hts, hr, hlocks, hKK⟩ := X1
  have ht : ∀ w ∈ TB, w.before args s = true := fun w h => hts w (List.mem_cons_of_mem _ h)
  have hK := hKK.1
  unfold B_Tr_writeAll_22 at h
  refine lv_aload_n hx hb d_Tr_writeAll_22 rfl (lv_at hl 0 rfl) ?_
  refine lv_iload hx hb d_Tr_writeAll_23 (lv_at hl 3 rfl) ?_
  refine lv_iload_n hx hb d_Tr_writeAll_25 rfl (lv_at hl 1 rfl) ?_
  refine lv_aload_n hx hb d_Tr_writeAll_26 rfl (lv_at hl 2 rfl) ?_
  obtain ⟨o1, ho2, h⟩ := bd_s h
  refine cl_i (W1 := fun (_ : Unit) => w_Tr g a0 s0 ++ (w_Bs g a1 o1.2 ++ (rest))) (va_runV (As := [.int x4, .int x1, .ref (a1 0)]) (rest := []) ⟨hx, hb, hml, hown, ht⟩ (c_Tr_writeNode (l := l) (D := D) (A := A) (g := g) (rest := rest) (a0 := a0) (a1 := a1) ho2) (cwV 3 ht (gd_V m_569 m_571 mp_30 m_9 m_572) rfl rfl rfl (by decide +kernel) ⟨(Nat.le_of_ble_eq_true rfl), (Nat.le_of_ble_eq_true rfl)⟩) (prV (ci := 7) (q0 := 0) hKK hI ((mv_1).trans (mv_1)) rfl rfl rfl) rfl rfl hl.1 rfl (lv_room (Nat.le_of_ble_eq_true rfl)) d_Tr_writeAll_27 ⟨(Nat.le_of_ble_eq_true rfl), (Nat.le_of_ble_eq_true rfl)⟩) hS (fun _ => (((mv_1).trans (mv_1))).symm) (fun _ H locs hI hS => ?_)
  have hI : Iw D A (w_Tr g a0 s0 ++ (w_Bs g a1 o1.2 ++ (rest))) H := hI
  refine lv_istore_n hx hb d_Tr_writeAll_30 rfl hl (Nat.le_of_ble_eq_true rfl) rfl (fun ls hl => ?_)
  have hl : lv_has ls 5 [(3, .int o1.1), (0, .ref (a0 0)), (1, .int x1), (2, .ref (a1 0)), (4, .int x4)] := hl
  refine lv_iinc (k := 4) (v := (x4 + 1)) hx hb d_Tr_writeAll_31 hl rfl (congrArg (fun z => x4 + z) (by decide)) (Nat.le_of_ble_eq_true rfl) rfl (fun ls hl => ?_)
  have hl : lv_has ls 5 [(4, .int (x4 + 1)), (3, .int o1.1), (0, .ref (a0 0)), (1, .int x1), (2, .ref (a1 0))] := hl
  refine lv_goto (tgt := 9) hx hb d_Tr_writeAll_34 (by decide) ?_
  exact hk9 (o1.2, x1, o1.1, (x4 + 1)) _ _ _ (lv_sub hl [2, 3, 4, 1, 0] rfl) hI hS h
set_option maxRecDepth 100000 in
set_option maxHeartbeats 4000000 in
theorem t_Tr_writeAll_18 {p : Program} {l : Launch} {e : Env} {s : State} {m : MethodId} {args : Array Value} {below : List Frame} {meth : Method} {c : Code} {D : va_G} {A : Nat → Prop} {g : Nat → ClassId} {rest : va_W} {a0 : Nat → Nat} {a1 : Nat → Nat} {ls : Array Slot} {H : Heap} {locs : List Loc} {k9 : S_Bs × Int32 × Int32 × Int32 → Option (Int32 × S_Bs)} {s0 : S_Tr} {s1 : S_Bs} {x1 : Int32} {x3 : Int32} {x4 : Int32} {out : Int32 × S_Bs} (X : Cx p s m args meth c prog_9_method_14_code 5 ws_Tr_writeAll R_Tr (some .boolean) D g) (hk9 : ∀ (v : S_Bs × Int32 × Int32 × Int32) (ls : Array Slot) (H : Heap) (locs : List Loc), lv_has ls 5 [(0, .ref (a0 0)), (1, .int v.2.1), (2, .ref (a1 0)), (3, .int v.2.2.1), (4, .int v.2.2.2)] → Iw D A (w_Tr g a0 s0 ++ (w_Bs g a1 v.1 ++ (rest))) H → va_S A s.heap H locs → k9 v = some out → W p l e (headSpec ws_Tr_writeAll { frames := 3, cells := 0, slots := 0, locals := 74 }).room s m args below meth c H locs 0 0 (MQ below (QcI D A g out.1 (fun (_ : Unit) => w_Tr g a0 s0 ++ (w_Bs g a1 out.2 ++ (rest)))) args s 0 0 A) (F0 m 9 ls [])) (hl : lv_has ls 5 [(0, .ref (a0 0)), (1, .int x1), (2, .ref (a1 0)), (3, .int x3), (4, .int x4)]) (hI : Iw D A (w_Tr g a0 s0 ++ (w_Bs g a1 s1 ++ (rest))) H) (hS : va_S A s.heap H locs) (h : B_Tr_writeAll_18 k9 s0 s1 x1 x3 x4 = some out) : W p l e (headSpec ws_Tr_writeAll { frames := 3, cells := 0, slots := 0, locals := 74 }).room s m args below meth c H locs 0 0 (MQ below (QcI D A g out.1 (fun (_ : Unit) => w_Tr g a0 s0 ++ (w_Bs g a1 out.2 ++ (rest)))) args s 0 0 A) (F0 m 18 ls []) := by
  have X1 := X
  obtain ⟨hx, hb, hml, hown, hts, hr, hlocks, hKK⟩ := X1
  have ht : ∀ w ∈ TB, w.before args s = true := fun w h => hts w (List.mem_cons_of_mem _ h)
  have hK := hKK.1
  unfold B_Tr_writeAll_18 at h
  refine lv_iload_n hx hb d_Tr_writeAll_18 rfl (lv_at hl 3 rfl) ?_
  refine lv_if_eq (tgt := 37) hx hb d_Tr_writeAll_19 (by decide) (fun hc => ?_) (fun hc => ?_)
  · have h := it_t h hc
    exact t_Tr_writeAll_37 X (lv_sub hl [3] rfl) hI hS h
  · have h := it_f h hc
    exact t_Tr_writeAll_22 X hk9 (lv_sub hl [0, 1, 2, 4] rfl) hI hS h
set_option maxRecDepth 100000 in
set_option maxHeartbeats 4000000 in
theorem t_Tr_writeAll_9 {p : Program} {l : Launch} {e : Env} {s : State} {m : MethodId} {args : Array Value} {below : List Frame} {meth : Method} {c : Code} {D : va_G} {A : Nat → Prop} {g : Nat → ClassId} {rest : va_W} {a0 : Nat → Nat} {a1 : Nat → Nat} {ls : Array Slot} {H : Heap} {locs : List Loc} {k9 : S_Bs × Int32 × Int32 × Int32 → Option (Int32 × S_Bs)} {s0 : S_Tr} {s1 : S_Bs} {x1 : Int32} {x3 : Int32} {x4 : Int32} {out : Int32 × S_Bs} (X : Cx p s m args meth c prog_9_method_14_code 5 ws_Tr_writeAll R_Tr (some .boolean) D g) (hk9 : ∀ (v : S_Bs × Int32 × Int32 × Int32) (ls : Array Slot) (H : Heap) (locs : List Loc), lv_has ls 5 [(0, .ref (a0 0)), (1, .int v.2.1), (2, .ref (a1 0)), (3, .int v.2.2.1), (4, .int v.2.2.2)] → Iw D A (w_Tr g a0 s0 ++ (w_Bs g a1 v.1 ++ (rest))) H → va_S A s.heap H locs → k9 v = some out → W p l e (headSpec ws_Tr_writeAll { frames := 3, cells := 0, slots := 0, locals := 74 }).room s m args below meth c H locs 0 0 (MQ below (QcI D A g out.1 (fun (_ : Unit) => w_Tr g a0 s0 ++ (w_Bs g a1 out.2 ++ (rest)))) args s 0 0 A) (F0 m 9 ls [])) (hl : lv_has ls 5 [(0, .ref (a0 0)), (1, .int x1), (2, .ref (a1 0)), (3, .int x3), (4, .int x4)]) (hI : Iw D A (w_Tr g a0 s0 ++ (w_Bs g a1 s1 ++ (rest))) H) (hS : va_S A s.heap H locs) (h : B_Tr_writeAll_9 k9 s0 s1 x1 x3 x4 = some out) : W p l e (headSpec ws_Tr_writeAll { frames := 3, cells := 0, slots := 0, locals := 74 }).room s m args below meth c H locs 0 0 (MQ below (QcI D A g out.1 (fun (_ : Unit) => w_Tr g a0 s0 ++ (w_Bs g a1 out.2 ++ (rest)))) args s 0 0 A) (F0 m 9 ls []) := by
  have X1 := X
  obtain ⟨hx, hb, hml, hown, hts, hr, hlocks, hKK⟩ := X1
  have ht : ∀ w ∈ TB, w.before args s = true := fun w h => hts w (List.mem_cons_of_mem _ h)
  have hK := hKK.1
  unfold B_Tr_writeAll_9 at h
  refine lv_iload hx hb d_Tr_writeAll_9 (lv_at hl 4 rfl) ?_
  refine lv_aload_n hx hb d_Tr_writeAll_11 rfl (lv_at hl 0 rfl) ?_
  refine va_get (D := D) (ci := 7) (v := .int (Tr_count s0)) (C := R_Tr) (T := T_Tr) (N := 7) hx hb ht in_Tr hown hK hI.1 0 rfl rfl 5 (by decide) (ht _ m_139) (fun _ h9 => h9) rfl d_Tr_writeAll_12 ?_
  refine lv_icmp_ge (tgt := 37) hx hb d_Tr_writeAll_15 (by decide) (fun hc => ?_) (fun hc => ?_)
  · have h := it_t h hc
    exact t_Tr_writeAll_37 X (lv_sub hl [3] rfl) hI hS h
  · have h := it_f h hc
    exact t_Tr_writeAll_18 X hk9 (lv_sub hl [0, 1, 2, 3, 4] rfl) hI hS h
set_option maxRecDepth 100000 in
set_option maxHeartbeats 4000000 in
theorem T_Tr_writeAll_9 {p : Program} {l : Launch} {e : Env} {s : State} {m : MethodId} {args : Array Value} {below : List Frame} {meth : Method} {c : Code} {D : va_G} {A : Nat → Prop} {g : Nat → ClassId} {rest : va_W} {a0 : Nat → Nat} {a1 : Nat → Nat} {ls : Array Slot} {H : Heap} {locs : List Loc} {s0 : S_Tr} {s1 : S_Bs} {x1 : Int32} {x3 : Int32} {x4 : Int32} {out : Int32 × S_Bs} (X : Cx p s m args meth c prog_9_method_14_code 5 ws_Tr_writeAll R_Tr (some .boolean) D g) (hl : lv_has ls 5 [(0, .ref (a0 0)), (1, .int x1), (2, .ref (a1 0)), (3, .int x3), (4, .int x4)]) (hI : Iw D A (w_Tr g a0 s0 ++ (w_Bs g a1 s1 ++ (rest))) H) (hS : va_S A s.heap H locs) (h : L_Tr_writeAll_9  s0 (s1, x1, x3, x4) = some out) : W p l e (headSpec ws_Tr_writeAll { frames := 3, cells := 0, slots := 0, locals := 74 }).room s m args below meth c H locs 0 0 (MQ below (QcI D A g out.1 (fun (_ : Unit) => w_Tr g a0 s0 ++ (w_Bs g a1 out.2 ++ (rest)))) args s 0 0 A) (F0 m 9 ls []) := by
  unfold L_Tr_writeAll_9 at h
  exact lp_ind (P := fun v => ∀ (ls : Array Slot) (H : Heap) (locs : List Loc), lv_has ls 5 [(0, .ref (a0 0)), (1, .int v.2.1), (2, .ref (a1 0)), (3, .int v.2.2.1), (4, .int v.2.2.2)] → Iw D A (w_Tr g a0 s0 ++ (w_Bs g a1 v.1 ++ (rest))) H → va_S A s.heap H locs → W p l e (headSpec ws_Tr_writeAll { frames := 3, cells := 0, slots := 0, locals := 74 }).room s m args below meth c H locs 0 0 (MQ below (QcI D A g out.1 (fun (_ : Unit) => w_Tr g a0 s0 ++ (w_Bs g a1 out.2 ++ (rest)))) args s 0 0 A) (F0 m 9 ls [])) (fun k v ih hb ls H locs  hl hI hS => t_Tr_writeAll_9 X  (fun v' ls H locs  hl hI hS h' => ih v' h' ls H locs  hl hI hS) hl hI hS hb) FU _ h ls H locs  hl hI hS
set_option maxRecDepth 100000 in
set_option maxHeartbeats 4000000 in
theorem t_Tr_writeAll_0 {p : Program} {l : Launch} {e : Env} {s : State} {m : MethodId} {args : Array Value} {below : List Frame} {meth : Method} {c : Code} {D : va_G} {A : Nat → Prop} {g : Nat → ClassId} {rest : va_W} {a0 : Nat → Nat} {a1 : Nat → Nat} {ls : Array Slot} {H : Heap} {locs : List Loc} {s0 : S_Tr} {s1 : S_Bs} {x1 : Int32} {out : Int32 × S_Bs} (X : Cx p s m args meth c prog_9_method_14_code 5 ws_Tr_writeAll R_Tr (some .boolean) D g) (hl : lv_has ls 5 [(0, .ref (a0 0)), (1, .int x1), (2, .ref (a1 0))]) (hI : Iw D A (w_Tr g a0 s0 ++ (w_Bs g a1 s1 ++ (rest))) H) (hS : va_S A s.heap H locs) (h : B_Tr_writeAll_0  s0 s1 x1 = some out) : W p l e (headSpec ws_Tr_writeAll { frames := 3, cells := 0, slots := 0, locals := 74 }).room s m args below meth c H locs 0 0 (MQ below (QcI D A g out.1 (fun (_ : Unit) => w_Tr g a0 s0 ++ (w_Bs g a1 out.2 ++ (rest)))) args s 0 0 A) (F0 m 0 ls []) := by
  have X1 := X
  obtain ⟨hx, hb, hml, hown, hts, hr, hlocks, hKK⟩ := X1
  have ht : ∀ w ∈ TB, w.before args s = true := fun w h => hts w (List.mem_cons_of_mem _ h)
  have hK := hKK.1
  unfold B_Tr_writeAll_0 at h
  refine lv_aload_n hx hb d_Tr_writeAll_0 rfl (lv_at hl 2 rfl) ?_
  obtain ⟨o1, ho2, h⟩ := bd_s h
  refine cl_v (W1 := fun (_ : Unit) => w_Tr g a0 s0 ++ (w_Bs g a1 o1 ++ (rest))) (va_runV (As := []) (rest := []) ⟨hx, hb, hml, hown, ht⟩ (c_Bs_reset (l := l) (D := D) (A := A) (g := g) (rest := w_Tr g a0 s0 ++ (rest)) (a0 := a1) ho2) (cwV 0 ht (gd_V m_568 m_275 m_276 m_2 m_277) rfl rfl rfl (by decide +kernel) ⟨(Nat.le_of_ble_eq_true rfl), (Nat.le_of_ble_eq_true rfl)⟩) (prV (ci := 0) (q0 := 0) hKK hI (mv_1) rfl rfl rfl) rfl rfl hl.1 rfl (lv_room (Nat.le_of_ble_eq_true rfl)) d_Tr_writeAll_1 ⟨(Nat.le_of_ble_eq_true rfl), (Nat.le_of_ble_eq_true rfl)⟩) hS (fun _ => ((mv_1)).symm) (fun _ H locs hI hS => ?_)
  have hI : Iw D A (w_Tr g a0 s0 ++ (w_Bs g a1 o1 ++ (rest))) H := hI
  refine lv_iconst (v := 1) hx hb d_Tr_writeAll_4 (by decide) ?_
  refine lv_istore_n hx hb d_Tr_writeAll_5 rfl hl (Nat.le_of_ble_eq_true rfl) rfl (fun ls hl => ?_)
  have hl : lv_has ls 5 [(3, .int (1 : Int32)), (0, .ref (a0 0)), (1, .int x1), (2, .ref (a1 0))] := hl
  refine lv_iconst (v := 1) hx hb d_Tr_writeAll_6 (by decide) ?_
  refine lv_istore hx hb d_Tr_writeAll_7 hl (Nat.le_of_ble_eq_true rfl) rfl (fun ls hl => ?_)
  have hl : lv_has ls 5 [(4, .int (1 : Int32)), (3, .int (1 : Int32)), (0, .ref (a0 0)), (1, .int x1), (2, .ref (a1 0))] := hl
  exact T_Tr_writeAll_9 X (lv_sub hl [2, 3, 4, 1, 0] rfl) hI hS h
set_option maxRecDepth 100000 in
set_option maxHeartbeats 4000000 in
theorem c_Tr_writeAll {l : Launch} {D : va_G} {A : Nat → Prop} {g : Nat → ClassId} {rest : va_W} {a0 : Nat → Nat} {a1 : Nat → Nat} {s0 : S_Tr} {s1 : S_Bs} {x1 : Int32} {out : Int32 × S_Bs} (h : F_Tr_writeAll s0 s1 x1 = some out) : Met l y_Tr_writeAll ws_Tr_writeAll { frames := 3, cells := 0, slots := 0, locals := 74 } (PcW D A g [.ref (a0 0), .int x1, .ref (a1 0)] (w_Tr g a0 s0 ++ (w_Bs g a1 s1 ++ (rest)))) (QcI D A g out.1 (fun (_ : Unit) => w_Tr g a0 s0 ++ (w_Bs g a1 out.2 ++ (rest)))) 0 0 A := by
  refine Met.ofW (cc := prog_9_method_14_code) (maxL := 5) (ret := (some .boolean)) (by decide) rfl ?_
  intro p e s m args below meth c s₁ B hml hv
  obtain ⟨rfl, hI, hK⟩ := hv
  have hl := lv_entry [.ref (a0 0), .int x1, .ref (a1 0)] (n := 5) (Nat.le_of_ble_eq_true rfl)
  rw [lg_entry_eq]
  generalize (lg_sl [.ref (a0 0), .int x1, .ref (a1 0)] ++ List.replicate (5 - (lg_sl [.ref (a0 0), .int x1, .ref (a1 0)]).length) Slot.unset).toArray = ls at hl ⊢
  have hl : lv_has ls 5 [(0, .ref (a0 0)), (1, .int x1), (2, .ref (a1 0))] := hl
  exact t_Tr_writeAll_0 ⟨B.exec, B.bytes, hml, findClass_of_methodNamed B.named, atoms_spec (ws := ws_Tr_writeAll) B.pre, B.returns, B.notSynchronized, hK⟩ (lv_sub hl [0, 1, 2] rfl) hI va_S.rf h
def ws_Tr_textLength : List Cond := .code y_Tr_textLength prog_9_method_10_code 2 (some .int) :: TB
def B_Tr_textLength_22 (s0 : S_Tr) (y0 : Int32) : Option Int32 :=
  some y0
def B_Tr_textLength_21 (s0 : S_Tr) : Option Int32 :=
  (B_Tr_textLength_22 s0 (0 : Int32))
def B_Tr_textLength_12 (s0 : S_Tr) (x1 : Int32) : Option Int32 :=
  (if (x1 < 0 ∨ 101 ≤ x1.toNatClampNeg) then none else (B_Tr_textLength_22 s0 ((Tr_lengths s0) x1.toNatClampNeg)))
def B_Tr_textLength_4 (s0 : S_Tr) (x1 : Int32) : Option Int32 :=
  (if (Tr_count s0) ≤ x1 then (B_Tr_textLength_21 s0) else (B_Tr_textLength_12 s0 x1))
def B_Tr_textLength_0 (s0 : S_Tr) (x1 : Int32) : Option Int32 :=
  (if x1 < 0 then (B_Tr_textLength_21 s0) else (B_Tr_textLength_4 s0 x1))
def F_Tr_textLength (s0 : S_Tr) (x1 : Int32) : Option Int32 := B_Tr_textLength_0 s0 x1
set_option maxRecDepth 100000 in
set_option maxHeartbeats 4000000 in
theorem t_Tr_textLength_22 {p : Program} {l : Launch} {e : Env} {s : State} {m : MethodId} {args : Array Value} {below : List Frame} {meth : Method} {c : Code} {D : va_G} {A : Nat → Prop} {g : Nat → ClassId} {rest : va_W} {a0 : Nat → Nat} {ls : Array Slot} {H : Heap} {locs : List Loc} {s0 : S_Tr} {y0 : Int32} {out : Int32} (X : Cx p s m args meth c prog_9_method_10_code 2 ws_Tr_textLength R_Tr (some .int) D g) (hl : lv_has ls 2 []) (hI : Iw D A (w_Tr g a0 s0 ++ (rest)) H) (hS : va_S A s.heap H locs) (h : B_Tr_textLength_22  s0 y0 = some out) : W p l e (headSpec ws_Tr_textLength { frames := 0, cells := 0, slots := 0, locals := 0 }).room s m args below meth c H locs 0 0 (MQ below (QcI D A g out (fun (_ : Unit) => w_Tr g a0 s0 ++ (rest))) args s 0 0 A) (F0 m 22 ls [.int y0]) := by
  have X1 := X
  obtain ⟨hx, hb, hml, hown, hts, hr, hlocks, hKK⟩ := X1
  have ht : ∀ w ∈ TB, w.before args s = true := fun w h => hts w (List.mem_cons_of_mem _ h)
  have hK := hKK.1
  unfold B_Tr_textLength_22 at h
  have h9 := Option.some.inj h
  subst h9
  exact W.iret (v := y0) hx hb hr (fun t ht hW => ⟨⟨_, (), rfl, rfl, ⟨by rw [ht]; exact hI, hKK.moved hW⟩⟩, hS.F ht⟩) hS.2.2 d_Tr_textLength_22
set_option maxRecDepth 100000 in
set_option maxHeartbeats 4000000 in
theorem t_Tr_textLength_21 {p : Program} {l : Launch} {e : Env} {s : State} {m : MethodId} {args : Array Value} {below : List Frame} {meth : Method} {c : Code} {D : va_G} {A : Nat → Prop} {g : Nat → ClassId} {rest : va_W} {a0 : Nat → Nat} {ls : Array Slot} {H : Heap} {locs : List Loc} {s0 : S_Tr} {out : Int32} (X : Cx p s m args meth c prog_9_method_10_code 2 ws_Tr_textLength R_Tr (some .int) D g) (hl : lv_has ls 2 []) (hI : Iw D A (w_Tr g a0 s0 ++ (rest)) H) (hS : va_S A s.heap H locs) (h : B_Tr_textLength_21  s0 = some out) : W p l e (headSpec ws_Tr_textLength { frames := 0, cells := 0, slots := 0, locals := 0 }).room s m args below meth c H locs 0 0 (MQ below (QcI D A g out (fun (_ : Unit) => w_Tr g a0 s0 ++ (rest))) args s 0 0 A) (F0 m 21 ls []) := by
  have X1 := X
  obtain ⟨hx, hb, hml, hown, hts, hr, hlocks, hKK⟩ := X1
  have ht : ∀ w ∈ TB, w.before args s = true := fun w h => hts w (List.mem_cons_of_mem _ h)
  have hK := hKK.1
  unfold B_Tr_textLength_21 at h
  refine lv_iconst (v := 0) hx hb d_Tr_textLength_21 (by decide) ?_
  exact t_Tr_textLength_22 X (lv_sub hl [] rfl) hI hS h
set_option maxRecDepth 100000 in
set_option maxHeartbeats 4000000 in
theorem t_Tr_textLength_12 {p : Program} {l : Launch} {e : Env} {s : State} {m : MethodId} {args : Array Value} {below : List Frame} {meth : Method} {c : Code} {D : va_G} {A : Nat → Prop} {g : Nat → ClassId} {rest : va_W} {a0 : Nat → Nat} {ls : Array Slot} {H : Heap} {locs : List Loc} {s0 : S_Tr} {x1 : Int32} {out : Int32} (X : Cx p s m args meth c prog_9_method_10_code 2 ws_Tr_textLength R_Tr (some .int) D g) (hl : lv_has ls 2 [(0, .ref (a0 0)), (1, .int x1)]) (hI : Iw D A (w_Tr g a0 s0 ++ (rest)) H) (hS : va_S A s.heap H locs) (h : B_Tr_textLength_12  s0 x1 = some out) : W p l e (headSpec ws_Tr_textLength { frames := 0, cells := 0, slots := 0, locals := 0 }).room s m args below meth c H locs 0 0 (MQ below (QcI D A g out (fun (_ : Unit) => w_Tr g a0 s0 ++ (rest))) args s 0 0 A) (F0 m 12 ls []) := by
  have X1 := X
  obtain ⟨hx, hb, hml, hown, hts, hr, hlocks, hKK⟩ := X1
  have ht : ∀ w ∈ TB, w.before args s = true := fun w h => hts w (List.mem_cons_of_mem _ h)
  have hK := hKK.1
  unfold B_Tr_textLength_12 at h
  refine lv_aload_n hx hb d_Tr_textLength_12 rfl (lv_at hl 0 rfl) ?_
  refine va_get (D := D) (ci := 7) (v := .ref (a0 4)) (C := R_Tr) (T := T_Tr) (N := 7) hx hb ht in_Tr hown hK hI.1 0 rfl rfl 3 (by decide) (ht _ m_137) (fun _ h9 => h9) rfl d_Tr_textLength_13 ?_
  refine lv_iload_n hx hb d_Tr_textLength_16 rfl (lv_at hl 1 rfl) ?_
  by_cases hc1 : (x1 < 0 ∨ 101 ≤ x1.toNatClampNeg)
  · exact no_s (it_t h hc1)
  have h := it_f h hc1
  refine va_iald hx hb hK hI.1 4 0 rfl rfl hc1 d_Tr_textLength_17 ?_
  refine lv_goto (tgt := 22) hx hb d_Tr_textLength_18 (by decide) ?_
  exact t_Tr_textLength_22 X (lv_sub hl [] rfl) hI hS h
set_option maxRecDepth 100000 in
set_option maxHeartbeats 4000000 in
theorem t_Tr_textLength_4 {p : Program} {l : Launch} {e : Env} {s : State} {m : MethodId} {args : Array Value} {below : List Frame} {meth : Method} {c : Code} {D : va_G} {A : Nat → Prop} {g : Nat → ClassId} {rest : va_W} {a0 : Nat → Nat} {ls : Array Slot} {H : Heap} {locs : List Loc} {s0 : S_Tr} {x1 : Int32} {out : Int32} (X : Cx p s m args meth c prog_9_method_10_code 2 ws_Tr_textLength R_Tr (some .int) D g) (hl : lv_has ls 2 [(0, .ref (a0 0)), (1, .int x1)]) (hI : Iw D A (w_Tr g a0 s0 ++ (rest)) H) (hS : va_S A s.heap H locs) (h : B_Tr_textLength_4  s0 x1 = some out) : W p l e (headSpec ws_Tr_textLength { frames := 0, cells := 0, slots := 0, locals := 0 }).room s m args below meth c H locs 0 0 (MQ below (QcI D A g out (fun (_ : Unit) => w_Tr g a0 s0 ++ (rest))) args s 0 0 A) (F0 m 4 ls []) := by
  have X1 := X
  obtain ⟨hx, hb, hml, hown, hts, hr, hlocks, hKK⟩ := X1
  have ht : ∀ w ∈ TB, w.before args s = true := fun w h => hts w (List.mem_cons_of_mem _ h)
  have hK := hKK.1
  unfold B_Tr_textLength_4 at h
  refine lv_iload_n hx hb d_Tr_textLength_4 rfl (lv_at hl 1 rfl) ?_
  refine lv_aload_n hx hb d_Tr_textLength_5 rfl (lv_at hl 0 rfl) ?_
  refine va_get (D := D) (ci := 7) (v := .int (Tr_count s0)) (C := R_Tr) (T := T_Tr) (N := 7) hx hb ht in_Tr hown hK hI.1 0 rfl rfl 5 (by decide) (ht _ m_139) (fun _ h9 => h9) rfl d_Tr_textLength_6 ?_
  refine lv_icmp_ge (tgt := 21) hx hb d_Tr_textLength_9 (by decide) (fun hc => ?_) (fun hc => ?_)
  · have h := it_t h hc
    exact t_Tr_textLength_21 X (lv_sub hl [] rfl) hI hS h
  · have h := it_f h hc
    exact t_Tr_textLength_12 X (lv_sub hl [0, 1] rfl) hI hS h
set_option maxRecDepth 100000 in
set_option maxHeartbeats 4000000 in
theorem t_Tr_textLength_0 {p : Program} {l : Launch} {e : Env} {s : State} {m : MethodId} {args : Array Value} {below : List Frame} {meth : Method} {c : Code} {D : va_G} {A : Nat → Prop} {g : Nat → ClassId} {rest : va_W} {a0 : Nat → Nat} {ls : Array Slot} {H : Heap} {locs : List Loc} {s0 : S_Tr} {x1 : Int32} {out : Int32} (X : Cx p s m args meth c prog_9_method_10_code 2 ws_Tr_textLength R_Tr (some .int) D g) (hl : lv_has ls 2 [(0, .ref (a0 0)), (1, .int x1)]) (hI : Iw D A (w_Tr g a0 s0 ++ (rest)) H) (hS : va_S A s.heap H locs) (h : B_Tr_textLength_0  s0 x1 = some out) : W p l e (headSpec ws_Tr_textLength { frames := 0, cells := 0, slots := 0, locals := 0 }).room s m args below meth c H locs 0 0 (MQ below (QcI D A g out (fun (_ : Unit) => w_Tr g a0 s0 ++ (rest))) args s 0 0 A) (F0 m 0 ls []) := by
  have X1 := X
  obtain ⟨hx, hb, hml, hown, hts, hr, hlocks, hKK⟩ := X1
  have ht : ∀ w ∈ TB, w.before args s = true := fun w h => hts w (List.mem_cons_of_mem _ h)
  have hK := hKK.1
  unfold B_Tr_textLength_0 at h
  refine lv_iload_n hx hb d_Tr_textLength_0 rfl (lv_at hl 1 rfl) ?_
  refine lv_if_lt (tgt := 21) hx hb d_Tr_textLength_1 (by decide) (fun hc => ?_) (fun hc => ?_)
  · have h := it_t h hc
    exact t_Tr_textLength_21 X (lv_sub hl [] rfl) hI hS h
  · have h := it_f h hc
    exact t_Tr_textLength_4 X (lv_sub hl [0, 1] rfl) hI hS h
set_option maxRecDepth 100000 in
set_option maxHeartbeats 4000000 in
theorem c_Tr_textLength {l : Launch} {D : va_G} {A : Nat → Prop} {g : Nat → ClassId} {rest : va_W} {a0 : Nat → Nat} {s0 : S_Tr} {x1 : Int32} {out : Int32} (h : F_Tr_textLength s0 x1 = some out) : Met l y_Tr_textLength ws_Tr_textLength { frames := 0, cells := 0, slots := 0, locals := 0 } (PcW D A g [.ref (a0 0), .int x1] (w_Tr g a0 s0 ++ (rest))) (QcI D A g out (fun (_ : Unit) => w_Tr g a0 s0 ++ (rest))) 0 0 A := by
  refine Met.ofW (cc := prog_9_method_10_code) (maxL := 2) (ret := (some .int)) (by decide) rfl ?_
  intro p e s m args below meth c s₁ B hml hv
  obtain ⟨rfl, hI, hK⟩ := hv
  have hl := lv_entry [.ref (a0 0), .int x1] (n := 2) (Nat.le_of_ble_eq_true rfl)
  rw [lg_entry_eq]
  generalize (lg_sl [.ref (a0 0), .int x1] ++ List.replicate (2 - (lg_sl [.ref (a0 0), .int x1]).length) Slot.unset).toArray = ls at hl ⊢
  have hl : lv_has ls 2 [(0, .ref (a0 0)), (1, .int x1)] := hl
  exact t_Tr_textLength_0 ⟨B.exec, B.bytes, hml, findClass_of_methodNamed B.named, atoms_spec (ws := ws_Tr_textLength) B.pre, B.returns, B.notSynchronized, hK⟩ (lv_sub hl [0, 1] rfl) hI va_S.rf h
def ws_Tr_copyText : List Cond := .code y_Tr_copyText prog_9_method_12_code 5 none :: TB
def B_Tr_copyText_32 (s0 : S_Tr) (s1 : S_Bs) : Option S_Bs :=
  some s1
def B_Tr_copyText_15 (k9 : S_Bs × Int32 × Int32 × Int32 → Option S_Bs) (s0 : S_Tr) (s1 : S_Bs) (x1 : Int32) (x3 : Int32) (x4 : Int32) : Option S_Bs :=
  ((F_Tr_character s0 x1 x4).bind fun o1 => ((F_Bs_append s1 o1).bind fun o3 => (k9 (o3, x1, x3, (x4 + 1)))))
def B_Tr_copyText_9 (k9 : S_Bs × Int32 × Int32 × Int32 → Option S_Bs) (s0 : S_Tr) (s1 : S_Bs) (x1 : Int32) (x3 : Int32) (x4 : Int32) : Option S_Bs :=
  (if x3 ≤ x4 then (B_Tr_copyText_32 s0 s1) else (B_Tr_copyText_15 k9 s0 s1 x1 x3 x4))
def L_Tr_copyText_9 (s0 : S_Tr) (v : S_Bs × Int32 × Int32 × Int32) : Option S_Bs := lp (fun k9 v => B_Tr_copyText_9  k9 s0 v.1 v.2.1 v.2.2.1 v.2.2.2) FU v
def B_Tr_copyText_0 (s0 : S_Tr) (s1 : S_Bs) (x1 : Int32) : Option S_Bs :=
  ((F_Tr_textLength s0 x1).bind fun o1 => (L_Tr_copyText_9 s0 (s1, x1, o1, (0 : Int32))))
def F_Tr_copyText (s0 : S_Tr) (s1 : S_Bs) (x1 : Int32) : Option S_Bs := B_Tr_copyText_0 s0 s1 x1
set_option maxRecDepth 100000 in
set_option maxHeartbeats 4000000 in
theorem t_Tr_copyText_32 {p : Program} {l : Launch} {e : Env} {s : State} {m : MethodId} {args : Array Value} {below : List Frame} {meth : Method} {c : Code} {D : va_G} {A : Nat → Prop} {g : Nat → ClassId} {rest : va_W} {a0 : Nat → Nat} {a1 : Nat → Nat} {ls : Array Slot} {H : Heap} {locs : List Loc} {s0 : S_Tr} {s1 : S_Bs} {out : S_Bs} (X : Cx p s m args meth c prog_9_method_12_code 5 ws_Tr_copyText R_Tr none D g) (hl : lv_has ls 5 []) (hI : Iw D A (w_Tr g a0 s0 ++ (w_Bs g a1 s1 ++ (rest))) H) (hS : va_S A s.heap H locs) (h : B_Tr_copyText_32  s0 s1 = some out) : W p l e (headSpec ws_Tr_copyText { frames := 1, cells := 0, slots := 0, locals := 23 }).room s m args below meth c H locs 0 0 (MQ below (QcV D A g (fun (_ : Unit) => w_Tr g a0 s0 ++ (w_Bs g a1 out ++ (rest)))) args s 0 0 A) (F0 m 32 ls []) := by
  have X1 := X
  obtain ⟨hx, hb, hml, hown, hts, hr, hlocks, hKK⟩ := X1
  have ht : ∀ w ∈ TB, w.before args s = true := fun w h => hts w (List.mem_cons_of_mem _ h)
  have hK := hKK.1
  unfold B_Tr_copyText_32 at h
  have h9 := Option.some.inj h
  subst h9
  exact W.vret hx hb hr (fun t ht hW => ⟨⟨(), rfl, trivial, ⟨by rw [ht]; exact hI, hKK.moved hW⟩⟩, hS.F ht⟩) hS.2.2 d_Tr_copyText_32
set_option maxRecDepth 100000 in
set_option maxHeartbeats 4000000 in
theorem t_Tr_copyText_15 {p : Program} {l : Launch} {e : Env} {s : State} {m : MethodId} {args : Array Value} {below : List Frame} {meth : Method} {c : Code} {D : va_G} {A : Nat → Prop} {g : Nat → ClassId} {rest : va_W} {a0 : Nat → Nat} {a1 : Nat → Nat} {ls : Array Slot} {H : Heap} {locs : List Loc} {k9 : S_Bs × Int32 × Int32 × Int32 → Option S_Bs} {s0 : S_Tr} {s1 : S_Bs} {x1 : Int32} {x3 : Int32} {x4 : Int32} {out : S_Bs} (X : Cx p s m args meth c prog_9_method_12_code 5 ws_Tr_copyText R_Tr none D g) (hk9 : ∀ (v : S_Bs × Int32 × Int32 × Int32) (ls : Array Slot) (H : Heap) (locs : List Loc), lv_has ls 5 [(0, .ref (a0 0)), (1, .int v.2.1), (2, .ref (a1 0)), (3, .int v.2.2.1), (4, .int v.2.2.2)] → Iw D A (w_Tr g a0 s0 ++ (w_Bs g a1 v.1 ++ (rest))) H → va_S A s.heap H locs → k9 v = some out → W p l e (headSpec ws_Tr_copyText { frames := 1, cells := 0, slots := 0, locals := 23 }).room s m args below meth c H locs 0 0 (MQ below (QcV D A g (fun (_ : Unit) => w_Tr g a0 s0 ++ (w_Bs g a1 out ++ (rest)))) args s 0 0 A) (F0 m 9 ls [])) (hl : lv_has ls 5 [(0, .ref (a0 0)), (1, .int x1), (2, .ref (a1 0)), (3, .int x3), (4, .int x4)]) (hI : Iw D A (w_Tr g a0 s0 ++ (w_Bs g a1 s1 ++ (rest))) H) (hS : va_S A s.heap H locs) (h : B_Tr_copyText_15 k9 s0 s1 x1 x3 x4 = some out) : W p l e (headSpec ws_Tr_copyText { frames := 1, cells := 0, slots := 0, locals := 23 }).room s m args below meth c H locs 0 0 (MQ below (QcV D A g (fun (_ : Unit) => w_Tr g a0 s0 ++ (w_Bs g a1 out ++ (rest)))) args s 0 0 A) (F0 m 15 ls []) := by
  have X1 := X
  obtain ⟨hx, hb, hml, hown, hts, hr, hlocks, hKK⟩ := X1
  have ht : ∀ w ∈ TB, w.before args s = true := fun w h => hts w (List.mem_cons_of_mem _ h)
  have hK := hKK.1
  unfold B_Tr_copyText_15 at h
  refine lv_aload_n hx hb d_Tr_copyText_15 rfl (lv_at hl 2 rfl) ?_
  refine lv_aload_n hx hb d_Tr_copyText_16 rfl (lv_at hl 0 rfl) ?_
  refine lv_iload_n hx hb d_Tr_copyText_17 rfl (lv_at hl 1 rfl) ?_
  refine lv_iload hx hb d_Tr_copyText_18 (lv_at hl 4 rfl) ?_
  obtain ⟨o1, ho2, h⟩ := bd_s h
  refine cl_i (W1 := fun (_ : Unit) => w_Tr g a0 s0 ++ (w_Bs g a1 s1 ++ (rest))) (va_runV (As := [.int x1, .int x4]) (rest := [.ref (a1 0)]) ⟨hx, hb, hml, hown, ht⟩ (c_Tr_character (l := l) (D := D) (A := A) (g := g) (rest := w_Bs g a1 s1 ++ (rest)) (a0 := a0) ho2) (cwV 2 ht (gd_V m_579 m_580 m_581 m_9 m_582) rfl rfl rfl (by decide +kernel) ⟨(Nat.le_of_ble_eq_true rfl), (Nat.le_of_ble_eq_true rfl)⟩) (prV (ci := 7) (q0 := 0) hKK hI (List.Perm.refl _) rfl rfl rfl) rfl rfl hl.1 rfl (lv_room (Nat.le_of_ble_eq_true rfl)) d_Tr_copyText_20 ⟨(Nat.le_of_ble_eq_true rfl), (Nat.le_of_ble_eq_true rfl)⟩) hS (fun _ => ((List.Perm.refl _)).symm) (fun _ H locs hI hS => ?_)
  have hI : Iw D A (w_Tr g a0 s0 ++ (w_Bs g a1 s1 ++ (rest))) H := hI
  obtain ⟨o3, ho4, h⟩ := bd_s h
  refine cl_v (W1 := fun (_ : Unit) => w_Tr g a0 s0 ++ (w_Bs g a1 o3 ++ (rest))) (va_runV (As := [.int o1]) (rest := []) ⟨hx, hb, hml, hown, ht⟩ (c_Bs_append (l := l) (D := D) (A := A) (g := g) (rest := w_Tr g a0 s0 ++ (rest)) (a0 := a1) ho4) (cwV 1 ht (gd_V m_555 m_267 m_268 m_2 m_269) rfl rfl rfl (by decide +kernel) ⟨(Nat.le_of_ble_eq_true rfl), (Nat.le_of_ble_eq_true rfl)⟩) (prV (ci := 0) (q0 := 0) hKK hI (mv_1) rfl rfl rfl) rfl rfl hl.1 rfl (lv_room (Nat.le_of_ble_eq_true rfl)) d_Tr_copyText_23 ⟨(Nat.le_of_ble_eq_true rfl), (Nat.le_of_ble_eq_true rfl)⟩) hS (fun _ => ((mv_1)).symm) (fun _ H locs hI hS => ?_)
  have hI : Iw D A (w_Tr g a0 s0 ++ (w_Bs g a1 o3 ++ (rest))) H := hI
  refine lv_iinc (k := 4) (v := (x4 + 1)) hx hb d_Tr_copyText_26 hl rfl (congrArg (fun z => x4 + z) (by decide)) (Nat.le_of_ble_eq_true rfl) rfl (fun ls hl => ?_)
  have hl : lv_has ls 5 [(4, .int (x4 + 1)), (0, .ref (a0 0)), (1, .int x1), (2, .ref (a1 0)), (3, .int x3)] := hl
  refine lv_goto (tgt := 9) hx hb d_Tr_copyText_29 (by decide) ?_
  exact hk9 (o3, x1, x3, (x4 + 1)) _ _ _ (lv_sub hl [1, 2, 3, 4, 0] rfl) hI hS h
set_option maxRecDepth 100000 in
set_option maxHeartbeats 4000000 in
theorem t_Tr_copyText_9 {p : Program} {l : Launch} {e : Env} {s : State} {m : MethodId} {args : Array Value} {below : List Frame} {meth : Method} {c : Code} {D : va_G} {A : Nat → Prop} {g : Nat → ClassId} {rest : va_W} {a0 : Nat → Nat} {a1 : Nat → Nat} {ls : Array Slot} {H : Heap} {locs : List Loc} {k9 : S_Bs × Int32 × Int32 × Int32 → Option S_Bs} {s0 : S_Tr} {s1 : S_Bs} {x1 : Int32} {x3 : Int32} {x4 : Int32} {out : S_Bs} (X : Cx p s m args meth c prog_9_method_12_code 5 ws_Tr_copyText R_Tr none D g) (hk9 : ∀ (v : S_Bs × Int32 × Int32 × Int32) (ls : Array Slot) (H : Heap) (locs : List Loc), lv_has ls 5 [(0, .ref (a0 0)), (1, .int v.2.1), (2, .ref (a1 0)), (3, .int v.2.2.1), (4, .int v.2.2.2)] → Iw D A (w_Tr g a0 s0 ++ (w_Bs g a1 v.1 ++ (rest))) H → va_S A s.heap H locs → k9 v = some out → W p l e (headSpec ws_Tr_copyText { frames := 1, cells := 0, slots := 0, locals := 23 }).room s m args below meth c H locs 0 0 (MQ below (QcV D A g (fun (_ : Unit) => w_Tr g a0 s0 ++ (w_Bs g a1 out ++ (rest)))) args s 0 0 A) (F0 m 9 ls [])) (hl : lv_has ls 5 [(0, .ref (a0 0)), (1, .int x1), (2, .ref (a1 0)), (3, .int x3), (4, .int x4)]) (hI : Iw D A (w_Tr g a0 s0 ++ (w_Bs g a1 s1 ++ (rest))) H) (hS : va_S A s.heap H locs) (h : B_Tr_copyText_9 k9 s0 s1 x1 x3 x4 = some out) : W p l e (headSpec ws_Tr_copyText { frames := 1, cells := 0, slots := 0, locals := 23 }).room s m args below meth c H locs 0 0 (MQ below (QcV D A g (fun (_ : Unit) => w_Tr g a0 s0 ++ (w_Bs g a1 out ++ (rest)))) args s 0 0 A) (F0 m 9 ls []) := by
  have X1 := X
  obtain ⟨hx, hb, hml, hown, hts, hr, hlocks, hKK⟩ := X1
  have ht : ∀ w ∈ TB, w.before args s = true := fun w h => hts w (List.mem_cons_of_mem _ h)
  have hK := hKK.1
  unfold B_Tr_copyText_9 at h
  refine lv_iload hx hb d_Tr_copyText_9 (lv_at hl 4 rfl) ?_
  refine lv_iload_n hx hb d_Tr_copyText_11 rfl (lv_at hl 3 rfl) ?_
  refine lv_icmp_ge (tgt := 32) hx hb d_Tr_copyText_12 (by decide) (fun hc => ?_) (fun hc => ?_)
  · have h := it_t h hc
    exact t_Tr_copyText_32 X (lv_sub hl [] rfl) hI hS h
  · have h := it_f h hc
    exact t_Tr_copyText_15 X hk9 (lv_sub hl [0, 1, 2, 3, 4] rfl) hI hS h
set_option maxRecDepth 100000 in
set_option maxHeartbeats 4000000 in
theorem T_Tr_copyText_9 {p : Program} {l : Launch} {e : Env} {s : State} {m : MethodId} {args : Array Value} {below : List Frame} {meth : Method} {c : Code} {D : va_G} {A : Nat → Prop} {g : Nat → ClassId} {rest : va_W} {a0 : Nat → Nat} {a1 : Nat → Nat} {ls : Array Slot} {H : Heap} {locs : List Loc} {s0 : S_Tr} {s1 : S_Bs} {x1 : Int32} {x3 : Int32} {x4 : Int32} {out : S_Bs} (X : Cx p s m args meth c prog_9_method_12_code 5 ws_Tr_copyText R_Tr none D g) (hl : lv_has ls 5 [(0, .ref (a0 0)), (1, .int x1), (2, .ref (a1 0)), (3, .int x3), (4, .int x4)]) (hI : Iw D A (w_Tr g a0 s0 ++ (w_Bs g a1 s1 ++ (rest))) H) (hS : va_S A s.heap H locs) (h : L_Tr_copyText_9  s0 (s1, x1, x3, x4) = some out) : W p l e (headSpec ws_Tr_copyText { frames := 1, cells := 0, slots := 0, locals := 23 }).room s m args below meth c H locs 0 0 (MQ below (QcV D A g (fun (_ : Unit) => w_Tr g a0 s0 ++ (w_Bs g a1 out ++ (rest)))) args s 0 0 A) (F0 m 9 ls []) := by
  unfold L_Tr_copyText_9 at h
  exact lp_ind (P := fun v => ∀ (ls : Array Slot) (H : Heap) (locs : List Loc), lv_has ls 5 [(0, .ref (a0 0)), (1, .int v.2.1), (2, .ref (a1 0)), (3, .int v.2.2.1), (4, .int v.2.2.2)] → Iw D A (w_Tr g a0 s0 ++ (w_Bs g a1 v.1 ++ (rest))) H → va_S A s.heap H locs → W p l e (headSpec ws_Tr_copyText { frames := 1, cells := 0, slots := 0, locals := 23 }).room s m args below meth c H locs 0 0 (MQ below (QcV D A g (fun (_ : Unit) => w_Tr g a0 s0 ++ (w_Bs g a1 out ++ (rest)))) args s 0 0 A) (F0 m 9 ls [])) (fun k v ih hb ls H locs  hl hI hS => t_Tr_copyText_9 X  (fun v' ls H locs  hl hI hS h' => ih v' h' ls H locs  hl hI hS) hl hI hS hb) FU _ h ls H locs  hl hI hS
set_option maxRecDepth 100000 in
set_option maxHeartbeats 4000000 in
theorem t_Tr_copyText_0 {p : Program} {l : Launch} {e : Env} {s : State} {m : MethodId} {args : Array Value} {below : List Frame} {meth : Method} {c : Code} {D : va_G} {A : Nat → Prop} {g : Nat → ClassId} {rest : va_W} {a0 : Nat → Nat} {a1 : Nat → Nat} {ls : Array Slot} {H : Heap} {locs : List Loc} {s0 : S_Tr} {s1 : S_Bs} {x1 : Int32} {out : S_Bs} (X : Cx p s m args meth c prog_9_method_12_code 5 ws_Tr_copyText R_Tr none D g) (hl : lv_has ls 5 [(0, .ref (a0 0)), (1, .int x1), (2, .ref (a1 0))]) (hI : Iw D A (w_Tr g a0 s0 ++ (w_Bs g a1 s1 ++ (rest))) H) (hS : va_S A s.heap H locs) (h : B_Tr_copyText_0  s0 s1 x1 = some out) : W p l e (headSpec ws_Tr_copyText { frames := 1, cells := 0, slots := 0, locals := 23 }).room s m args below meth c H locs 0 0 (MQ below (QcV D A g (fun (_ : Unit) => w_Tr g a0 s0 ++ (w_Bs g a1 out ++ (rest)))) args s 0 0 A) (F0 m 0 ls []) := by
  have X1 := X
  obtain ⟨hx, hb, hml, hown, hts, hr, hlocks, hKK⟩ := X1
  have ht : ∀ w ∈ TB, w.before args s = true := fun w h => hts w (List.mem_cons_of_mem _ h)
  have hK := hKK.1
  unfold B_Tr_copyText_0 at h
  refine lv_aload_n hx hb d_Tr_copyText_0 rfl (lv_at hl 0 rfl) ?_
  refine lv_iload_n hx hb d_Tr_copyText_1 rfl (lv_at hl 1 rfl) ?_
  obtain ⟨o1, ho2, h⟩ := bd_s h
  refine cl_i (W1 := fun (_ : Unit) => w_Tr g a0 s0 ++ (w_Bs g a1 s1 ++ (rest))) (va_runV (As := [.int x1]) (rest := []) ⟨hx, hb, hml, hown, ht⟩ (c_Tr_textLength (l := l) (D := D) (A := A) (g := g) (rest := w_Bs g a1 s1 ++ (rest)) (a0 := a0) ho2) (cwV 1 ht (gd_V m_592 m_585 m_586 m_9 m_587) rfl rfl rfl (by decide +kernel) ⟨(Nat.le_of_ble_eq_true rfl), (Nat.le_of_ble_eq_true rfl)⟩) (prV (ci := 7) (q0 := 0) hKK hI (List.Perm.refl _) rfl rfl rfl) rfl rfl hl.1 rfl (lv_room (Nat.le_of_ble_eq_true rfl)) d_Tr_copyText_2 ⟨(Nat.le_of_ble_eq_true rfl), (Nat.le_of_ble_eq_true rfl)⟩) hS (fun _ => ((List.Perm.refl _)).symm) (fun _ H locs hI hS => ?_)
  have hI : Iw D A (w_Tr g a0 s0 ++ (w_Bs g a1 s1 ++ (rest))) H := hI
  refine lv_istore_n hx hb d_Tr_copyText_5 rfl hl (Nat.le_of_ble_eq_true rfl) rfl (fun ls hl => ?_)
  have hl : lv_has ls 5 [(3, .int o1), (0, .ref (a0 0)), (1, .int x1), (2, .ref (a1 0))] := hl
  refine lv_iconst (v := 0) hx hb d_Tr_copyText_6 (by decide) ?_
  refine lv_istore hx hb d_Tr_copyText_7 hl (Nat.le_of_ble_eq_true rfl) rfl (fun ls hl => ?_)
  have hl : lv_has ls 5 [(4, .int (0 : Int32)), (3, .int o1), (0, .ref (a0 0)), (1, .int x1), (2, .ref (a1 0))] := hl
  exact T_Tr_copyText_9 X (lv_sub hl [2, 3, 4, 1, 0] rfl) hI hS h
set_option maxRecDepth 100000 in
set_option maxHeartbeats 4000000 in
theorem c_Tr_copyText {l : Launch} {D : va_G} {A : Nat → Prop} {g : Nat → ClassId} {rest : va_W} {a0 : Nat → Nat} {a1 : Nat → Nat} {s0 : S_Tr} {s1 : S_Bs} {x1 : Int32} {out : S_Bs} (h : F_Tr_copyText s0 s1 x1 = some out) : Met l y_Tr_copyText ws_Tr_copyText { frames := 1, cells := 0, slots := 0, locals := 23 } (PcW D A g [.ref (a0 0), .int x1, .ref (a1 0)] (w_Tr g a0 s0 ++ (w_Bs g a1 s1 ++ (rest)))) (QcV D A g (fun (_ : Unit) => w_Tr g a0 s0 ++ (w_Bs g a1 out ++ (rest)))) 0 0 A := by
  refine Met.ofW (cc := prog_9_method_12_code) (maxL := 5) (ret := none) (by decide) rfl ?_
  intro p e s m args below meth c s₁ B hml hv
  obtain ⟨rfl, hI, hK⟩ := hv
  have hl := lv_entry [.ref (a0 0), .int x1, .ref (a1 0)] (n := 5) (Nat.le_of_ble_eq_true rfl)
  rw [lg_entry_eq]
  generalize (lg_sl [.ref (a0 0), .int x1, .ref (a1 0)] ++ List.replicate (5 - (lg_sl [.ref (a0 0), .int x1, .ref (a1 0)]).length) Slot.unset).toArray = ls at hl ⊢
  have hl : lv_has ls 5 [(0, .ref (a0 0)), (1, .int x1), (2, .ref (a1 0))] := hl
  exact t_Tr_copyText_0 ⟨B.exec, B.bytes, hml, findClass_of_methodNamed B.named, atoms_spec (ws := ws_Tr_copyText) B.pre, B.returns, B.notSynchronized, hK⟩ (lv_sub hl [0, 1, 2] rfl) hI va_S.rf h
def ws_Tr_writeChosen : List Cond := .code y_Tr_writeChosen prog_9_method_15_code 7 none :: TB
def B_Tr_writeChosen_77 (s0 : S_Tr) (s1 : S_Tr) (s2 : S_Bs) : Option S_Bs :=
  some s2
def B_Tr_writeChosen_71 (k9 : S_Bs × Int32 × Int32 × Int32 × Int32 → Option S_Bs) (s0 : S_Tr) (s1 : S_Tr) (s2 : S_Bs) (x2 : Int32) (x4 : Int32) (x5 : Int32) (x6 : Int32) : Option S_Bs :=
  (k9 (s2, x2, x4, x5, (x6 + 1)))
def B_Tr_writeChosen_62 (k9 : S_Bs × Int32 × Int32 × Int32 × Int32 → Option S_Bs) (s0 : S_Tr) (s1 : S_Tr) (s2 : S_Bs) (x2 : Int32) (x4 : Int32) (x5 : Int32) (x6 : Int32) : Option S_Bs :=
  ((F_Tr_writeNode s0 s2 x6 x2).bind fun o1 => (B_Tr_writeChosen_71 k9 s0 s1 o1.2 x2 x4 x5 x6))
def B_Tr_writeChosen_57 (k9 : S_Bs × Int32 × Int32 × Int32 × Int32 → Option S_Bs) (s0 : S_Tr) (s1 : S_Tr) (s2 : S_Bs) (x2 : Int32) (x4 : Int32) (x5 : Int32) (x6 : Int32) : Option S_Bs :=
  (if x5 = 0 then (B_Tr_writeChosen_71 k9 s0 s1 s2 x2 x4 x5 x6) else (B_Tr_writeChosen_62 k9 s0 s1 s2 x2 x4 x5 x6))
def B_Tr_writeChosen_46 (k9 : S_Bs × Int32 × Int32 × Int32 × Int32 → Option S_Bs) (s0 : S_Tr) (s1 : S_Tr) (s2 : S_Bs) (x2 : Int32) (x6 : Int32) (y0 : Int32) : Option S_Bs :=
  (if (x6 < 0 ∨ 101 ≤ x6.toNatClampNeg) then none else (B_Tr_writeChosen_57 k9 s0 s1 s2 x2 ((Tr_behind s0) x6.toNatClampNeg) y0 x6))
def B_Tr_writeChosen_45 (k9 : S_Bs × Int32 × Int32 × Int32 × Int32 → Option S_Bs) (s0 : S_Tr) (s1 : S_Tr) (s2 : S_Bs) (x2 : Int32) (x6 : Int32) : Option S_Bs :=
  (B_Tr_writeChosen_46 k9 s0 s1 s2 x2 x6 (0 : Int32))
def B_Tr_writeChosen_41 (k9 : S_Bs × Int32 × Int32 × Int32 × Int32 → Option S_Bs) (s0 : S_Tr) (s1 : S_Tr) (s2 : S_Bs) (x2 : Int32) (x6 : Int32) : Option S_Bs :=
  (B_Tr_writeChosen_46 k9 s0 s1 s2 x2 x6 (1 : Int32))
def B_Tr_writeChosen_25 (k9 : S_Bs × Int32 × Int32 × Int32 × Int32 → Option S_Bs) (s0 : S_Tr) (s1 : S_Tr) (s2 : S_Bs) (x2 : Int32) (x6 : Int32) : Option S_Bs :=
  (if (x6 < 0 ∨ 101 ≤ x6.toNatClampNeg) then none else ((F_Tr_find s1 (0 : Int32) ((Tr_tags s0) x6.toNatClampNeg)).bind fun o2 => (if o2 = ((-1) : Int32) then (B_Tr_writeChosen_45 k9 s0 s1 s2 x2 x6) else (B_Tr_writeChosen_41 k9 s0 s1 s2 x2 x6))))
def B_Tr_writeChosen_18 (k9 : S_Bs × Int32 × Int32 × Int32 × Int32 → Option S_Bs) (s0 : S_Tr) (s1 : S_Tr) (s2 : S_Bs) (x2 : Int32) (x4 : Int32) (x5 : Int32) (x6 : Int32) : Option S_Bs :=
  (if x6 = x4 then (B_Tr_writeChosen_25 k9 s0 s1 s2 x2 x6) else (B_Tr_writeChosen_57 k9 s0 s1 s2 x2 x4 x5 x6))
def B_Tr_writeChosen_9 (k9 : S_Bs × Int32 × Int32 × Int32 × Int32 → Option S_Bs) (s0 : S_Tr) (s1 : S_Tr) (s2 : S_Bs) (x2 : Int32) (x4 : Int32) (x5 : Int32) (x6 : Int32) : Option S_Bs :=
  (if (Tr_count s0) ≤ x6 then (B_Tr_writeChosen_77 s0 s1 s2) else (B_Tr_writeChosen_18 k9 s0 s1 s2 x2 x4 x5 x6))
def L_Tr_writeChosen_9 (s0 : S_Tr) (s1 : S_Tr) (v : S_Bs × Int32 × Int32 × Int32 × Int32) : Option S_Bs := lp (fun k9 v => B_Tr_writeChosen_9  k9 s0 s1 v.1 v.2.1 v.2.2.1 v.2.2.2.1 v.2.2.2.2) FU v
def B_Tr_writeChosen_0 (s0 : S_Tr) (s1 : S_Tr) (s2 : S_Bs) (x2 : Int32) : Option S_Bs :=
  (L_Tr_writeChosen_9 s0 s1 (s2, x2, (1 : Int32), (0 : Int32), (1 : Int32)))
def F_Tr_writeChosen (s0 : S_Tr) (s1 : S_Tr) (s2 : S_Bs) (x2 : Int32) : Option S_Bs := B_Tr_writeChosen_0 s0 s1 s2 x2
set_option maxRecDepth 100000 in
set_option maxHeartbeats 4000000 in
theorem t_Tr_writeChosen_77 {p : Program} {l : Launch} {e : Env} {s : State} {m : MethodId} {args : Array Value} {below : List Frame} {meth : Method} {c : Code} {D : va_G} {A : Nat → Prop} {g : Nat → ClassId} {rest : va_W} {a0 : Nat → Nat} {a1 : Nat → Nat} {a2 : Nat → Nat} {ls : Array Slot} {H : Heap} {locs : List Loc} {s0 : S_Tr} {s1 : S_Tr} {s2 : S_Bs} {out : S_Bs} (X : Cx p s m args meth c prog_9_method_15_code 7 ws_Tr_writeChosen R_Tr none D g) (hl : lv_has ls 7 []) (hI : Iw D A (w_Tr g a0 s0 ++ (w_Tr g a1 s1 ++ (w_Bs g a2 s2 ++ (rest)))) H) (hS : va_S A s.heap H locs) (h : B_Tr_writeChosen_77  s0 s1 s2 = some out) : W p l e (headSpec ws_Tr_writeChosen { frames := 3, cells := 0, slots := 0, locals := 74 }).room s m args below meth c H locs 0 0 (MQ below (QcV D A g (fun (_ : Unit) => w_Tr g a0 s0 ++ (w_Tr g a1 s1 ++ (w_Bs g a2 out ++ (rest))))) args s 0 0 A) (F0 m 77 ls []) := by
  have X1 := X
  obtain ⟨hx, hb, hml, hown, hts, hr, hlocks, hKK⟩ := X1
  have ht : ∀ w ∈ TB, w.before args s = true := fun w h => hts w (List.mem_cons_of_mem _ h)
  have hK := hKK.1
  unfold B_Tr_writeChosen_77 at h
  have h9 := Option.some.inj h
  subst h9
  exact W.vret hx hb hr (fun t ht hW => ⟨⟨(), rfl, trivial, ⟨by rw [ht]; exact hI, hKK.moved hW⟩⟩, hS.F ht⟩) hS.2.2 d_Tr_writeChosen_77
set_option maxRecDepth 100000 in
set_option maxHeartbeats 4000000 in
theorem t_Tr_writeChosen_71 {p : Program} {l : Launch} {e : Env} {s : State} {m : MethodId} {args : Array Value} {below : List Frame} {meth : Method} {c : Code} {D : va_G} {A : Nat → Prop} {g : Nat → ClassId} {rest : va_W} {a0 : Nat → Nat} {a1 : Nat → Nat} {a2 : Nat → Nat} {ls : Array Slot} {H : Heap} {locs : List Loc} {k9 : S_Bs × Int32 × Int32 × Int32 × Int32 → Option S_Bs} {s0 : S_Tr} {s1 : S_Tr} {s2 : S_Bs} {x2 : Int32} {x4 : Int32} {x5 : Int32} {x6 : Int32} {out : S_Bs} (X : Cx p s m args meth c prog_9_method_15_code 7 ws_Tr_writeChosen R_Tr none D g) (hk9 : ∀ (v : S_Bs × Int32 × Int32 × Int32 × Int32) (ls : Array Slot) (H : Heap) (locs : List Loc), lv_has ls 7 [(0, .ref (a0 0)), (1, .ref (a1 0)), (2, .int v.2.1), (3, .ref (a2 0)), (4, .int v.2.2.1), (5, .int v.2.2.2.1), (6, .int v.2.2.2.2)] → Iw D A (w_Tr g a0 s0 ++ (w_Tr g a1 s1 ++ (w_Bs g a2 v.1 ++ (rest)))) H → va_S A s.heap H locs → k9 v = some out → W p l e (headSpec ws_Tr_writeChosen { frames := 3, cells := 0, slots := 0, locals := 74 }).room s m args below meth c H locs 0 0 (MQ below (QcV D A g (fun (_ : Unit) => w_Tr g a0 s0 ++ (w_Tr g a1 s1 ++ (w_Bs g a2 out ++ (rest))))) args s 0 0 A) (F0 m 9 ls [])) (hl : lv_has ls 7 [(0, .ref (a0 0)), (1, .ref (a1 0)), (2, .int x2), (3, .ref (a2 0)), (4, .int x4), (5, .int x5), (6, .int x6)]) (hI : Iw D A (w_Tr g a0 s0 ++ (w_Tr g a1 s1 ++ (w_Bs g a2 s2 ++ (rest)))) H) (hS : va_S A s.heap H locs) (h : B_Tr_writeChosen_71 k9 s0 s1 s2 x2 x4 x5 x6 = some out) : W p l e (headSpec ws_Tr_writeChosen { frames := 3, cells := 0, slots := 0, locals := 74 }).room s m args below meth c H locs 0 0 (MQ below (QcV D A g (fun (_ : Unit) => w_Tr g a0 s0 ++ (w_Tr g a1 s1 ++ (w_Bs g a2 out ++ (rest))))) args s 0 0 A) (F0 m 71 ls []) := by
  have X1 := X
  obtain ⟨hx, hb, hml, hown, hts, hr, hlocks, hKK⟩ := X1
  have ht : ∀ w ∈ TB, w.before args s = true := fun w h => hts w (List.mem_cons_of_mem _ h)
  have hK := hKK.1
  unfold B_Tr_writeChosen_71 at h
  refine lv_iinc (k := 6) (v := (x6 + 1)) hx hb d_Tr_writeChosen_71 hl rfl (congrArg (fun z => x6 + z) (by decide)) (Nat.le_of_ble_eq_true rfl) rfl (fun ls hl => ?_)
  have hl : lv_has ls 7 [(6, .int (x6 + 1)), (0, .ref (a0 0)), (1, .ref (a1 0)), (2, .int x2), (3, .ref (a2 0)), (4, .int x4), (5, .int x5)] := hl
  refine lv_goto (tgt := 9) hx hb d_Tr_writeChosen_74 (by decide) ?_
  exact hk9 (s2, x2, x4, x5, (x6 + 1)) _ _ _ (lv_sub hl [1, 2, 3, 4, 5, 6, 0] rfl) hI hS h
set_option maxRecDepth 100000 in
set_option maxHeartbeats 4000000 in
theorem t_Tr_writeChosen_62 {p : Program} {l : Launch} {e : Env} {s : State} {m : MethodId} {args : Array Value} {below : List Frame} {meth : Method} {c : Code} {D : va_G} {A : Nat → Prop} {g : Nat → ClassId} {rest : va_W} {a0 : Nat → Nat} {a1 : Nat → Nat} {a2 : Nat → Nat} {ls : Array Slot} {H : Heap} {locs : List Loc} {k9 : S_Bs × Int32 × Int32 × Int32 × Int32 → Option S_Bs} {s0 : S_Tr} {s1 : S_Tr} {s2 : S_Bs} {x2 : Int32} {x4 : Int32} {x5 : Int32} {x6 : Int32} {out : S_Bs} (X : Cx p s m args meth c prog_9_method_15_code 7 ws_Tr_writeChosen R_Tr none D g) (hk9 : ∀ (v : S_Bs × Int32 × Int32 × Int32 × Int32) (ls : Array Slot) (H : Heap) (locs : List Loc), lv_has ls 7 [(0, .ref (a0 0)), (1, .ref (a1 0)), (2, .int v.2.1), (3, .ref (a2 0)), (4, .int v.2.2.1), (5, .int v.2.2.2.1), (6, .int v.2.2.2.2)] → Iw D A (w_Tr g a0 s0 ++ (w_Tr g a1 s1 ++ (w_Bs g a2 v.1 ++ (rest)))) H → va_S A s.heap H locs → k9 v = some out → W p l e (headSpec ws_Tr_writeChosen { frames := 3, cells := 0, slots := 0, locals := 74 }).room s m args below meth c H locs 0 0 (MQ below (QcV D A g (fun (_ : Unit) => w_Tr g a0 s0 ++ (w_Tr g a1 s1 ++ (w_Bs g a2 out ++ (rest))))) args s 0 0 A) (F0 m 9 ls [])) (hl : lv_has ls 7 [(0, .ref (a0 0)), (1, .ref (a1 0)), (2, .int x2), (3, .ref (a2 0)), (4, .int x4), (5, .int x5), (6, .int x6)]) (hI : Iw D A (w_Tr g a0 s0 ++ (w_Tr g a1 s1 ++ (w_Bs g a2 s2 ++ (rest)))) H) (hS : va_S A s.heap H locs) (h : B_Tr_writeChosen_62 k9 s0 s1 s2 x2 x4 x5 x6 = some out) : W p l e (headSpec ws_Tr_writeChosen { frames := 3, cells := 0, slots := 0, locals := 74 }).room s m args below meth c H locs 0 0 (MQ below (QcV D A g (fun (_ : Unit) => w_Tr g a0 s0 ++ (w_Tr g a1 s1 ++ (w_Bs g a2 out ++ (rest))))) args s 0 0 A) (F0 m 62 ls []) := by
  have X1 := X
  obtain ⟨hx, hb, hml, hown, hts, hr, hlocks, hKK⟩ := X1
  have ht : ∀ w ∈ TB, w.before args s = true := fun w h => hts w (List.mem_cons_of_mem _ h)
  have hK := hKK.1
  unfold B_Tr_writeChosen_62 at h
  refine lv_aload_n hx hb d_Tr_writeChosen_62 rfl (lv_at hl 0 rfl) ?_
  refine lv_iload hx hb d_Tr_writeChosen_63 (lv_at hl 6 rfl) ?_
  refine lv_iload_n hx hb d_Tr_writeChosen_65 rfl (lv_at hl 2 rfl) ?_
  refine lv_aload_n hx hb d_Tr_writeChosen_66 rfl (lv_at hl 3 rfl) ?_
  obtain ⟨o1, ho2, h⟩ := bd_s h
  refine cl_i (W1 := fun (_ : Unit) => w_Tr g a0 s0 ++ (w_Tr g a1 s1 ++ (w_Bs g a2 o1.2 ++ (rest)))) (va_runV (As := [.int x6, .int x2, .ref (a2 0)]) (rest := []) ⟨hx, hb, hml, hown, ht⟩ (c_Tr_writeNode (l := l) (D := D) (A := A) (g := g) (rest := w_Tr g a1 s1 ++ (rest)) (a0 := a0) (a1 := a2) ho2) (cwV 3 ht (gd_V m_569 m_571 mp_30 m_9 m_572) rfl rfl rfl (by decide +kernel) ⟨(Nat.le_of_ble_eq_true rfl), (Nat.le_of_ble_eq_true rfl)⟩) (prV (ci := 7) (q0 := 0) hKK hI ((mv_2).trans (mv_1)) rfl rfl rfl) rfl rfl hl.1 rfl (lv_room (Nat.le_of_ble_eq_true rfl)) d_Tr_writeChosen_67 ⟨(Nat.le_of_ble_eq_true rfl), (Nat.le_of_ble_eq_true rfl)⟩) hS (fun _ => (((mv_2).trans (mv_1))).symm) (fun _ H locs hI hS => ?_)
  have hI : Iw D A (w_Tr g a0 s0 ++ (w_Tr g a1 s1 ++ (w_Bs g a2 o1.2 ++ (rest)))) H := hI
  refine lv_pop hx hb d_Tr_writeChosen_70 rfl ?_
  exact t_Tr_writeChosen_71 X hk9 (lv_sub hl [0, 1, 2, 3, 4, 5, 6] rfl) hI hS h
set_option maxRecDepth 100000 in
set_option maxHeartbeats 4000000 in
theorem t_Tr_writeChosen_57 {p : Program} {l : Launch} {e : Env} {s : State} {m : MethodId} {args : Array Value} {below : List Frame} {meth : Method} {c : Code} {D : va_G} {A : Nat → Prop} {g : Nat → ClassId} {rest : va_W} {a0 : Nat → Nat} {a1 : Nat → Nat} {a2 : Nat → Nat} {ls : Array Slot} {H : Heap} {locs : List Loc} {k9 : S_Bs × Int32 × Int32 × Int32 × Int32 → Option S_Bs} {s0 : S_Tr} {s1 : S_Tr} {s2 : S_Bs} {x2 : Int32} {x4 : Int32} {x5 : Int32} {x6 : Int32} {out : S_Bs} (X : Cx p s m args meth c prog_9_method_15_code 7 ws_Tr_writeChosen R_Tr none D g) (hk9 : ∀ (v : S_Bs × Int32 × Int32 × Int32 × Int32) (ls : Array Slot) (H : Heap) (locs : List Loc), lv_has ls 7 [(0, .ref (a0 0)), (1, .ref (a1 0)), (2, .int v.2.1), (3, .ref (a2 0)), (4, .int v.2.2.1), (5, .int v.2.2.2.1), (6, .int v.2.2.2.2)] → Iw D A (w_Tr g a0 s0 ++ (w_Tr g a1 s1 ++ (w_Bs g a2 v.1 ++ (rest)))) H → va_S A s.heap H locs → k9 v = some out → W p l e (headSpec ws_Tr_writeChosen { frames := 3, cells := 0, slots := 0, locals := 74 }).room s m args below meth c H locs 0 0 (MQ below (QcV D A g (fun (_ : Unit) => w_Tr g a0 s0 ++ (w_Tr g a1 s1 ++ (w_Bs g a2 out ++ (rest))))) args s 0 0 A) (F0 m 9 ls [])) (hl : lv_has ls 7 [(0, .ref (a0 0)), (1, .ref (a1 0)), (2, .int x2), (3, .ref (a2 0)), (4, .int x4), (5, .int x5), (6, .int x6)]) (hI : Iw D A (w_Tr g a0 s0 ++ (w_Tr g a1 s1 ++ (w_Bs g a2 s2 ++ (rest)))) H) (hS : va_S A s.heap H locs) (h : B_Tr_writeChosen_57 k9 s0 s1 s2 x2 x4 x5 x6 = some out) : W p l e (headSpec ws_Tr_writeChosen { frames := 3, cells := 0, slots := 0, locals := 74 }).room s m args below meth c H locs 0 0 (MQ below (QcV D A g (fun (_ : Unit) => w_Tr g a0 s0 ++ (w_Tr g a1 s1 ++ (w_Bs g a2 out ++ (rest))))) args s 0 0 A) (F0 m 57 ls []) := by
  have X1 := X
  obtain ⟨hx, hb, hml, hown, hts, hr, hlocks, hKK⟩ := X1
  have ht : ∀ w ∈ TB, w.before args s = true := fun w h => hts w (List.mem_cons_of_mem _ h)
  have hK := hKK.1
  unfold B_Tr_writeChosen_57 at h
  refine lv_iload hx hb d_Tr_writeChosen_57 (lv_at hl 5 rfl) ?_
  refine lv_if_eq (tgt := 71) hx hb d_Tr_writeChosen_59 (by decide) (fun hc => ?_) (fun hc => ?_)
  · have h := it_t h hc
    exact t_Tr_writeChosen_71 X hk9 (lv_sub hl [0, 1, 2, 3, 4, 5, 6] rfl) hI hS h
  · have h := it_f h hc
    exact t_Tr_writeChosen_62 X hk9 (lv_sub hl [0, 1, 2, 3, 4, 5, 6] rfl) hI hS h
set_option maxRecDepth 100000 in
set_option maxHeartbeats 4000000 in
theorem t_Tr_writeChosen_46 {p : Program} {l : Launch} {e : Env} {s : State} {m : MethodId} {args : Array Value} {below : List Frame} {meth : Method} {c : Code} {D : va_G} {A : Nat → Prop} {g : Nat → ClassId} {rest : va_W} {a0 : Nat → Nat} {a1 : Nat → Nat} {a2 : Nat → Nat} {ls : Array Slot} {H : Heap} {locs : List Loc} {k9 : S_Bs × Int32 × Int32 × Int32 × Int32 → Option S_Bs} {s0 : S_Tr} {s1 : S_Tr} {s2 : S_Bs} {x2 : Int32} {x6 : Int32} {y0 : Int32} {out : S_Bs} (X : Cx p s m args meth c prog_9_method_15_code 7 ws_Tr_writeChosen R_Tr none D g) (hk9 : ∀ (v : S_Bs × Int32 × Int32 × Int32 × Int32) (ls : Array Slot) (H : Heap) (locs : List Loc), lv_has ls 7 [(0, .ref (a0 0)), (1, .ref (a1 0)), (2, .int v.2.1), (3, .ref (a2 0)), (4, .int v.2.2.1), (5, .int v.2.2.2.1), (6, .int v.2.2.2.2)] → Iw D A (w_Tr g a0 s0 ++ (w_Tr g a1 s1 ++ (w_Bs g a2 v.1 ++ (rest)))) H → va_S A s.heap H locs → k9 v = some out → W p l e (headSpec ws_Tr_writeChosen { frames := 3, cells := 0, slots := 0, locals := 74 }).room s m args below meth c H locs 0 0 (MQ below (QcV D A g (fun (_ : Unit) => w_Tr g a0 s0 ++ (w_Tr g a1 s1 ++ (w_Bs g a2 out ++ (rest))))) args s 0 0 A) (F0 m 9 ls [])) (hl : lv_has ls 7 [(0, .ref (a0 0)), (1, .ref (a1 0)), (2, .int x2), (3, .ref (a2 0)), (6, .int x6)]) (hI : Iw D A (w_Tr g a0 s0 ++ (w_Tr g a1 s1 ++ (w_Bs g a2 s2 ++ (rest)))) H) (hS : va_S A s.heap H locs) (h : B_Tr_writeChosen_46 k9 s0 s1 s2 x2 x6 y0 = some out) : W p l e (headSpec ws_Tr_writeChosen { frames := 3, cells := 0, slots := 0, locals := 74 }).room s m args below meth c H locs 0 0 (MQ below (QcV D A g (fun (_ : Unit) => w_Tr g a0 s0 ++ (w_Tr g a1 s1 ++ (w_Bs g a2 out ++ (rest))))) args s 0 0 A) (F0 m 46 ls [.int y0]) := by
  have X1 := X
  obtain ⟨hx, hb, hml, hown, hts, hr, hlocks, hKK⟩ := X1
  have ht : ∀ w ∈ TB, w.before args s = true := fun w h => hts w (List.mem_cons_of_mem _ h)
  have hK := hKK.1
  unfold B_Tr_writeChosen_46 at h
  refine lv_istore hx hb d_Tr_writeChosen_46 hl (Nat.le_of_ble_eq_true rfl) rfl (fun ls hl => ?_)
  have hl : lv_has ls 7 [(5, .int y0), (0, .ref (a0 0)), (1, .ref (a1 0)), (2, .int x2), (3, .ref (a2 0)), (6, .int x6)] := hl
  refine lv_aload_n hx hb d_Tr_writeChosen_48 rfl (lv_at hl 1 rfl) ?_
  refine va_get (D := D) (ci := 7) (v := .ref (a0 2)) (C := R_Tr) (T := T_Tr) (N := 7) hx hb ht in_Tr hown hK hI.1 0 rfl rfl 1 (by decide) (ht _ m_135) (fun _ h9 => h9) rfl d_Tr_writeChosen_49 ?_
  refine lv_iload hx hb d_Tr_writeChosen_52 (lv_at hl 5 rfl) ?_
  by_cases hc1 : (x6 < 0 ∨ 101 ≤ x6.toNatClampNeg)
  · exact no_s (it_t h hc1)
  have h := it_f h hc1
  refine va_iald hx hb hK hI.1 2 0 rfl rfl hc1 d_Tr_writeChosen_54 ?_
  refine lv_istore hx hb d_Tr_writeChosen_55 hl (Nat.le_of_ble_eq_true rfl) rfl (fun ls hl => ?_)
  have hl : lv_has ls 7 [(4, .int ((Tr_behind s0) x6.toNatClampNeg)), (5, .int y0), (0, .ref (a0 0)), (1, .ref (a1 0)), (2, .int x2), (3, .ref (a2 0)), (6, .int x6)] := hl
  exact t_Tr_writeChosen_57 X hk9 (lv_sub hl [2, 3, 4, 5, 0, 1, 6] rfl) hI hS h
set_option maxRecDepth 100000 in
set_option maxHeartbeats 4000000 in
theorem t_Tr_writeChosen_45 {p : Program} {l : Launch} {e : Env} {s : State} {m : MethodId} {args : Array Value} {below : List Frame} {meth : Method} {c : Code} {D : va_G} {A : Nat → Prop} {g : Nat → ClassId} {rest : va_W} {a0 : Nat → Nat} {a1 : Nat → Nat} {a2 : Nat → Nat} {ls : Array Slot} {H : Heap} {locs : List Loc} {k9 : S_Bs × Int32 × Int32 × Int32 × Int32 → Option S_Bs} {s0 : S_Tr} {s1 : S_Tr} {s2 : S_Bs} {x2 : Int32} {x6 : Int32} {out : S_Bs} (X : Cx p s m args meth c prog_9_method_15_code 7 ws_Tr_writeChosen R_Tr none D g) (hk9 : ∀ (v : S_Bs × Int32 × Int32 × Int32 × Int32) (ls : Array Slot) (H : Heap) (locs : List Loc), lv_has ls 7 [(0, .ref (a0 0)), (1, .ref (a1 0)), (2, .int v.2.1), (3, .ref (a2 0)), (4, .int v.2.2.1), (5, .int v.2.2.2.1), (6, .int v.2.2.2.2)] → Iw D A (w_Tr g a0 s0 ++ (w_Tr g a1 s1 ++ (w_Bs g a2 v.1 ++ (rest)))) H → va_S A s.heap H locs → k9 v = some out → W p l e (headSpec ws_Tr_writeChosen { frames := 3, cells := 0, slots := 0, locals := 74 }).room s m args below meth c H locs 0 0 (MQ below (QcV D A g (fun (_ : Unit) => w_Tr g a0 s0 ++ (w_Tr g a1 s1 ++ (w_Bs g a2 out ++ (rest))))) args s 0 0 A) (F0 m 9 ls [])) (hl : lv_has ls 7 [(0, .ref (a0 0)), (1, .ref (a1 0)), (2, .int x2), (3, .ref (a2 0)), (6, .int x6)]) (hI : Iw D A (w_Tr g a0 s0 ++ (w_Tr g a1 s1 ++ (w_Bs g a2 s2 ++ (rest)))) H) (hS : va_S A s.heap H locs) (h : B_Tr_writeChosen_45 k9 s0 s1 s2 x2 x6 = some out) : W p l e (headSpec ws_Tr_writeChosen { frames := 3, cells := 0, slots := 0, locals := 74 }).room s m args below meth c H locs 0 0 (MQ below (QcV D A g (fun (_ : Unit) => w_Tr g a0 s0 ++ (w_Tr g a1 s1 ++ (w_Bs g a2 out ++ (rest))))) args s 0 0 A) (F0 m 45 ls []) := by
  have X1 := X
  obtain ⟨hx, hb, hml, hown, hts, hr, hlocks, hKK⟩ := X1
  have ht : ∀ w ∈ TB, w.before args s = true := fun w h => hts w (List.mem_cons_of_mem _ h)
  have hK := hKK.1
  unfold B_Tr_writeChosen_45 at h
  refine lv_iconst (v := 0) hx hb d_Tr_writeChosen_45 (by decide) ?_
  exact t_Tr_writeChosen_46 X hk9 (lv_sub hl [0, 1, 2, 3, 4] rfl) hI hS h
set_option maxRecDepth 100000 in
set_option maxHeartbeats 4000000 in
theorem t_Tr_writeChosen_41 {p : Program} {l : Launch} {e : Env} {s : State} {m : MethodId} {args : Array Value} {below : List Frame} {meth : Method} {c : Code} {D : va_G} {A : Nat → Prop} {g : Nat → ClassId} {rest : va_W} {a0 : Nat → Nat} {a1 : Nat → Nat} {a2 : Nat → Nat} {ls : Array Slot} {H : Heap} {locs : List Loc} {k9 : S_Bs × Int32 × Int32 × Int32 × Int32 → Option S_Bs} {s0 : S_Tr} {s1 : S_Tr} {s2 : S_Bs} {x2 : Int32} {x6 : Int32} {out : S_Bs} (X : Cx p s m args meth c prog_9_method_15_code 7 ws_Tr_writeChosen R_Tr none D g) (hk9 : ∀ (v : S_Bs × Int32 × Int32 × Int32 × Int32) (ls : Array Slot) (H : Heap) (locs : List Loc), lv_has ls 7 [(0, .ref (a0 0)), (1, .ref (a1 0)), (2, .int v.2.1), (3, .ref (a2 0)), (4, .int v.2.2.1), (5, .int v.2.2.2.1), (6, .int v.2.2.2.2)] → Iw D A (w_Tr g a0 s0 ++ (w_Tr g a1 s1 ++ (w_Bs g a2 v.1 ++ (rest)))) H → va_S A s.heap H locs → k9 v = some out → W p l e (headSpec ws_Tr_writeChosen { frames := 3, cells := 0, slots := 0, locals := 74 }).room s m args below meth c H locs 0 0 (MQ below (QcV D A g (fun (_ : Unit) => w_Tr g a0 s0 ++ (w_Tr g a1 s1 ++ (w_Bs g a2 out ++ (rest))))) args s 0 0 A) (F0 m 9 ls [])) (hl : lv_has ls 7 [(0, .ref (a0 0)), (1, .ref (a1 0)), (2, .int x2), (3, .ref (a2 0)), (6, .int x6)]) (hI : Iw D A (w_Tr g a0 s0 ++ (w_Tr g a1 s1 ++ (w_Bs g a2 s2 ++ (rest)))) H) (hS : va_S A s.heap H locs) (h : B_Tr_writeChosen_41 k9 s0 s1 s2 x2 x6 = some out) : W p l e (headSpec ws_Tr_writeChosen { frames := 3, cells := 0, slots := 0, locals := 74 }).room s m args below meth c H locs 0 0 (MQ below (QcV D A g (fun (_ : Unit) => w_Tr g a0 s0 ++ (w_Tr g a1 s1 ++ (w_Bs g a2 out ++ (rest))))) args s 0 0 A) (F0 m 41 ls []) := by
  have X1 := X
  obtain ⟨hx, hb, hml, hown, hts, hr, hlocks, hKK⟩ := X1
  have ht : ∀ w ∈ TB, w.before args s = true := fun w h => hts w (List.mem_cons_of_mem _ h)
  have hK := hKK.1
  unfold B_Tr_writeChosen_41 at h
  refine lv_iconst (v := 1) hx hb d_Tr_writeChosen_41 (by decide) ?_
  refine lv_goto (tgt := 46) hx hb d_Tr_writeChosen_42 (by decide) ?_
  exact t_Tr_writeChosen_46 X hk9 (lv_sub hl [0, 1, 2, 3, 4] rfl) hI hS h
set_option maxRecDepth 100000 in
set_option maxHeartbeats 4000000 in
theorem t_Tr_writeChosen_25 {p : Program} {l : Launch} {e : Env} {s : State} {m : MethodId} {args : Array Value} {below : List Frame} {meth : Method} {c : Code} {D : va_G} {A : Nat → Prop} {g : Nat → ClassId} {rest : va_W} {a0 : Nat → Nat} {a1 : Nat → Nat} {a2 : Nat → Nat} {ls : Array Slot} {H : Heap} {locs : List Loc} {k9 : S_Bs × Int32 × Int32 × Int32 × Int32 → Option S_Bs} {s0 : S_Tr} {s1 : S_Tr} {s2 : S_Bs} {x2 : Int32} {x6 : Int32} {out : S_Bs} (X : Cx p s m args meth c prog_9_method_15_code 7 ws_Tr_writeChosen R_Tr none D g) (hk9 : ∀ (v : S_Bs × Int32 × Int32 × Int32 × Int32) (ls : Array Slot) (H : Heap) (locs : List Loc), lv_has ls 7 [(0, .ref (a0 0)), (1, .ref (a1 0)), (2, .int v.2.1), (3, .ref (a2 0)), (4, .int v.2.2.1), (5, .int v.2.2.2.1), (6, .int v.2.2.2.2)] → Iw D A (w_Tr g a0 s0 ++ (w_Tr g a1 s1 ++ (w_Bs g a2 v.1 ++ (rest)))) H → va_S A s.heap H locs → k9 v = some out → W p l e (headSpec ws_Tr_writeChosen { frames := 3, cells := 0, slots := 0, locals := 74 }).room s m args below meth c H locs 0 0 (MQ below (QcV D A g (fun (_ : Unit) => w_Tr g a0 s0 ++ (w_Tr g a1 s1 ++ (w_Bs g a2 out ++ (rest))))) args s 0 0 A) (F0 m 9 ls [])) (hl : lv_has ls 7 [(0, .ref (a0 0)), (1, .ref (a1 0)), (2, .int x2), (3, .ref (a2 0)), (6, .int x6)]) (hI : Iw D A (w_Tr g a0 s0 ++ (w_Tr g a1 s1 ++ (w_Bs g a2 s2 ++ (rest)))) H) (hS : va_S A s.heap H locs) (h : B_Tr_writeChosen_25 k9 s0 s1 s2 x2 x6 = some out) : W p l e (headSpec ws_Tr_writeChosen { frames := 3, cells := 0, slots := 0, locals := 74 }).room s m args below meth c H locs 0 0 (MQ below (QcV D A g (fun (_ : Unit) => w_Tr g a0 s0 ++ (w_Tr g a1 s1 ++ (w_Bs g a2 out ++ (rest))))) args s 0 0 A) (F0 m 25 ls []) := by
  have X1 := X
  obtain ⟨hx, hb, hml, hown, hts, hr, hlocks, hKK⟩ := X1
  have ht : ∀ w ∈ TB, w.before args s = true := fun w h => hts w (List.mem_cons_of_mem _ h)
  have hK := hKK.1
  unfold B_Tr_writeChosen_25 at h
  refine lv_aload_n hx hb d_Tr_writeChosen_25 rfl (lv_at hl 1 rfl) ?_
  refine lv_iconst (v := 0) hx hb d_Tr_writeChosen_26 (by decide) ?_
  refine lv_aload_n hx hb d_Tr_writeChosen_27 rfl (lv_at hl 0 rfl) ?_
  refine va_get (D := D) (ci := 7) (v := .ref (a0 1)) (C := R_Tr) (T := T_Tr) (N := 7) hx hb ht in_Tr hown hK hI.1 0 rfl rfl 0 (by decide) (ht _ m_134) (fun _ h9 => h9) rfl d_Tr_writeChosen_28 ?_
  refine lv_iload hx hb d_Tr_writeChosen_31 (lv_at hl 4 rfl) ?_
  by_cases hc1 : (x6 < 0 ∨ 101 ≤ x6.toNatClampNeg)
  · exact no_s (it_t h hc1)
  have h := it_f h hc1
  refine va_iald hx hb hK hI.1 1 0 rfl rfl hc1 d_Tr_writeChosen_33 ?_
  obtain ⟨o2, ho3, h⟩ := bd_s h
  refine cl_i (W1 := fun (_ : Unit) => w_Tr g a0 s0 ++ (w_Tr g a1 s1 ++ (w_Bs g a2 s2 ++ (rest)))) (va_runV (As := [.int (0 : Int32), .int ((Tr_tags s0) x6.toNatClampNeg)]) (rest := []) ⟨hx, hb, hml, hown, ht⟩ (c_Tr_find (l := l) (D := D) (A := A) (g := g) (rest := w_Tr g a0 s0 ++ (w_Bs g a2 s2 ++ (rest))) (a0 := a1) ho3) (cwV 2 ht (gd_V m_643 m_504 m_505 m_9 m_506) rfl rfl rfl (by decide +kernel) ⟨(Nat.le_of_ble_eq_true rfl), (Nat.le_of_ble_eq_true rfl)⟩) (prV (ci := 7) (q0 := 0) hKK hI (mv_1) rfl rfl rfl) rfl rfl hl.1 rfl (lv_room (Nat.le_of_ble_eq_true rfl)) d_Tr_writeChosen_34 ⟨(Nat.le_of_ble_eq_true rfl), (Nat.le_of_ble_eq_true rfl)⟩) hS (fun _ => ((mv_1)).symm) (fun _ H locs hI hS => ?_)
  have hI : Iw D A (w_Tr g a0 s0 ++ (w_Tr g a1 s1 ++ (w_Bs g a2 s2 ++ (rest)))) H := hI
  refine lv_iconst (v := (-1)) hx hb d_Tr_writeChosen_37 (by decide) ?_
  refine lv_icmp_eq (tgt := 45) hx hb d_Tr_writeChosen_38 (by decide) (fun hc => ?_) (fun hc => ?_)
  · have h := it_t h hc
    exact t_Tr_writeChosen_45 X hk9 (lv_sub hl [0, 1, 2, 3, 4] rfl) hI hS h
  · have h := it_f h hc
    exact t_Tr_writeChosen_41 X hk9 (lv_sub hl [0, 1, 2, 3, 4] rfl) hI hS h
set_option maxRecDepth 100000 in
set_option maxHeartbeats 4000000 in
theorem t_Tr_writeChosen_18 {p : Program} {l : Launch} {e : Env} {s : State} {m : MethodId} {args : Array Value} {below : List Frame} {meth : Method} {c : Code} {D : va_G} {A : Nat → Prop} {g : Nat → ClassId} {rest : va_W} {a0 : Nat → Nat} {a1 : Nat → Nat} {a2 : Nat → Nat} {ls : Array Slot} {H : Heap} {locs : List Loc} {k9 : S_Bs × Int32 × Int32 × Int32 × Int32 → Option S_Bs} {s0 : S_Tr} {s1 : S_Tr} {s2 : S_Bs} {x2 : Int32} {x4 : Int32} {x5 : Int32} {x6 : Int32} {out : S_Bs} (X : Cx p s m args meth c prog_9_method_15_code 7 ws_Tr_writeChosen R_Tr none D g) (hk9 : ∀ (v : S_Bs × Int32 × Int32 × Int32 × Int32) (ls : Array Slot) (H : Heap) (locs : List Loc), lv_has ls 7 [(0, .ref (a0 0)), (1, .ref (a1 0)), (2, .int v.2.1), (3, .ref (a2 0)), (4, .int v.2.2.1), (5, .int v.2.2.2.1), (6, .int v.2.2.2.2)] → Iw D A (w_Tr g a0 s0 ++ (w_Tr g a1 s1 ++ (w_Bs g a2 v.1 ++ (rest)))) H → va_S A s.heap H locs → k9 v = some out → W p l e (headSpec ws_Tr_writeChosen { frames := 3, cells := 0, slots := 0, locals := 74 }).room s m args below meth c H locs 0 0 (MQ below (QcV D A g (fun (_ : Unit) => w_Tr g a0 s0 ++ (w_Tr g a1 s1 ++ (w_Bs g a2 out ++ (rest))))) args s 0 0 A) (F0 m 9 ls [])) (hl : lv_has ls 7 [(0, .ref (a0 0)), (1, .ref (a1 0)), (2, .int x2), (3, .ref (a2 0)), (4, .int x4), (5, .int x5), (6, .int x6)]) (hI : Iw D A (w_Tr g a0 s0 ++ (w_Tr g a1 s1 ++ (w_Bs g a2 s2 ++ (rest)))) H) (hS : va_S A s.heap H locs) (h : B_Tr_writeChosen_18 k9 s0 s1 s2 x2 x4 x5 x6 = some out) : W p l e (headSpec ws_Tr_writeChosen { frames := 3, cells := 0, slots := 0, locals := 74 }).room s m args below meth c H locs 0 0 (MQ below (QcV D A g (fun (_ : Unit) => w_Tr g a0 s0 ++ (w_Tr g a1 s1 ++ (w_Bs g a2 out ++ (rest))))) args s 0 0 A) (F0 m 18 ls []) := by
  have X1 := X
  obtain ⟨hx, hb, hml, hown, hts, hr, hlocks, hKK⟩ := X1
  have ht : ∀ w ∈ TB, w.before args s = true := fun w h => hts w (List.mem_cons_of_mem _ h)
  have hK := hKK.1
  unfold B_Tr_writeChosen_18 at h
  refine lv_iload hx hb d_Tr_writeChosen_18 (lv_at hl 6 rfl) ?_
  refine lv_iload hx hb d_Tr_writeChosen_20 (lv_at hl 4 rfl) ?_
  refine lv_icmp_ne (tgt := 57) hx hb d_Tr_writeChosen_22 (by decide) (fun hc => ?_) (fun hc => ?_)
  · have h := it_f h hc
    exact t_Tr_writeChosen_57 X hk9 (lv_sub hl [0, 1, 2, 3, 4, 5, 6] rfl) hI hS h
  · have h := it_t h hc
    exact t_Tr_writeChosen_25 X hk9 (lv_sub hl [0, 1, 2, 3, 6] rfl) hI hS h
set_option maxRecDepth 100000 in
set_option maxHeartbeats 4000000 in
theorem t_Tr_writeChosen_9 {p : Program} {l : Launch} {e : Env} {s : State} {m : MethodId} {args : Array Value} {below : List Frame} {meth : Method} {c : Code} {D : va_G} {A : Nat → Prop} {g : Nat → ClassId} {rest : va_W} {a0 : Nat → Nat} {a1 : Nat → Nat} {a2 : Nat → Nat} {ls : Array Slot} {H : Heap} {locs : List Loc} {k9 : S_Bs × Int32 × Int32 × Int32 × Int32 → Option S_Bs} {s0 : S_Tr} {s1 : S_Tr} {s2 : S_Bs} {x2 : Int32} {x4 : Int32} {x5 : Int32} {x6 : Int32} {out : S_Bs} (X : Cx p s m args meth c prog_9_method_15_code 7 ws_Tr_writeChosen R_Tr none D g) (hk9 : ∀ (v : S_Bs × Int32 × Int32 × Int32 × Int32) (ls : Array Slot) (H : Heap) (locs : List Loc), lv_has ls 7 [(0, .ref (a0 0)), (1, .ref (a1 0)), (2, .int v.2.1), (3, .ref (a2 0)), (4, .int v.2.2.1), (5, .int v.2.2.2.1), (6, .int v.2.2.2.2)] → Iw D A (w_Tr g a0 s0 ++ (w_Tr g a1 s1 ++ (w_Bs g a2 v.1 ++ (rest)))) H → va_S A s.heap H locs → k9 v = some out → W p l e (headSpec ws_Tr_writeChosen { frames := 3, cells := 0, slots := 0, locals := 74 }).room s m args below meth c H locs 0 0 (MQ below (QcV D A g (fun (_ : Unit) => w_Tr g a0 s0 ++ (w_Tr g a1 s1 ++ (w_Bs g a2 out ++ (rest))))) args s 0 0 A) (F0 m 9 ls [])) (hl : lv_has ls 7 [(0, .ref (a0 0)), (1, .ref (a1 0)), (2, .int x2), (3, .ref (a2 0)), (4, .int x4), (5, .int x5), (6, .int x6)]) (hI : Iw D A (w_Tr g a0 s0 ++ (w_Tr g a1 s1 ++ (w_Bs g a2 s2 ++ (rest)))) H) (hS : va_S A s.heap H locs) (h : B_Tr_writeChosen_9 k9 s0 s1 s2 x2 x4 x5 x6 = some out) : W p l e (headSpec ws_Tr_writeChosen { frames := 3, cells := 0, slots := 0, locals := 74 }).room s m args below meth c H locs 0 0 (MQ below (QcV D A g (fun (_ : Unit) => w_Tr g a0 s0 ++ (w_Tr g a1 s1 ++ (w_Bs g a2 out ++ (rest))))) args s 0 0 A) (F0 m 9 ls []) := by
  have X1 := X
  obtain ⟨hx, hb, hml, hown, hts, hr, hlocks, hKK⟩ := X1
  have ht : ∀ w ∈ TB, w.before args s = true := fun w h => hts w (List.mem_cons_of_mem _ h)
  have hK := hKK.1
  unfold B_Tr_writeChosen_9 at h
  refine lv_iload hx hb d_Tr_writeChosen_9 (lv_at hl 6 rfl) ?_
  refine lv_aload_n hx hb d_Tr_writeChosen_11 rfl (lv_at hl 0 rfl) ?_
  refine va_get (D := D) (ci := 7) (v := .int (Tr_count s0)) (C := R_Tr) (T := T_Tr) (N := 7) hx hb ht in_Tr hown hK hI.1 0 rfl rfl 5 (by decide) (ht _ m_139) (fun _ h9 => h9) rfl d_Tr_writeChosen_12 ?_
  refine lv_icmp_ge (tgt := 77) hx hb d_Tr_writeChosen_15 (by decide) (fun hc => ?_) (fun hc => ?_)
  · have h := it_t h hc
    exact t_Tr_writeChosen_77 X (lv_sub hl [] rfl) hI hS h
  · have h := it_f h hc
    exact t_Tr_writeChosen_18 X hk9 (lv_sub hl [0, 1, 2, 3, 4, 5, 6] rfl) hI hS h
set_option maxRecDepth 100000 in
set_option maxHeartbeats 4000000 in
theorem T_Tr_writeChosen_9 {p : Program} {l : Launch} {e : Env} {s : State} {m : MethodId} {args : Array Value} {below : List Frame} {meth : Method} {c : Code} {D : va_G} {A : Nat → Prop} {g : Nat → ClassId} {rest : va_W} {a0 : Nat → Nat} {a1 : Nat → Nat} {a2 : Nat → Nat} {ls : Array Slot} {H : Heap} {locs : List Loc} {s0 : S_Tr} {s1 : S_Tr} {s2 : S_Bs} {x2 : Int32} {x4 : Int32} {x5 : Int32} {x6 : Int32} {out : S_Bs} (X : Cx p s m args meth c prog_9_method_15_code 7 ws_Tr_writeChosen R_Tr none D g) (hl : lv_has ls 7 [(0, .ref (a0 0)), (1, .ref (a1 0)), (2, .int x2), (3, .ref (a2 0)), (4, .int x4), (5, .int x5), (6, .int x6)]) (hI : Iw D A (w_Tr g a0 s0 ++ (w_Tr g a1 s1 ++ (w_Bs g a2 s2 ++ (rest)))) H) (hS : va_S A s.heap H locs) (h : L_Tr_writeChosen_9  s0 s1 (s2, x2, x4, x5, x6) = some out) : W p l e (headSpec ws_Tr_writeChosen { frames := 3, cells := 0, slots := 0, locals := 74 }).room s m args below meth c H locs 0 0 (MQ below (QcV D A g (fun (_ : Unit) => w_Tr g a0 s0 ++ (w_Tr g a1 s1 ++ (w_Bs g a2 out ++ (rest))))) args s 0 0 A) (F0 m 9 ls []) := by
  unfold L_Tr_writeChosen_9 at h
  exact lp_ind (P := fun v => ∀ (ls : Array Slot) (H : Heap) (locs : List Loc), lv_has ls 7 [(0, .ref (a0 0)), (1, .ref (a1 0)), (2, .int v.2.1), (3, .ref (a2 0)), (4, .int v.2.2.1), (5, .int v.2.2.2.1), (6, .int v.2.2.2.2)] → Iw D A (w_Tr g a0 s0 ++ (w_Tr g a1 s1 ++ (w_Bs g a2 v.1 ++ (rest)))) H → va_S A s.heap H locs → W p l e (headSpec ws_Tr_writeChosen { frames := 3, cells := 0, slots := 0, locals := 74 }).room s m args below meth c H locs 0 0 (MQ below (QcV D A g (fun (_ : Unit) => w_Tr g a0 s0 ++ (w_Tr g a1 s1 ++ (w_Bs g a2 out ++ (rest))))) args s 0 0 A) (F0 m 9 ls [])) (fun k v ih hb ls H locs  hl hI hS => t_Tr_writeChosen_9 X  (fun v' ls H locs  hl hI hS h' => ih v' h' ls H locs  hl hI hS) hl hI hS hb) FU _ h ls H locs  hl hI hS
set_option maxRecDepth 100000 in
set_option maxHeartbeats 4000000 in
theorem t_Tr_writeChosen_0 {p : Program} {l : Launch} {e : Env} {s : State} {m : MethodId} {args : Array Value} {below : List Frame} {meth : Method} {c : Code} {D : va_G} {A : Nat → Prop} {g : Nat → ClassId} {rest : va_W} {a0 : Nat → Nat} {a1 : Nat → Nat} {a2 : Nat → Nat} {ls : Array Slot} {H : Heap} {locs : List Loc} {s0 : S_Tr} {s1 : S_Tr} {s2 : S_Bs} {x2 : Int32} {out : S_Bs} (X : Cx p s m args meth c prog_9_method_15_code 7 ws_Tr_writeChosen R_Tr none D g) (hl : lv_has ls 7 [(0, .ref (a0 0)), (1, .ref (a1 0)), (2, .int x2), (3, .ref (a2 0))]) (hI : Iw D A (w_Tr g a0 s0 ++ (w_Tr g a1 s1 ++ (w_Bs g a2 s2 ++ (rest)))) H) (hS : va_S A s.heap H locs) (h : B_Tr_writeChosen_0  s0 s1 s2 x2 = some out) : W p l e (headSpec ws_Tr_writeChosen { frames := 3, cells := 0, slots := 0, locals := 74 }).room s m args below meth c H locs 0 0 (MQ below (QcV D A g (fun (_ : Unit) => w_Tr g a0 s0 ++ (w_Tr g a1 s1 ++ (w_Bs g a2 out ++ (rest))))) args s 0 0 A) (F0 m 0 ls []) := by
  have X1 := X
  obtain ⟨hx, hb, hml, hown, hts, hr, hlocks, hKK⟩ := X1
  have ht : ∀ w ∈ TB, w.before args s = true := fun w h => hts w (List.mem_cons_of_mem _ h)
  have hK := hKK.1
  unfold B_Tr_writeChosen_0 at h
  refine lv_iconst (v := 1) hx hb d_Tr_writeChosen_0 (by decide) ?_
  refine lv_istore hx hb d_Tr_writeChosen_1 hl (Nat.le_of_ble_eq_true rfl) rfl (fun ls hl => ?_)
  have hl : lv_has ls 7 [(4, .int (1 : Int32)), (0, .ref (a0 0)), (1, .ref (a1 0)), (2, .int x2), (3, .ref (a2 0))] := hl
  refine lv_iconst (v := 0) hx hb d_Tr_writeChosen_3 (by decide) ?_
  refine lv_istore hx hb d_Tr_writeChosen_4 hl (Nat.le_of_ble_eq_true rfl) rfl (fun ls hl => ?_)
  have hl : lv_has ls 7 [(5, .int (0 : Int32)), (4, .int (1 : Int32)), (0, .ref (a0 0)), (1, .ref (a1 0)), (2, .int x2), (3, .ref (a2 0))] := hl
  refine lv_iconst (v := 1) hx hb d_Tr_writeChosen_6 (by decide) ?_
  refine lv_istore hx hb d_Tr_writeChosen_7 hl (Nat.le_of_ble_eq_true rfl) rfl (fun ls hl => ?_)
  have hl : lv_has ls 7 [(6, .int (1 : Int32)), (5, .int (0 : Int32)), (4, .int (1 : Int32)), (0, .ref (a0 0)), (1, .ref (a1 0)), (2, .int x2), (3, .ref (a2 0))] := hl
  exact T_Tr_writeChosen_9 X (lv_sub hl [3, 4, 5, 6, 2, 1, 0] rfl) hI hS h
set_option maxRecDepth 100000 in
set_option maxHeartbeats 4000000 in
theorem c_Tr_writeChosen {l : Launch} {D : va_G} {A : Nat → Prop} {g : Nat → ClassId} {rest : va_W} {a0 : Nat → Nat} {a1 : Nat → Nat} {a2 : Nat → Nat} {s0 : S_Tr} {s1 : S_Tr} {s2 : S_Bs} {x2 : Int32} {out : S_Bs} (h : F_Tr_writeChosen s0 s1 s2 x2 = some out) : Met l y_Tr_writeChosen ws_Tr_writeChosen { frames := 3, cells := 0, slots := 0, locals := 74 } (PcW D A g [.ref (a0 0), .ref (a1 0), .int x2, .ref (a2 0)] (w_Tr g a0 s0 ++ (w_Tr g a1 s1 ++ (w_Bs g a2 s2 ++ (rest))))) (QcV D A g (fun (_ : Unit) => w_Tr g a0 s0 ++ (w_Tr g a1 s1 ++ (w_Bs g a2 out ++ (rest))))) 0 0 A := by
  refine Met.ofW (cc := prog_9_method_15_code) (maxL := 7) (ret := none) (by decide) rfl ?_
  intro p e s m args below meth c s₁ B hml hv
  obtain ⟨rfl, hI, hK⟩ := hv
  have hl := lv_entry [.ref (a0 0), .ref (a1 0), .int x2, .ref (a2 0)] (n := 7) (Nat.le_of_ble_eq_true rfl)
  rw [lg_entry_eq]
  generalize (lg_sl [.ref (a0 0), .ref (a1 0), .int x2, .ref (a2 0)] ++ List.replicate (7 - (lg_sl [.ref (a0 0), .ref (a1 0), .int x2, .ref (a2 0)]).length) Slot.unset).toArray = ls at hl ⊢
  have hl : lv_has ls 7 [(0, .ref (a0 0)), (1, .ref (a1 0)), (2, .int x2), (3, .ref (a2 0))] := hl
  exact t_Tr_writeChosen_0 ⟨B.exec, B.bytes, hml, findClass_of_methodNamed B.named, atoms_spec (ws := ws_Tr_writeChosen) B.pre, B.returns, B.notSynchronized, hK⟩ (lv_sub hl [0, 1, 2, 3] rfl) hI va_S.rf h
