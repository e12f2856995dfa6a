theorem d_Rn_byteOf_0 : decode prog_1_method_18_code 0 = .ok (.lload_n 0, 1) := by decide +kernel
theorem d_Rn_byteOf_1 : decode prog_1_method_18_code 1 = .ok (.bipush 8, 2) := by decide +kernel
theorem d_Rn_byteOf_3 : decode prog_1_method_18_code 3 = .ok (.iload_n 2, 1) := by decide +kernel
theorem d_Rn_byteOf_4 : decode prog_1_method_18_code 4 = .ok (.imul, 1) := by decide +kernel
theorem d_Rn_byteOf_5 : decode prog_1_method_18_code 5 = .ok (.lushr, 1) := by decide +kernel
theorem d_Rn_byteOf_6 : decode prog_1_method_18_code 6 = .ok (.l2i, 1) := by decide +kernel
theorem d_Rn_byteOf_7 : decode prog_1_method_18_code 7 = .ok (.sipush 255, 3) := by decide +kernel
theorem d_Rn_byteOf_10 : decode prog_1_method_18_code 10 = .ok (.iand, 1) := by decide +kernel
theorem d_Rn_byteOf_11 : decode prog_1_method_18_code 11 = .ok (.ireturn, 1) := by decide +kernel
theorem d_Rn_isCount_0 : decode prog_1_method_16_code 0 = .ok (.iload_n 0, 1) := by decide +kernel
theorem d_Rn_isCount_1 : decode prog_1_method_16_code 1 = .ok (.iconst 1, 1) := by decide +kernel
theorem d_Rn_isCount_2 : decode prog_1_method_16_code 2 = .ok (.if_icmp .lt 13, 3) := by decide +kernel
theorem d_Rn_isCount_5 : decode prog_1_method_16_code 5 = .ok (.iload_n 0, 1) := by decide +kernel
theorem d_Rn_isCount_6 : decode prog_1_method_16_code 6 = .ok (.bipush 8, 2) := by decide +kernel
theorem d_Rn_isCount_8 : decode prog_1_method_16_code 8 = .ok (.if_icmp .gt 7, 3) := by decide +kernel
theorem d_Rn_isCount_11 : decode prog_1_method_16_code 11 = .ok (.iconst 1, 1) := by decide +kernel
theorem d_Rn_isCount_12 : decode prog_1_method_16_code 12 = .ok (.goto 4, 3) := by decide +kernel
theorem d_Rn_isCount_15 : decode prog_1_method_16_code 15 = .ok (.iconst 0, 1) := by decide +kernel
theorem d_Rn_isCount_16 : decode prog_1_method_16_code 16 = .ok (.ireturn, 1) := by decide +kernel
theorem d_Rn_kindOf_0 : decode prog_1_method_19_code 0 = .ok (.iload_n 0, 1) := by decide +kernel
theorem d_Rn_kindOf_1 : decode prog_1_method_19_code 1 = .ok (.bipush 80, 2) := by decide +kernel
theorem d_Rn_kindOf_3 : decode prog_1_method_19_code 3 = .ok (.if_icmp .ge 5, 3) := by decide +kernel
theorem d_Rn_kindOf_6 : decode prog_1_method_19_code 6 = .ok (.iconst 1, 1) := by decide +kernel
theorem d_Rn_kindOf_7 : decode prog_1_method_19_code 7 = .ok (.ireturn, 1) := by decide +kernel
theorem d_Rn_kindOf_8 : decode prog_1_method_19_code 8 = .ok (.iload_n 0, 1) := by decide +kernel
theorem d_Rn_kindOf_9 : decode prog_1_method_19_code 9 = .ok (.sipush 160, 3) := by decide +kernel
theorem d_Rn_kindOf_12 : decode prog_1_method_19_code 12 = .ok (.if_icmp .ge 5, 3) := by decide +kernel
theorem d_Rn_kindOf_15 : decode prog_1_method_19_code 15 = .ok (.iconst 2, 1) := by decide +kernel
theorem d_Rn_kindOf_16 : decode prog_1_method_19_code 16 = .ok (.ireturn, 1) := by decide +kernel
theorem d_Rn_kindOf_17 : decode prog_1_method_19_code 17 = .ok (.iload_n 0, 1) := by decide +kernel
theorem d_Rn_kindOf_18 : decode prog_1_method_19_code 18 = .ok (.sipush 200, 3) := by decide +kernel
theorem d_Rn_kindOf_21 : decode prog_1_method_19_code 21 = .ok (.if_icmp .gt 7, 3) := by decide +kernel
theorem d_Rn_kindOf_24 : decode prog_1_method_19_code 24 = .ok (.iconst 3, 1) := by decide +kernel
theorem d_Rn_kindOf_25 : decode prog_1_method_19_code 25 = .ok (.goto 4, 3) := by decide +kernel
theorem d_Rn_kindOf_28 : decode prog_1_method_19_code 28 = .ok (.iconst 4, 1) := by decide +kernel
theorem d_Rn_kindOf_29 : decode prog_1_method_19_code 29 = .ok (.ireturn, 1) := by decide +kernel
theorem d_Rn_isSyntax_0 : decode prog_1_method_17_code 0 = .ok (.iload_n 0, 1) := by decide +kernel
theorem d_Rn_isSyntax_1 : decode prog_1_method_17_code 1 = .ok (.ifCond .eq 8, 3) := by decide +kernel
theorem d_Rn_isSyntax_4 : decode prog_1_method_17_code 4 = .ok (.iload_n 0, 1) := by decide +kernel
theorem d_Rn_isSyntax_5 : decode prog_1_method_17_code 5 = .ok (.iconst 1, 1) := by decide +kernel
theorem d_Rn_isSyntax_6 : decode prog_1_method_17_code 6 = .ok (.if_icmp .ne 7, 3) := by decide +kernel
theorem d_Rn_isSyntax_9 : decode prog_1_method_17_code 9 = .ok (.iconst 1, 1) := by decide +kernel
theorem d_Rn_isSyntax_10 : decode prog_1_method_17_code 10 = .ok (.goto 4, 3) := by decide +kernel
theorem d_Rn_isSyntax_13 : decode prog_1_method_17_code 13 = .ok (.iconst 0, 1) := by decide +kernel
theorem d_Rn_isSyntax_14 : decode prog_1_method_17_code 14 = .ok (.ireturn, 1) := by decide +kernel
theorem d_Ou_hasRoom_0 : decode prog_6_method_3_code 0 = .ok (.iload_n 1, 1) := by decide +kernel
theorem d_Ou_hasRoom_1 : decode prog_6_method_3_code 1 = .ok (.sipush 900, 3) := by decide +kernel
theorem d_Ou_hasRoom_4 : decode prog_6_method_3_code 4 = .ok (.aload_n 0, 1) := by decide +kernel
theorem d_Ou_hasRoom_5 : decode prog_6_method_3_code 5 = .ok (.getfield 19, 3) := by decide +kernel
theorem d_Ou_hasRoom_8 : decode prog_6_method_3_code 8 = .ok (.isub, 1) := by decide +kernel
theorem d_Ou_hasRoom_9 : decode prog_6_method_3_code 9 = .ok (.if_icmp .gt 7, 3) := by decide +kernel
theorem d_Ou_hasRoom_12 : decode prog_6_method_3_code 12 = .ok (.iconst 1, 1) := by decide +kernel
theorem d_Ou_hasRoom_13 : decode prog_6_method_3_code 13 = .ok (.goto 4, 3) := by decide +kernel
theorem d_Ou_hasRoom_16 : decode prog_6_method_3_code 16 = .ok (.iconst 0, 1) := by decide +kernel
theorem d_Ou_hasRoom_17 : decode prog_6_method_3_code 17 = .ok (.ireturn, 1) := by decide +kernel
theorem d_Ou_push_0 : decode prog_6_method_4_code 0 = .ok (.aload_n 0, 1) := by decide +kernel
theorem d_Ou_push_1 : decode prog_6_method_4_code 1 = .ok (.getfield 19, 3) := by decide +kernel
theorem d_Ou_push_4 : decode prog_6_method_4_code 4 = .ok (.sipush 900, 3) := by decide +kernel
theorem d_Ou_push_7 : decode prog_6_method_4_code 7 = .ok (.if_icmp .ge 32, 3) := by decide +kernel
theorem d_Ou_push_10 : decode prog_6_method_4_code 10 = .ok (.aload_n 0, 1) := by decide +kernel
theorem d_Ou_push_11 : decode prog_6_method_4_code 11 = .ok (.getfield 9, 3) := by decide +kernel
theorem d_Ou_push_14 : decode prog_6_method_4_code 14 = .ok (.aload_n 0, 1) := by decide +kernel
theorem d_Ou_push_15 : decode prog_6_method_4_code 15 = .ok (.getfield 15, 3) := by decide +kernel
theorem d_Ou_push_18 : decode prog_6_method_4_code 18 = .ok (.aload_n 0, 1) := by decide +kernel
theorem d_Ou_push_19 : decode prog_6_method_4_code 19 = .ok (.getfield 19, 3) := by decide +kernel
theorem d_Ou_push_22 : decode prog_6_method_4_code 22 = .ok (.iadd, 1) := by decide +kernel
theorem d_Ou_push_23 : decode prog_6_method_4_code 23 = .ok (.sipush 900, 3) := by decide +kernel
theorem d_Ou_push_26 : decode prog_6_method_4_code 26 = .ok (.irem, 1) := by decide +kernel
theorem d_Ou_push_27 : decode prog_6_method_4_code 27 = .ok (.iload_n 1, 1) := by decide +kernel
theorem d_Ou_push_28 : decode prog_6_method_4_code 28 = .ok (.iastore, 1) := by decide +kernel
theorem d_Ou_push_29 : decode prog_6_method_4_code 29 = .ok (.aload_n 0, 1) := by decide +kernel
theorem d_Ou_push_30 : decode prog_6_method_4_code 30 = .ok (.dup, 1) := by decide +kernel
theorem d_Ou_push_31 : decode prog_6_method_4_code 31 = .ok (.getfield 19, 3) := by decide +kernel
theorem d_Ou_push_34 : decode prog_6_method_4_code 34 = .ok (.iconst 1, 1) := by decide +kernel
theorem d_Ou_push_35 : decode prog_6_method_4_code 35 = .ok (.iadd, 1) := by decide +kernel
theorem d_Ou_push_36 : decode prog_6_method_4_code 36 = .ok (.putfield 19, 3) := by decide +kernel
theorem d_Ou_push_39 : decode prog_6_method_4_code 39 = .ok (.return_, 1) := by decide +kernel
theorem d_Ou_count_0 : decode prog_6_method_2_code 0 = .ok (.aload_n 0, 1) := by decide +kernel
theorem d_Ou_count_1 : decode prog_6_method_2_code 1 = .ok (.getfield 19, 3) := by decide +kernel
theorem d_Ou_count_4 : decode prog_6_method_2_code 4 = .ok (.ireturn, 1) := by decide +kernel
theorem d_Ou_pull_0 : decode prog_6_method_5_code 0 = .ok (.aload_n 0, 1) := by decide +kernel
theorem d_Ou_pull_1 : decode prog_6_method_5_code 1 = .ok (.getfield 19, 3) := by decide +kernel
theorem d_Ou_pull_4 : decode prog_6_method_5_code 4 = .ok (.ifCond .ne 5, 3) := by decide +kernel
theorem d_Ou_pull_7 : decode prog_6_method_5_code 7 = .ok (.iconst (-1), 1) := by decide +kernel
theorem d_Ou_pull_8 : decode prog_6_method_5_code 8 = .ok (.ireturn, 1) := by decide +kernel
theorem d_Ou_pull_9 : decode prog_6_method_5_code 9 = .ok (.aload_n 0, 1) := by decide +kernel
theorem d_Ou_pull_10 : decode prog_6_method_5_code 10 = .ok (.getfield 9, 3) := by decide +kernel
theorem d_Ou_pull_13 : decode prog_6_method_5_code 13 = .ok (.aload_n 0, 1) := by decide +kernel
theorem d_Ou_pull_14 : decode prog_6_method_5_code 14 = .ok (.getfield 15, 3) := by decide +kernel
theorem d_Ou_pull_17 : decode prog_6_method_5_code 17 = .ok (.iaload, 1) := by decide +kernel
theorem d_Ou_pull_18 : decode prog_6_method_5_code 18 = .ok (.istore_n 1, 1) := by decide +kernel
theorem d_Ou_pull_19 : decode prog_6_method_5_code 19 = .ok (.aload_n 0, 1) := by decide +kernel
theorem d_Ou_pull_20 : decode prog_6_method_5_code 20 = .ok (.aload_n 0, 1) := by decide +kernel
theorem d_Ou_pull_21 : decode prog_6_method_5_code 21 = .ok (.getfield 15, 3) := by decide +kernel
theorem d_Ou_pull_24 : decode prog_6_method_5_code 24 = .ok (.iconst 1, 1) := by decide +kernel
theorem d_Ou_pull_25 : decode prog_6_method_5_code 25 = .ok (.iadd, 1) := by decide +kernel
theorem d_Ou_pull_26 : decode prog_6_method_5_code 26 = .ok (.sipush 900, 3) := by decide +kernel
theorem d_Ou_pull_29 : decode prog_6_method_5_code 29 = .ok (.irem, 1) := by decide +kernel
theorem d_Ou_pull_30 : decode prog_6_method_5_code 30 = .ok (.putfield 15, 3) := by decide +kernel
theorem d_Ou_pull_33 : decode prog_6_method_5_code 33 = .ok (.aload_n 0, 1) := by decide +kernel
theorem d_Ou_pull_34 : decode prog_6_method_5_code 34 = .ok (.dup, 1) := by decide +kernel
theorem d_Ou_pull_35 : decode prog_6_method_5_code 35 = .ok (.getfield 19, 3) := by decide +kernel
theorem d_Ou_pull_38 : decode prog_6_method_5_code 38 = .ok (.iconst 1, 1) := by decide +kernel
theorem d_Ou_pull_39 : decode prog_6_method_5_code 39 = .ok (.isub, 1) := by decide +kernel
theorem d_Ou_pull_40 : decode prog_6_method_5_code 40 = .ok (.putfield 19, 3) := by decide +kernel
theorem d_Ou_pull_43 : decode prog_6_method_5_code 43 = .ok (.iload_n 1, 1) := by decide +kernel
theorem d_Ou_pull_44 : decode prog_6_method_5_code 44 = .ok (.ireturn, 1) := by decide +kernel
theorem d_Mg_reset_0 : decode prog_5_method_2_code 0 = .ok (.aload_n 0, 1) := by decide +kernel
theorem d_Mg_reset_1 : decode prog_5_method_2_code 1 = .ok (.iconst 0, 1) := by decide +kernel
theorem d_Mg_reset_2 : decode prog_5_method_2_code 2 = .ok (.putfield 11, 3) := by decide +kernel
theorem d_Mg_reset_5 : decode prog_5_method_2_code 5 = .ok (.aload_n 0, 1) := by decide +kernel
theorem d_Mg_reset_6 : decode prog_5_method_2_code 6 = .ok (.iconst (-1), 1) := by decide +kernel
theorem d_Mg_reset_7 : decode prog_5_method_2_code 7 = .ok (.putfield 15, 3) := by decide +kernel
theorem d_Mg_reset_10 : decode prog_5_method_2_code 10 = .ok (.aload_n 0, 1) := by decide +kernel
theorem d_Mg_reset_11 : decode prog_5_method_2_code 11 = .ok (.iconst 0, 1) := by decide +kernel
theorem d_Mg_reset_12 : decode prog_5_method_2_code 12 = .ok (.putfield 24, 3) := by decide +kernel
theorem d_Mg_reset_15 : decode prog_5_method_2_code 15 = .ok (.return_, 1) := by decide +kernel
theorem d_Mg_addFragment_0 : decode prog_5_method_11_code 0 = .ok (.aload_n 0, 1) := by decide +kernel
theorem d_Mg_addFragment_1 : decode prog_5_method_11_code 1 = .ok (.iload_n 1, 1) := by decide +kernel
theorem d_Mg_addFragment_2 : decode prog_5_method_11_code 2 = .ok (.putfield 15, 3) := by decide +kernel
theorem d_Mg_addFragment_5 : decode prog_5_method_11_code 5 = .ok (.iload_n 2, 1) := by decide +kernel
theorem d_Mg_addFragment_6 : decode prog_5_method_11_code 6 = .ok (.ifCond .eq 20, 3) := by decide +kernel
theorem d_Mg_addFragment_9 : decode prog_5_method_11_code 9 = .ok (.aload_n 0, 1) := by decide +kernel
theorem d_Mg_addFragment_10 : decode prog_5_method_11_code 10 = .ok (.aload_n 0, 1) := by decide +kernel
theorem d_Mg_addFragment_11 : decode prog_5_method_11_code 11 = .ok (.getfield 11, 3) := by decide +kernel
theorem d_Mg_addFragment_14 : decode prog_5_method_11_code 14 = .ok (.iconst 2, 1) := by decide +kernel
theorem d_Mg_addFragment_15 : decode prog_5_method_11_code 15 = .ok (.if_icmp .ne 7, 3) := by decide +kernel
theorem d_Mg_addFragment_18 : decode prog_5_method_11_code 18 = .ok (.iconst 3, 1) := by decide +kernel
theorem d_Mg_addFragment_19 : decode prog_5_method_11_code 19 = .ok (.goto 4, 3) := by decide +kernel
theorem d_Mg_addFragment_22 : decode prog_5_method_11_code 22 = .ok (.iconst 1, 1) := by decide +kernel
theorem d_Mg_addFragment_23 : decode prog_5_method_11_code 23 = .ok (.putfield 11, 3) := by decide +kernel
theorem d_Mg_addFragment_26 : decode prog_5_method_11_code 26 = .ok (.return_, 1) := by decide +kernel
theorem d_Mg_wantsSet_0 : decode prog_5_method_4_code 0 = .ok (.aload_n 0, 1) := by decide +kernel
theorem d_Mg_wantsSet_1 : decode prog_5_method_4_code 1 = .ok (.getfield 11, 3) := by decide +kernel
theorem d_Mg_wantsSet_4 : decode prog_5_method_4_code 4 = .ok (.iconst 2, 1) := by decide +kernel
theorem d_Mg_wantsSet_5 : decode prog_5_method_4_code 5 = .ok (.if_icmp .ne 7, 3) := by decide +kernel
theorem d_Mg_wantsSet_8 : decode prog_5_method_4_code 8 = .ok (.iconst 1, 1) := by decide +kernel
theorem d_Mg_wantsSet_9 : decode prog_5_method_4_code 9 = .ok (.goto 4, 3) := by decide +kernel
theorem d_Mg_wantsSet_12 : decode prog_5_method_4_code 12 = .ok (.iconst 0, 1) := by decide +kernel
theorem d_Mg_wantsSet_13 : decode prog_5_method_4_code 13 = .ok (.ireturn, 1) := by decide +kernel
theorem d_Mg_wants_0 : decode prog_5_method_3_code 0 = .ok (.iload_n 1, 1) := by decide +kernel
theorem d_Mg_wants_1 : decode prog_5_method_3_code 1 = .ok (.aload_n 0, 1) := by decide +kernel
theorem d_Mg_wants_2 : decode prog_5_method_3_code 2 = .ok (.invokevirtual 28, 3) := by decide +kernel
theorem d_Mg_wants_5 : decode prog_5_method_3_code 5 = .ok (.if_icmp .ne 23, 3) := by decide +kernel
theorem d_Mg_wants_8 : decode prog_5_method_3_code 8 = .ok (.aload_n 0, 1) := by decide +kernel
theorem d_Mg_wants_9 : decode prog_5_method_3_code 9 = .ok (.getfield 15, 3) := by decide +kernel
theorem d_Mg_wants_12 : decode prog_5_method_3_code 12 = .ok (.iconst (-1), 1) := by decide +kernel
theorem d_Mg_wants_13 : decode prog_5_method_3_code 13 = .ok (.if_icmp .eq 11, 3) := by decide +kernel
theorem d_Mg_wants_16 : decode prog_5_method_3_code 16 = .ok (.aload_n 0, 1) := by decide +kernel
theorem d_Mg_wants_17 : decode prog_5_method_3_code 17 = .ok (.getfield 15, 3) := by decide +kernel
theorem d_Mg_wants_20 : decode prog_5_method_3_code 20 = .ok (.iload_n 2, 1) := by decide +kernel
theorem d_Mg_wants_21 : decode prog_5_method_3_code 21 = .ok (.if_icmp .ne 7, 3) := by decide +kernel
theorem d_Mg_wants_24 : decode prog_5_method_3_code 24 = .ok (.iconst 1, 1) := by decide +kernel
theorem d_Mg_wants_25 : decode prog_5_method_3_code 25 = .ok (.goto 4, 3) := by decide +kernel
theorem d_Mg_wants_28 : decode prog_5_method_3_code 28 = .ok (.iconst 0, 1) := by decide +kernel
theorem d_Mg_wants_29 : decode prog_5_method_3_code 29 = .ok (.ireturn, 1) := by decide +kernel
theorem d_Mg_isCommandThere_0 : decode prog_5_method_5_code 0 = .ok (.aload_n 0, 1) := by decide +kernel
theorem d_Mg_isCommandThere_1 : decode prog_5_method_5_code 1 = .ok (.getfield 11, 3) := by decide +kernel
theorem d_Mg_isCommandThere_4 : decode prog_5_method_5_code 4 = .ok (.iconst 1, 1) := by decide +kernel
theorem d_Mg_isCommandThere_5 : decode prog_5_method_5_code 5 = .ok (.if_icmp .ne 7, 3) := by decide +kernel
theorem d_Mg_isCommandThere_8 : decode prog_5_method_5_code 8 = .ok (.iconst 1, 1) := by decide +kernel
theorem d_Mg_isCommandThere_9 : decode prog_5_method_5_code 9 = .ok (.goto 4, 3) := by decide +kernel
theorem d_Mg_isCommandThere_12 : decode prog_5_method_5_code 12 = .ok (.iconst 0, 1) := by decide +kernel
theorem d_Mg_isCommandThere_13 : decode prog_5_method_5_code 13 = .ok (.ireturn, 1) := by decide +kernel
theorem d_Mg_isWhole_0 : decode prog_5_method_6_code 0 = .ok (.aload_n 0, 1) := by decide +kernel
theorem d_Mg_isWhole_1 : decode prog_5_method_6_code 1 = .ok (.getfield 11, 3) := by decide +kernel
theorem d_Mg_isWhole_4 : decode prog_5_method_6_code 4 = .ok (.iconst 3, 1) := by decide +kernel
theorem d_Mg_isWhole_5 : decode prog_5_method_6_code 5 = .ok (.if_icmp .ne 7, 3) := by decide +kernel
theorem d_Mg_isWhole_8 : decode prog_5_method_6_code 8 = .ok (.iconst 1, 1) := by decide +kernel
theorem d_Mg_isWhole_9 : decode prog_5_method_6_code 9 = .ok (.goto 4, 3) := by decide +kernel
theorem d_Mg_isWhole_12 : decode prog_5_method_6_code 12 = .ok (.iconst 0, 1) := by decide +kernel
theorem d_Mg_isWhole_13 : decode prog_5_method_6_code 13 = .ok (.ireturn, 1) := by decide +kernel
theorem d_Mg_contextIndex_0 : decode prog_5_method_7_code 0 = .ok (.aload_n 0, 1) := by decide +kernel
theorem d_Mg_contextIndex_1 : decode prog_5_method_7_code 1 = .ok (.getfield 15, 3) := by decide +kernel
theorem d_Mg_contextIndex_4 : decode prog_5_method_7_code 4 = .ok (.ireturn, 1) := by decide +kernel
theorem d_Mg_kind_0 : decode prog_5_method_8_code 0 = .ok (.aload_n 0, 1) := by decide +kernel
theorem d_Mg_kind_1 : decode prog_5_method_8_code 1 = .ok (.getfield 18, 3) := by decide +kernel
theorem d_Mg_kind_4 : decode prog_5_method_8_code 4 = .ok (.ireturn, 1) := by decide +kernel
theorem d_Mg_hasSet_0 : decode prog_5_method_10_code 0 = .ok (.aload_n 0, 1) := by decide +kernel
theorem d_Mg_hasSet_1 : decode prog_5_method_10_code 1 = .ok (.getfield 24, 3) := by decide +kernel
theorem d_Mg_hasSet_4 : decode prog_5_method_10_code 4 = .ok (.ireturn, 1) := by decide +kernel
theorem d_Mg_number_0 : decode prog_5_method_9_code 0 = .ok (.aload_n 0, 1) := by decide +kernel
theorem d_Mg_number_1 : decode prog_5_method_9_code 1 = .ok (.getfield 21, 3) := by decide +kernel
theorem d_Mg_number_4 : decode prog_5_method_9_code 4 = .ok (.ireturn, 1) := by decide +kernel
theorem d_Cs_find_0 : decode prog_3_method_7_code 0 = .ok (.iconst 0, 1) := by decide +kernel
theorem d_Cs_find_1 : decode prog_3_method_7_code 1 = .ok (.istore_n 2, 1) := by decide +kernel
theorem d_Cs_find_2 : decode prog_3_method_7_code 2 = .ok (.iload_n 2, 1) := by decide +kernel
theorem d_Cs_find_3 : decode prog_3_method_7_code 3 = .ok (.aload_n 0, 1) := by decide +kernel
theorem d_Cs_find_4 : decode prog_3_method_7_code 4 = .ok (.getfield 21, 3) := by decide +kernel
theorem d_Cs_find_7 : decode prog_3_method_7_code 7 = .ok (.if_icmp .ge 21, 3) := by decide +kernel
theorem d_Cs_find_10 : decode prog_3_method_7_code 10 = .ok (.aload_n 0, 1) := by decide +kernel
theorem d_Cs_find_11 : decode prog_3_method_7_code 11 = .ok (.getfield 11, 3) := by decide +kernel
theorem d_Cs_find_14 : decode prog_3_method_7_code 14 = .ok (.iload_n 2, 1) := by decide +kernel
theorem d_Cs_find_15 : decode prog_3_method_7_code 15 = .ok (.iaload, 1) := by decide +kernel
theorem d_Cs_find_16 : decode prog_3_method_7_code 16 = .ok (.iload_n 1, 1) := by decide +kernel
theorem d_Cs_find_17 : decode prog_3_method_7_code 17 = .ok (.if_icmp .ne 5, 3) := by decide +kernel
theorem d_Cs_find_20 : decode prog_3_method_7_code 20 = .ok (.iload_n 2, 1) := by decide +kernel
theorem d_Cs_find_21 : decode prog_3_method_7_code 21 = .ok (.ireturn, 1) := by decide +kernel
theorem d_Cs_find_22 : decode prog_3_method_7_code 22 = .ok (.iinc 2 1, 3) := by decide +kernel
theorem d_Cs_find_25 : decode prog_3_method_7_code 25 = .ok (.goto (-23), 3) := by decide +kernel
theorem d_Cs_find_28 : decode prog_3_method_7_code 28 = .ok (.iconst (-1), 1) := by decide +kernel
theorem d_Cs_find_29 : decode prog_3_method_7_code 29 = .ok (.ireturn, 1) := by decide +kernel
theorem d_Cs_resultOf_0 : decode prog_3_method_10_code 0 = .ok (.iload_n 0, 1) := by decide +kernel
theorem d_Cs_resultOf_1 : decode prog_3_method_10_code 1 = .ok (.iconst 1, 1) := by decide +kernel
theorem d_Cs_resultOf_2 : decode prog_3_method_10_code 2 = .ok (.if_icmp .lt 8, 3) := by decide +kernel
theorem d_Cs_resultOf_5 : decode prog_3_method_10_code 5 = .ok (.iload_n 0, 1) := by decide +kernel
theorem d_Cs_resultOf_6 : decode prog_3_method_10_code 6 = .ok (.iconst 3, 1) := by decide +kernel
theorem d_Cs_resultOf_7 : decode prog_3_method_10_code 7 = .ok (.if_icmp .le 5, 3) := by decide +kernel
theorem d_Cs_resultOf_10 : decode prog_3_method_10_code 10 = .ok (.iconst 2, 1) := by decide +kernel
theorem d_Cs_resultOf_11 : decode prog_3_method_10_code 11 = .ok (.ireturn, 1) := by decide +kernel
theorem d_Cs_resultOf_12 : decode prog_3_method_10_code 12 = .ok (.iload_n 1, 1) := by decide +kernel
theorem d_Cs_resultOf_13 : decode prog_3_method_10_code 13 = .ok (.iconst 1, 1) := by decide +kernel
theorem d_Cs_resultOf_14 : decode prog_3_method_10_code 14 = .ok (.iand, 1) := by decide +kernel
theorem d_Cs_resultOf_15 : decode prog_3_method_10_code 15 = .ok (.ifCond .eq 5, 3) := by decide +kernel
theorem d_Cs_resultOf_18 : decode prog_3_method_10_code 18 = .ok (.iconst 0, 1) := by decide +kernel
theorem d_Cs_resultOf_19 : decode prog_3_method_10_code 19 = .ok (.ireturn, 1) := by decide +kernel
theorem d_Cs_resultOf_20 : decode prog_3_method_10_code 20 = .ok (.iload_n 1, 1) := by decide +kernel
theorem d_Cs_resultOf_21 : decode prog_3_method_10_code 21 = .ok (.iconst 2, 1) := by decide +kernel
theorem d_Cs_resultOf_22 : decode prog_3_method_10_code 22 = .ok (.iand, 1) := by decide +kernel
theorem d_Cs_resultOf_23 : decode prog_3_method_10_code 23 = .ok (.ifCond .eq 7, 3) := by decide +kernel
theorem d_Cs_resultOf_26 : decode prog_3_method_10_code 26 = .ok (.iconst 1, 1) := by decide +kernel
theorem d_Cs_resultOf_27 : decode prog_3_method_10_code 27 = .ok (.goto 4, 3) := by decide +kernel
theorem d_Cs_resultOf_30 : decode prog_3_method_10_code 30 = .ok (.iconst 3, 1) := by decide +kernel
theorem d_Cs_resultOf_31 : decode prog_3_method_10_code 31 = .ok (.ireturn, 1) := by decide +kernel
theorem d_Cs_readRequest_0 : decode prog_3_method_9_code 0 = .ok (.aload_n 0, 1) := by decide +kernel
theorem d_Cs_readRequest_1 : decode prog_3_method_9_code 1 = .ok (.iconst 0, 1) := by decide +kernel
theorem d_Cs_readRequest_2 : decode prog_3_method_9_code 2 = .ok (.putfield 21, 3) := by decide +kernel
theorem d_Cs_readRequest_5 : decode prog_3_method_9_code 5 = .ok (.aload_n 1, 1) := by decide +kernel
theorem d_Cs_readRequest_6 : decode prog_3_method_9_code 6 = .ok (.invokevirtual 29, 3) := by decide +kernel
theorem d_Cs_readRequest_9 : decode prog_3_method_9_code 9 = .ok (.iconst 2, 1) := by decide +kernel
theorem d_Cs_readRequest_10 : decode prog_3_method_9_code 10 = .ok (.isub, 1) := by decide +kernel
theorem d_Cs_readRequest_11 : decode prog_3_method_9_code 11 = .ok (.iconst 2, 1) := by decide +kernel
theorem d_Cs_readRequest_12 : decode prog_3_method_9_code 12 = .ok (.isub, 1) := by decide +kernel
theorem d_Cs_readRequest_13 : decode prog_3_method_9_code 13 = .ok (.istore_n 2, 1) := by decide +kernel
theorem d_Cs_readRequest_14 : decode prog_3_method_9_code 14 = .ok (.iload_n 2, 1) := by decide +kernel
theorem d_Cs_readRequest_15 : decode prog_3_method_9_code 15 = .ok (.iconst 3, 1) := by decide +kernel
theorem d_Cs_readRequest_16 : decode prog_3_method_9_code 16 = .ok (.idiv, 1) := by decide +kernel
theorem d_Cs_readRequest_17 : decode prog_3_method_9_code 17 = .ok (.istore_n 3, 1) := by decide +kernel
theorem d_Cs_readRequest_18 : decode prog_3_method_9_code 18 = .ok (.iload_n 2, 1) := by decide +kernel
theorem d_Cs_readRequest_19 : decode prog_3_method_9_code 19 = .ok (.iconst 3, 1) := by decide +kernel
theorem d_Cs_readRequest_20 : decode prog_3_method_9_code 20 = .ok (.irem, 1) := by decide +kernel
theorem d_Cs_readRequest_21 : decode prog_3_method_9_code 21 = .ok (.ifCond .ne 13, 3) := by decide +kernel
theorem d_Cs_readRequest_24 : decode prog_3_method_9_code 24 = .ok (.iload_n 3, 1) := by decide +kernel
theorem d_Cs_readRequest_25 : decode prog_3_method_9_code 25 = .ok (.iconst 1, 1) := by decide +kernel
theorem d_Cs_readRequest_26 : decode prog_3_method_9_code 26 = .ok (.if_icmp .lt 8, 3) := by decide +kernel
theorem d_Cs_readRequest_29 : decode prog_3_method_9_code 29 = .ok (.iload_n 3, 1) := by decide +kernel
theorem d_Cs_readRequest_30 : decode prog_3_method_9_code 30 = .ok (.iconst 4, 1) := by decide +kernel
theorem d_Cs_readRequest_31 : decode prog_3_method_9_code 31 = .ok (.if_icmp .le 5, 3) := by decide +kernel
theorem d_Cs_readRequest_34 : decode prog_3_method_9_code 34 = .ok (.iconst 0, 1) := by decide +kernel
theorem d_Cs_readRequest_35 : decode prog_3_method_9_code 35 = .ok (.ireturn, 1) := by decide +kernel
theorem d_Cs_readRequest_36 : decode prog_3_method_9_code 36 = .ok (.iconst 0, 1) := by decide +kernel
theorem d_Cs_readRequest_37 : decode prog_3_method_9_code 37 = .ok (.istore 4, 2) := by decide +kernel
theorem d_Cs_readRequest_39 : decode prog_3_method_9_code 39 = .ok (.iload 4, 2) := by decide +kernel
theorem d_Cs_readRequest_41 : decode prog_3_method_9_code 41 = .ok (.iload_n 3, 1) := by decide +kernel
theorem d_Cs_readRequest_42 : decode prog_3_method_9_code 42 = .ok (.if_icmp .ge 103, 3) := by decide +kernel
theorem d_Cs_readRequest_45 : decode prog_3_method_9_code 45 = .ok (.iconst 4, 1) := by decide +kernel
theorem d_Cs_readRequest_46 : decode prog_3_method_9_code 46 = .ok (.iconst 3, 1) := by decide +kernel
theorem d_Cs_readRequest_47 : decode prog_3_method_9_code 47 = .ok (.iload 4, 2) := by decide +kernel
theorem d_Cs_readRequest_49 : decode prog_3_method_9_code 49 = .ok (.imul, 1) := by decide +kernel
theorem d_Cs_readRequest_50 : decode prog_3_method_9_code 50 = .ok (.iadd, 1) := by decide +kernel
theorem d_Cs_readRequest_51 : decode prog_3_method_9_code 51 = .ok (.istore 5, 2) := by decide +kernel
theorem d_Cs_readRequest_53 : decode prog_3_method_9_code 53 = .ok (.aload_n 1, 1) := by decide +kernel
theorem d_Cs_readRequest_54 : decode prog_3_method_9_code 54 = .ok (.iload 5, 2) := by decide +kernel
theorem d_Cs_readRequest_56 : decode prog_3_method_9_code 56 = .ok (.invokevirtual 34, 3) := by decide +kernel
theorem d_Cs_readRequest_59 : decode prog_3_method_9_code 59 = .ok (.istore 6, 2) := by decide +kernel
theorem d_Cs_readRequest_61 : decode prog_3_method_9_code 61 = .ok (.iload 6, 2) := by decide +kernel
theorem d_Cs_readRequest_63 : decode prog_3_method_9_code 63 = .ok (.iconst 2, 1) := by decide +kernel
theorem d_Cs_readRequest_64 : decode prog_3_method_9_code 64 = .ok (.irem, 1) := by decide +kernel
theorem d_Cs_readRequest_65 : decode prog_3_method_9_code 65 = .ok (.ifCond .eq 13, 3) := by decide +kernel
theorem d_Cs_readRequest_68 : decode prog_3_method_9_code 68 = .ok (.aload_n 0, 1) := by decide +kernel
theorem d_Cs_readRequest_69 : decode prog_3_method_9_code 69 = .ok (.iload 6, 2) := by decide +kernel
theorem d_Cs_readRequest_71 : decode prog_3_method_9_code 71 = .ok (.invokevirtual 38, 3) := by decide +kernel
theorem d_Cs_readRequest_74 : decode prog_3_method_9_code 74 = .ok (.iconst (-1), 1) := by decide +kernel
theorem d_Cs_readRequest_75 : decode prog_3_method_9_code 75 = .ok (.if_icmp .eq 5, 3) := by decide +kernel
theorem d_Cs_readRequest_78 : decode prog_3_method_9_code 78 = .ok (.iconst 0, 1) := by decide +kernel
theorem d_Cs_readRequest_79 : decode prog_3_method_9_code 79 = .ok (.ireturn, 1) := by decide +kernel
theorem d_Cs_readRequest_80 : decode prog_3_method_9_code 80 = .ok (.aload_n 0, 1) := by decide +kernel
theorem d_Cs_readRequest_81 : decode prog_3_method_9_code 81 = .ok (.getfield 11, 3) := by decide +kernel
theorem d_Cs_readRequest_84 : decode prog_3_method_9_code 84 = .ok (.iload 4, 2) := by decide +kernel
theorem d_Cs_readRequest_86 : decode prog_3_method_9_code 86 = .ok (.iload 6, 2) := by decide +kernel
theorem d_Cs_readRequest_88 : decode prog_3_method_9_code 88 = .ok (.iastore, 1) := by decide +kernel
theorem d_Cs_readRequest_89 : decode prog_3_method_9_code 89 = .ok (.aload_n 0, 1) := by decide +kernel
theorem d_Cs_readRequest_90 : decode prog_3_method_9_code 90 = .ok (.getfield 15, 3) := by decide +kernel
theorem d_Cs_readRequest_93 : decode prog_3_method_9_code 93 = .ok (.iload 4, 2) := by decide +kernel
theorem d_Cs_readRequest_95 : decode prog_3_method_9_code 95 = .ok (.aload_n 1, 1) := by decide +kernel
theorem d_Cs_readRequest_96 : decode prog_3_method_9_code 96 = .ok (.iload 5, 2) := by decide +kernel
theorem d_Cs_readRequest_98 : decode prog_3_method_9_code 98 = .ok (.iconst 1, 1) := by decide +kernel
theorem d_Cs_readRequest_99 : decode prog_3_method_9_code 99 = .ok (.iadd, 1) := by decide +kernel
theorem d_Cs_readRequest_100 : decode prog_3_method_9_code 100 = .ok (.invokevirtual 34, 3) := by decide +kernel
theorem d_Cs_readRequest_103 : decode prog_3_method_9_code 103 = .ok (.iastore, 1) := by decide +kernel
theorem d_Cs_readRequest_104 : decode prog_3_method_9_code 104 = .ok (.aload_n 0, 1) := by decide +kernel
theorem d_Cs_readRequest_105 : decode prog_3_method_9_code 105 = .ok (.getfield 18, 3) := by decide +kernel
theorem d_Cs_readRequest_108 : decode prog_3_method_9_code 108 = .ok (.iload 4, 2) := by decide +kernel
theorem d_Cs_readRequest_110 : decode prog_3_method_9_code 110 = .ok (.aload_n 0, 1) := by decide +kernel
theorem d_Cs_readRequest_111 : decode prog_3_method_9_code 111 = .ok (.getfield 15, 3) := by decide +kernel
theorem d_Cs_readRequest_114 : decode prog_3_method_9_code 114 = .ok (.iload 4, 2) := by decide +kernel
theorem d_Cs_readRequest_116 : decode prog_3_method_9_code 116 = .ok (.iaload, 1) := by decide +kernel
theorem d_Cs_readRequest_117 : decode prog_3_method_9_code 117 = .ok (.aload_n 1, 1) := by decide +kernel
theorem d_Cs_readRequest_118 : decode prog_3_method_9_code 118 = .ok (.iload 5, 2) := by decide +kernel
theorem d_Cs_readRequest_120 : decode prog_3_method_9_code 120 = .ok (.iconst 2, 1) := by decide +kernel
theorem d_Cs_readRequest_121 : decode prog_3_method_9_code 121 = .ok (.iadd, 1) := by decide +kernel
theorem d_Cs_readRequest_122 : decode prog_3_method_9_code 122 = .ok (.invokevirtual 34, 3) := by decide +kernel
theorem d_Cs_readRequest_125 : decode prog_3_method_9_code 125 = .ok (.invokestatic 41, 3) := by decide +kernel
theorem d_Cs_readRequest_128 : decode prog_3_method_9_code 128 = .ok (.iastore, 1) := by decide +kernel
theorem d_Cs_readRequest_129 : decode prog_3_method_9_code 129 = .ok (.aload_n 0, 1) := by decide +kernel
theorem d_Cs_readRequest_130 : decode prog_3_method_9_code 130 = .ok (.dup, 1) := by decide +kernel
theorem d_Cs_readRequest_131 : decode prog_3_method_9_code 131 = .ok (.getfield 21, 3) := by decide +kernel
theorem d_Cs_readRequest_134 : decode prog_3_method_9_code 134 = .ok (.iconst 1, 1) := by decide +kernel
theorem d_Cs_readRequest_135 : decode prog_3_method_9_code 135 = .ok (.iadd, 1) := by decide +kernel
theorem d_Cs_readRequest_136 : decode prog_3_method_9_code 136 = .ok (.putfield 21, 3) := by decide +kernel
theorem d_Cs_readRequest_139 : decode prog_3_method_9_code 139 = .ok (.iinc 4 1, 3) := by decide +kernel
theorem d_Cs_readRequest_142 : decode prog_3_method_9_code 142 = .ok (.goto (-103), 3) := by decide +kernel
theorem d_Cs_readRequest_145 : decode prog_3_method_9_code 145 = .ok (.iconst 1, 1) := by decide +kernel
theorem d_Cs_readRequest_146 : decode prog_3_method_9_code 146 = .ok (.ireturn, 1) := by decide +kernel
theorem d_Cs_count_0 : decode prog_3_method_2_code 0 = .ok (.aload_n 0, 1) := by decide +kernel
theorem d_Cs_count_1 : decode prog_3_method_2_code 1 = .ok (.getfield 21, 3) := by decide +kernel
theorem d_Cs_count_4 : decode prog_3_method_2_code 4 = .ok (.ireturn, 1) := by decide +kernel
theorem d_Cs_has_0 : decode prog_3_method_6_code 0 = .ok (.iload_n 1, 1) := by decide +kernel
theorem d_Cs_has_1 : decode prog_3_method_6_code 1 = .ok (.ifCond .lt 15, 3) := by decide +kernel
theorem d_Cs_has_4 : decode prog_3_method_6_code 4 = .ok (.iload_n 1, 1) := by decide +kernel
theorem d_Cs_has_5 : decode prog_3_method_6_code 5 = .ok (.aload_n 0, 1) := by decide +kernel
theorem d_Cs_has_6 : decode prog_3_method_6_code 6 = .ok (.getfield 21, 3) := by decide +kernel
theorem d_Cs_has_9 : decode prog_3_method_6_code 9 = .ok (.if_icmp .ge 7, 3) := by decide +kernel
theorem d_Cs_has_12 : decode prog_3_method_6_code 12 = .ok (.iconst 1, 1) := by decide +kernel
theorem d_Cs_has_13 : decode prog_3_method_6_code 13 = .ok (.goto 4, 3) := by decide +kernel
theorem d_Cs_has_16 : decode prog_3_method_6_code 16 = .ok (.iconst 0, 1) := by decide +kernel
theorem d_Cs_has_17 : decode prog_3_method_6_code 17 = .ok (.ireturn, 1) := by decide +kernel
theorem d_Cs_id_0 : decode prog_3_method_3_code 0 = .ok (.aload_n 0, 1) := by decide +kernel
theorem d_Cs_id_1 : decode prog_3_method_3_code 1 = .ok (.iload_n 1, 1) := by decide +kernel
theorem d_Cs_id_2 : decode prog_3_method_3_code 2 = .ok (.invokevirtual 25, 3) := by decide +kernel
theorem d_Cs_id_5 : decode prog_3_method_3_code 5 = .ok (.ifCond .eq 12, 3) := by decide +kernel
theorem d_Cs_id_8 : decode prog_3_method_3_code 8 = .ok (.aload_n 0, 1) := by decide +kernel
theorem d_Cs_id_9 : decode prog_3_method_3_code 9 = .ok (.getfield 11, 3) := by decide +kernel
theorem d_Cs_id_12 : decode prog_3_method_3_code 12 = .ok (.iload_n 1, 1) := by decide +kernel
theorem d_Cs_id_13 : decode prog_3_method_3_code 13 = .ok (.iaload, 1) := by decide +kernel
theorem d_Cs_id_14 : decode prog_3_method_3_code 14 = .ok (.goto 4, 3) := by decide +kernel
theorem d_Cs_id_17 : decode prog_3_method_3_code 17 = .ok (.iconst (-1), 1) := by decide +kernel
theorem d_Cs_id_18 : decode prog_3_method_3_code 18 = .ok (.ireturn, 1) := by decide +kernel
theorem d_Cs_result_0 : decode prog_3_method_5_code 0 = .ok (.aload_n 0, 1) := by decide +kernel
theorem d_Cs_result_1 : decode prog_3_method_5_code 1 = .ok (.iload_n 1, 1) := by decide +kernel
theorem d_Cs_result_2 : decode prog_3_method_5_code 2 = .ok (.invokevirtual 25, 3) := by decide +kernel
theorem d_Cs_result_5 : decode prog_3_method_5_code 5 = .ok (.ifCond .eq 12, 3) := by decide +kernel
theorem d_Cs_result_8 : decode prog_3_method_5_code 8 = .ok (.aload_n 0, 1) := by decide +kernel
theorem d_Cs_result_9 : decode prog_3_method_5_code 9 = .ok (.getfield 18, 3) := by decide +kernel
theorem d_Cs_result_12 : decode prog_3_method_5_code 12 = .ok (.iload_n 1, 1) := by decide +kernel
theorem d_Cs_result_13 : decode prog_3_method_5_code 13 = .ok (.iaload, 1) := by decide +kernel
theorem d_Cs_result_14 : decode prog_3_method_5_code 14 = .ok (.goto 4, 3) := by decide +kernel
theorem d_Cs_result_17 : decode prog_3_method_5_code 17 = .ok (.iconst (-1), 1) := by decide +kernel
theorem d_Cs_result_18 : decode prog_3_method_5_code 18 = .ok (.ireturn, 1) := by decide +kernel
theorem d_Cs_isUsable_0 : decode prog_3_method_8_code 0 = .ok (.aload_n 0, 1) := by decide +kernel
theorem d_Cs_isUsable_1 : decode prog_3_method_8_code 1 = .ok (.iload_n 1, 1) := by decide +kernel
theorem d_Cs_isUsable_2 : decode prog_3_method_8_code 2 = .ok (.invokevirtual 25, 3) := by decide +kernel
theorem d_Cs_isUsable_5 : decode prog_3_method_8_code 5 = .ok (.ifCond .eq 17, 3) := by decide +kernel
theorem d_Cs_isUsable_8 : decode prog_3_method_8_code 8 = .ok (.aload_n 0, 1) := by decide +kernel
theorem d_Cs_isUsable_9 : decode prog_3_method_8_code 9 = .ok (.getfield 18, 3) := by decide +kernel
theorem d_Cs_isUsable_12 : decode prog_3_method_8_code 12 = .ok (.iload_n 1, 1) := by decide +kernel
theorem d_Cs_isUsable_13 : decode prog_3_method_8_code 13 = .ok (.iaload, 1) := by decide +kernel
theorem d_Cs_isUsable_14 : decode prog_3_method_8_code 14 = .ok (.iconst 1, 1) := by decide +kernel
theorem d_Cs_isUsable_15 : decode prog_3_method_8_code 15 = .ok (.if_icmp .gt 7, 3) := by decide +kernel
theorem d_Cs_isUsable_18 : decode prog_3_method_8_code 18 = .ok (.iconst 1, 1) := by decide +kernel
theorem d_Cs_isUsable_19 : decode prog_3_method_8_code 19 = .ok (.goto 4, 3) := by decide +kernel
theorem d_Cs_isUsable_22 : decode prog_3_method_8_code 22 = .ok (.iconst 0, 1) := by decide +kernel
theorem d_Cs_isUsable_23 : decode prog_3_method_8_code 23 = .ok (.ireturn, 1) := by decide +kernel
theorem d_Cs_service_0 : decode prog_3_method_4_code 0 = .ok (.aload_n 0, 1) := by decide +kernel
theorem d_Cs_service_1 : decode prog_3_method_4_code 1 = .ok (.iload_n 1, 1) := by decide +kernel
theorem d_Cs_service_2 : decode prog_3_method_4_code 2 = .ok (.invokevirtual 25, 3) := by decide +kernel
theorem d_Cs_service_5 : decode prog_3_method_4_code 5 = .ok (.ifCond .eq 12, 3) := by decide +kernel
theorem d_Cs_service_8 : decode prog_3_method_4_code 8 = .ok (.aload_n 0, 1) := by decide +kernel
theorem d_Cs_service_9 : decode prog_3_method_4_code 9 = .ok (.getfield 15, 3) := by decide +kernel
theorem d_Cs_service_12 : decode prog_3_method_4_code 12 = .ok (.iload_n 1, 1) := by decide +kernel
theorem d_Cs_service_13 : decode prog_3_method_4_code 13 = .ok (.iaload, 1) := by decide +kernel
theorem d_Cs_service_14 : decode prog_3_method_4_code 14 = .ok (.goto 4, 3) := by decide +kernel
theorem d_Cs_service_17 : decode prog_3_method_4_code 17 = .ok (.iconst (-1), 1) := by decide +kernel
theorem d_Cs_service_18 : decode prog_3_method_4_code 18 = .ok (.ireturn, 1) := by decide +kernel
theorem d_Rs_count_0 : decode prog_8_method_2_code 0 = .ok (.aload_n 0, 1) := by decide +kernel
theorem d_Rs_count_1 : decode prog_8_method_2_code 1 = .ok (.getfield 32, 3) := by decide +kernel
theorem d_Rs_count_4 : decode prog_8_method_2_code 4 = .ok (.ireturn, 1) := by decide +kernel
theorem d_Rs_bytes_0 : decode prog_8_method_3_code 0 = .ok (.aload_n 0, 1) := by decide +kernel
theorem d_Rs_bytes_1 : decode prog_8_method_3_code 1 = .ok (.getfield 26, 3) := by decide +kernel
theorem d_Rs_bytes_4 : decode prog_8_method_3_code 4 = .ok (.iload_n 1, 1) := by decide +kernel
theorem d_Rs_bytes_5 : decode prog_8_method_3_code 5 = .ok (.aaload, 1) := by decide +kernel
theorem d_Rs_bytes_6 : decode prog_8_method_3_code 6 = .ok (.areturn, 1) := by decide +kernel
theorem d_Rs_keep_0 : decode prog_8_method_4_code 0 = .ok (.iconst 0, 1) := by decide +kernel
theorem d_Rs_keep_1 : decode prog_8_method_4_code 1 = .ok (.istore_n 3, 1) := by decide +kernel
theorem d_Rs_keep_2 : decode prog_8_method_4_code 2 = .ok (.iload_n 3, 1) := by decide +kernel
theorem d_Rs_keep_3 : decode prog_8_method_4_code 3 = .ok (.aload_n 0, 1) := by decide +kernel
theorem d_Rs_keep_4 : decode prog_8_method_4_code 4 = .ok (.getfield 32, 3) := by decide +kernel
theorem d_Rs_keep_7 : decode prog_8_method_4_code 7 = .ok (.if_icmp .ge 22, 3) := by decide +kernel
theorem d_Rs_keep_10 : decode prog_8_method_4_code 10 = .ok (.aload_n 0, 1) := by decide +kernel
theorem d_Rs_keep_11 : decode prog_8_method_4_code 11 = .ok (.getfield 22, 3) := by decide +kernel
theorem d_Rs_keep_14 : decode prog_8_method_4_code 14 = .ok (.iload_n 3, 1) := by decide +kernel
theorem d_Rs_keep_15 : decode prog_8_method_4_code 15 = .ok (.aaload, 1) := by decide +kernel
theorem d_Rs_keep_16 : decode prog_8_method_4_code 16 = .ok (.aload_n 1, 1) := by decide +kernel
theorem d_Rs_keep_17 : decode prog_8_method_4_code 17 = .ok (.invokevirtual 36, 3) := by decide +kernel
theorem d_Rs_keep_20 : decode prog_8_method_4_code 20 = .ok (.ifCond .ne 9, 3) := by decide +kernel
theorem d_Rs_keep_23 : decode prog_8_method_4_code 23 = .ok (.iinc 3 1, 3) := by decide +kernel
theorem d_Rs_keep_26 : decode prog_8_method_4_code 26 = .ok (.goto (-24), 3) := by decide +kernel
theorem d_Rs_keep_29 : decode prog_8_method_4_code 29 = .ok (.iload_n 3, 1) := by decide +kernel
theorem d_Rs_keep_30 : decode prog_8_method_4_code 30 = .ok (.aload_n 0, 1) := by decide +kernel
theorem d_Rs_keep_31 : decode prog_8_method_4_code 31 = .ok (.getfield 22, 3) := by decide +kernel
theorem d_Rs_keep_34 : decode prog_8_method_4_code 34 = .ok (.arraylength, 1) := by decide +kernel
theorem d_Rs_keep_35 : decode prog_8_method_4_code 35 = .ok (.if_icmp .ne 5, 3) := by decide +kernel
theorem d_Rs_keep_38 : decode prog_8_method_4_code 38 = .ok (.iconst 0, 1) := by decide +kernel
theorem d_Rs_keep_39 : decode prog_8_method_4_code 39 = .ok (.ireturn, 1) := by decide +kernel
theorem d_Rs_keep_40 : decode prog_8_method_4_code 40 = .ok (.iload_n 3, 1) := by decide +kernel
theorem d_Rs_keep_41 : decode prog_8_method_4_code 41 = .ok (.aload_n 0, 1) := by decide +kernel
theorem d_Rs_keep_42 : decode prog_8_method_4_code 42 = .ok (.getfield 32, 3) := by decide +kernel
theorem d_Rs_keep_45 : decode prog_8_method_4_code 45 = .ok (.if_icmp .ne 23, 3) := by decide +kernel
theorem d_Rs_keep_48 : decode prog_8_method_4_code 48 = .ok (.aload_n 0, 1) := by decide +kernel
theorem d_Rs_keep_49 : decode prog_8_method_4_code 49 = .ok (.getfield 22, 3) := by decide +kernel
theorem d_Rs_keep_52 : decode prog_8_method_4_code 52 = .ok (.iload_n 3, 1) := by decide +kernel
theorem d_Rs_keep_53 : decode prog_8_method_4_code 53 = .ok (.aaload, 1) := by decide +kernel
theorem d_Rs_keep_54 : decode prog_8_method_4_code 54 = .ok (.aload_n 1, 1) := by decide +kernel
theorem d_Rs_keep_55 : decode prog_8_method_4_code 55 = .ok (.invokevirtual 40, 3) := by decide +kernel
theorem d_Rs_keep_58 : decode prog_8_method_4_code 58 = .ok (.aload_n 0, 1) := by decide +kernel
theorem d_Rs_keep_59 : decode prog_8_method_4_code 59 = .ok (.dup, 1) := by decide +kernel
theorem d_Rs_keep_60 : decode prog_8_method_4_code 60 = .ok (.getfield 32, 3) := by decide +kernel
theorem d_Rs_keep_63 : decode prog_8_method_4_code 63 = .ok (.iconst 1, 1) := by decide +kernel
theorem d_Rs_keep_64 : decode prog_8_method_4_code 64 = .ok (.iadd, 1) := by decide +kernel
theorem d_Rs_keep_65 : decode prog_8_method_4_code 65 = .ok (.putfield 32, 3) := by decide +kernel
theorem d_Rs_keep_68 : decode prog_8_method_4_code 68 = .ok (.aload_n 0, 1) := by decide +kernel
theorem d_Rs_keep_69 : decode prog_8_method_4_code 69 = .ok (.getfield 26, 3) := by decide +kernel
theorem d_Rs_keep_72 : decode prog_8_method_4_code 72 = .ok (.iload_n 3, 1) := by decide +kernel
theorem d_Rs_keep_73 : decode prog_8_method_4_code 73 = .ok (.aaload, 1) := by decide +kernel
theorem d_Rs_keep_74 : decode prog_8_method_4_code 74 = .ok (.aload_n 2, 1) := by decide +kernel
theorem d_Rs_keep_75 : decode prog_8_method_4_code 75 = .ok (.invokevirtual 40, 3) := by decide +kernel
theorem d_Rs_keep_78 : decode prog_8_method_4_code 78 = .ok (.iconst 1, 1) := by decide +kernel
theorem d_Rs_keep_79 : decode prog_8_method_4_code 79 = .ok (.ireturn, 1) := by decide +kernel
def ws_Rn_byteOf : List Cond := .code y_Rn_byteOf prog_1_method_18_code 3 (some .int) :: TB
def B_Rn_byteOf_0 (x0 : Int64) (x2 : Int32) : Option Int32 :=
  some ((((x0.toUInt64 >>> (((8 : Int32) * x2).toInt64.toUInt64 &&& Int64.toUInt64 63)).toInt64).toInt32) &&& (255 : Int32))
def F_Rn_byteOf (x0 : Int64) (x2 : Int32) : Option Int32 := B_Rn_byteOf_0 x0 x2
set_option maxRecDepth 100000 in
set_option maxHeartbeats 4000000 in
theorem t_Rn_byteOf_0 {p : Program} {l : Launch} {e : Env} {s : State} {m : MethodId} {args : Array Value} {below : List Frame} {meth : Method} {c : Code} {D : va_G} {A : Nat → Prop} {g : Nat → ClassId} {rest : va_W} {ls : Array Slot} {H : Heap} {locs : List Loc} {x0 : Int64} {x2 : Int32} {out : Int32} (X : Cx p s m args meth c prog_1_method_18_code 3 ws_Rn_byteOf R_Rn (some .int) D g) (hl : lv_has ls 3 [(0, .long x0), (2, .int x2)]) (hI : Iw D A (rest) H) (hS : va_S A s.heap H locs) (h : B_Rn_byteOf_0  x0 x2 = some out) : W p l e (headSpec ws_Rn_byteOf { frames := 0, cells := 0, slots := 0, locals := 0 }).room s m args below meth c H locs 0 0 (MQ below (QcI D A g out (fun (_ : Unit) => rest)) args s 0 0 A) (F0 m 0 ls []) := by
  have X1 := X
  obtain ⟨hx, hb, hml, hown, hts, hr, hlocks, hKK⟩ := X1
  have ht : ∀ w ∈ TB, w.before args s = true := fun w h => hts w (List.mem_cons_of_mem _ h)
  have hK := hKK.1
  unfold B_Rn_byteOf_0 at h
  refine lv_lload_n hx hb d_Rn_byteOf_0 rfl (lv_at hl 0 rfl) ?_
  refine lv_bipush (v := 8) hx hb d_Rn_byteOf_1 (by decide) ?_
  refine lv_iload_n hx hb d_Rn_byteOf_3 rfl (lv_at hl 1 rfl) ?_
  refine lv_imul hx hb d_Rn_byteOf_4 ?_
  refine lv_lushr hx hb d_Rn_byteOf_5 rfl ?_
  refine lv_l2i hx hb d_Rn_byteOf_6 rfl ?_
  refine lv_sipush (v := 255) hx hb d_Rn_byteOf_7 (by decide) ?_
  refine lv_iand hx hb d_Rn_byteOf_10 ?_
  have h9 := Option.some.inj h
  subst h9
  exact W.iret (v := ((((x0.toUInt64 >>> (((8 : Int32) * x2).toInt64.toUInt64 &&& Int64.toUInt64 63)).toInt64).toInt32) &&& (255 : Int32))) hx hb hr (fun t ht hW => ⟨⟨_, (), rfl, rfl, ⟨by rw [ht]; exact hI, hKK.moved hW⟩⟩, hS.F ht⟩) hS.2.2 d_Rn_byteOf_11
set_option maxRecDepth 100000 in
set_option maxHeartbeats 4000000 in
theorem c_Rn_byteOf {l : Launch} {D : va_G} {A : Nat → Prop} {g : Nat → ClassId} {rest : va_W} {x0 : Int64} {x2 : Int32} {out : Int32} (h : F_Rn_byteOf x0 x2 = some out) : Met l y_Rn_byteOf ws_Rn_byteOf { frames := 0, cells := 0, slots := 0, locals := 0 } (PcW D A g [.long x0, .int x2] (rest)) (QcI D A g out (fun (_ : Unit) => rest)) 0 0 A := by
  refine Met.ofW (cc := prog_1_method_18_code) (maxL := 3) (ret := (some .int)) (by decide) rfl ?_
  intro p e s m args below meth c s₁ B hml hv
  obtain ⟨rfl, hI, hK⟩ := hv
  have hl := lv_entry [.long x0, .int x2] (n := 3) (Nat.le_of_ble_eq_true rfl)
  rw [lg_entry_eq]
  generalize (lg_sl [.long x0, .int x2] ++ List.replicate (3 - (lg_sl [.long x0, .int x2]).length) Slot.unset).toArray = ls at hl ⊢
  have hl : lv_has ls 3 [(0, .long x0), (2, .int x2)] := hl
  exact t_Rn_byteOf_0 ⟨B.exec, B.bytes, hml, findClass_of_methodNamed B.named, atoms_spec (ws := ws_Rn_byteOf) B.pre, B.returns, B.notSynchronized, hK⟩ (lv_sub hl [0, 1] rfl) hI va_S.rf h
def ws_Rn_isCount : List Cond := .code y_Rn_isCount prog_1_method_16_code 1 (some .boolean) :: TB
def B_Rn_isCount_16 (y0 : Int32) : Option Int32 :=
  (if y0 = 0 ∨ y0 = 1 then some y0 else none)
def B_Rn_isCount_15 : Option Int32 :=
  (B_Rn_isCount_16 (0 : Int32))
def B_Rn_isCount_11 : Option Int32 :=
  (B_Rn_isCount_16 (1 : Int32))
def B_Rn_isCount_5 (x0 : Int32) : Option Int32 :=
  (if (8 : Int32) < x0 then (B_Rn_isCount_15 ) else (B_Rn_isCount_11 ))
def B_Rn_isCount_0 (x0 : Int32) : Option Int32 :=
  (if x0 < (1 : Int32) then (B_Rn_isCount_15 ) else (B_Rn_isCount_5 x0))
def F_Rn_isCount (x0 : Int32) : Option Int32 := B_Rn_isCount_0 x0
set_option maxRecDepth 100000 in
set_option maxHeartbeats 4000000 in
theorem t_Rn_isCount_16 {p : Program} {l : Launch} {e : Env} {s : State} {m : MethodId} {args : Array Value} {below : List Frame} {meth : Method} {c : Code} {D : va_G} {A : Nat → Prop} {g : Nat → ClassId} {rest : va_W} {ls : Array Slot} {H : Heap} {locs : List Loc} {y0 : Int32} {out : Int32} (X : Cx p s m args meth c prog_1_method_16_code 1 ws_Rn_isCount R_Rn (some .boolean) D g) (hl : lv_has ls 1 []) (hI : Iw D A (rest) H) (hS : va_S A s.heap H locs) (h : B_Rn_isCount_16  y0 = some out) : W p l e (headSpec ws_Rn_isCount { frames := 0, cells := 0, slots := 0, locals := 0 }).room s m args below meth c H locs 0 0 (MQ below (QcI D A g out (fun (_ : Unit) => rest)) args s 0 0 A) (F0 m 16 ls [.int y0]) := by
  have X1 := X
  obtain ⟨hx, hb, hml, hown, hts, hr, hlocks, hKK⟩ := X1
  have ht : ∀ w ∈ TB, w.before args s = true := fun w h => hts w (List.mem_cons_of_mem _ h)
  have hK := hKK.1
  unfold B_Rn_isCount_16 at h
  have hc1 : y0 = 0 ∨ y0 = 1 := by
    by_cases z : y0 = 0 ∨ y0 = 1
    · exact z
    · exact no_s (it_f h z)
  have h := it_t h hc1
  have h9 := Option.some.inj h
  subst h9
  exact W.zret (v := y0) hx hb hr (by rcases hc1 with z | z <;> rw [z] <;> rfl) (fun t ht hW => ⟨⟨_, (), rfl, rfl, ⟨by rw [ht]; exact hI, hKK.moved hW⟩⟩, hS.F ht⟩) hS.2.2 d_Rn_isCount_16
set_option maxRecDepth 100000 in
set_option maxHeartbeats 4000000 in
theorem t_Rn_isCount_15 {p : Program} {l : Launch} {e : Env} {s : State} {m : MethodId} {args : Array Value} {below : List Frame} {meth : Method} {c : Code} {D : va_G} {A : Nat → Prop} {g : Nat → ClassId} {rest : va_W} {ls : Array Slot} {H : Heap} {locs : List Loc} {out : Int32} (X : Cx p s m args meth c prog_1_method_16_code 1 ws_Rn_isCount R_Rn (some .boolean) D g) (hl : lv_has ls 1 []) (hI : Iw D A (rest) H) (hS : va_S A s.heap H locs) (h : B_Rn_isCount_15   = some out) : W p l e (headSpec ws_Rn_isCount { frames := 0, cells := 0, slots := 0, locals := 0 }).room s m args below meth c H locs 0 0 (MQ below (QcI D A g out (fun (_ : Unit) => rest)) args s 0 0 A) (F0 m 15 ls []) := by
  have X1 := X
  obtain ⟨hx, hb, hml, hown, hts, hr, hlocks, hKK⟩ := X1
  have ht : ∀ w ∈ TB, w.before args s = true := fun w h => hts w (List.mem_cons_of_mem _ h)
  have hK := hKK.1
  unfold B_Rn_isCount_15 at h
  refine lv_iconst (v := 0) hx hb d_Rn_isCount_15 (by decide) ?_
  exact t_Rn_isCount_16 X (lv_sub hl [] rfl) hI hS h
set_option maxRecDepth 100000 in
set_option maxHeartbeats 4000000 in
theorem t_Rn_isCount_11 {p : Program} {l : Launch} {e : Env} {s : State} {m : MethodId} {args : Array Value} {below : List Frame} {meth : Method} {c : Code} {D : va_G} {A : Nat → Prop} {g : Nat → ClassId} {rest : va_W} {ls : Array Slot} {H : Heap} {locs : List Loc} {out : Int32} (X : Cx p s m args meth c prog_1_method_16_code 1 ws_Rn_isCount R_Rn (some .boolean) D g) (hl : lv_has ls 1 []) (hI : Iw D A (rest) H) (hS : va_S A s.heap H locs) (h : B_Rn_isCount_11   = some out) : W p l e (headSpec ws_Rn_isCount { frames := 0, cells := 0, slots := 0, locals := 0 }).room s m args below meth c H locs 0 0 (MQ below (QcI D A g out (fun (_ : Unit) => rest)) args s 0 0 A) (F0 m 11 ls []) := by
  have X1 := X
  obtain ⟨hx, hb, hml, hown, hts, hr, hlocks, hKK⟩ := X1
  have ht : ∀ w ∈ TB, w.before args s = true := fun w h => hts w (List.mem_cons_of_mem _ h)
  have hK := hKK.1
  unfold B_Rn_isCount_11 at h
  refine lv_iconst (v := 1) hx hb d_Rn_isCount_11 (by decide) ?_
  refine lv_goto (tgt := 16) hx hb d_Rn_isCount_12 (by decide) ?_
  exact t_Rn_isCount_16 X (lv_sub hl [] rfl) hI hS h
set_option maxRecDepth 100000 in
set_option maxHeartbeats 4000000 in
theorem t_Rn_isCount_5 {p : Program} {l : Launch} {e : Env} {s : State} {m : MethodId} {args : Array Value} {below : List Frame} {meth : Method} {c : Code} {D : va_G} {A : Nat → Prop} {g : Nat → ClassId} {rest : va_W} {ls : Array Slot} {H : Heap} {locs : List Loc} {x0 : Int32} {out : Int32} (X : Cx p s m args meth c prog_1_method_16_code 1 ws_Rn_isCount R_Rn (some .boolean) D g) (hl : lv_has ls 1 [(0, .int x0)]) (hI : Iw D A (rest) H) (hS : va_S A s.heap H locs) (h : B_Rn_isCount_5  x0 = some out) : W p l e (headSpec ws_Rn_isCount { frames := 0, cells := 0, slots := 0, locals := 0 }).room s m args below meth c H locs 0 0 (MQ below (QcI D A g out (fun (_ : Unit) => rest)) args s 0 0 A) (F0 m 5 ls []) := by
  have X1 := X
  obtain ⟨hx, hb, hml, hown, hts, hr, hlocks, hKK⟩ := X1
  have ht : ∀ w ∈ TB, w.before args s = true := fun w h => hts w (List.mem_cons_of_mem _ h)
  have hK := hKK.1
  unfold B_Rn_isCount_5 at h
  refine lv_iload_n hx hb d_Rn_isCount_5 rfl (lv_at hl 0 rfl) ?_
  refine lv_bipush (v := 8) hx hb d_Rn_isCount_6 (by decide) ?_
  refine lv_icmp_gt (tgt := 15) hx hb d_Rn_isCount_8 (by decide) (fun hc => ?_) (fun hc => ?_)
  · have h := it_t h hc
    exact t_Rn_isCount_15 X (lv_sub hl [] rfl) hI hS h
  · have h := it_f h hc
    exact t_Rn_isCount_11 X (lv_sub hl [] rfl) hI hS h
set_option maxRecDepth 100000 in
set_option maxHeartbeats 4000000 in
theorem t_Rn_isCount_0 {p : Program} {l : Launch} {e : Env} {s : State} {m : MethodId} {args : Array Value} {below : List Frame} {meth : Method} {c : Code} {D : va_G} {A : Nat → Prop} {g : Nat → ClassId} {rest : va_W} {ls : Array Slot} {H : Heap} {locs : List Loc} {x0 : Int32} {out : Int32} (X : Cx p s m args meth c prog_1_method_16_code 1 ws_Rn_isCount R_Rn (some .boolean) D g) (hl : lv_has ls 1 [(0, .int x0)]) (hI : Iw D A (rest) H) (hS : va_S A s.heap H locs) (h : B_Rn_isCount_0  x0 = some out) : W p l e (headSpec ws_Rn_isCount { frames := 0, cells := 0, slots := 0, locals := 0 }).room s m args below meth c H locs 0 0 (MQ below (QcI D A g out (fun (_ : Unit) => rest)) args s 0 0 A) (F0 m 0 ls []) := by
  have X1 := X
  obtain ⟨hx, hb, hml, hown, hts, hr, hlocks, hKK⟩ := X1
  have ht : ∀ w ∈ TB, w.before args s = true := fun w h => hts w (List.mem_cons_of_mem _ h)
  have hK := hKK.1
  unfold B_Rn_isCount_0 at h
  refine lv_iload_n hx hb d_Rn_isCount_0 rfl (lv_at hl 0 rfl) ?_
  refine lv_iconst (v := 1) hx hb d_Rn_isCount_1 (by decide) ?_
  refine lv_icmp_lt (tgt := 15) hx hb d_Rn_isCount_2 (by decide) (fun hc => ?_) (fun hc => ?_)
  · have h := it_t h hc
    exact t_Rn_isCount_15 X (lv_sub hl [] rfl) hI hS h
  · have h := it_f h hc
    exact t_Rn_isCount_5 X (lv_sub hl [0] rfl) hI hS h
set_option maxRecDepth 100000 in
set_option maxHeartbeats 4000000 in
theorem c_Rn_isCount {l : Launch} {D : va_G} {A : Nat → Prop} {g : Nat → ClassId} {rest : va_W} {x0 : Int32} {out : Int32} (h : F_Rn_isCount x0 = some out) : Met l y_Rn_isCount ws_Rn_isCount { frames := 0, cells := 0, slots := 0, locals := 0 } (PcW D A g [.int x0] (rest)) (QcI D A g out (fun (_ : Unit) => rest)) 0 0 A := by
  refine Met.ofW (cc := prog_1_method_16_code) (maxL := 1) (ret := (some .boolean)) (by decide) rfl ?_
  intro p e s m args below meth c s₁ B hml hv
  obtain ⟨rfl, hI, hK⟩ := hv
  have hl := lv_entry [.int x0] (n := 1) (Nat.le_of_ble_eq_true rfl)
  rw [lg_entry_eq]
  generalize (lg_sl [.int x0] ++ List.replicate (1 - (lg_sl [.int x0]).length) Slot.unset).toArray = ls at hl ⊢
  have hl : lv_has ls 1 [(0, .int x0)] := hl
  exact t_Rn_isCount_0 ⟨B.exec, B.bytes, hml, findClass_of_methodNamed B.named, atoms_spec (ws := ws_Rn_isCount) B.pre, B.returns, B.notSynchronized, hK⟩ (lv_sub hl [0] rfl) hI va_S.rf h
def ws_Rn_kindOf : List Cond := .code y_Rn_kindOf prog_1_method_19_code 1 (some .int) :: TB
def B_Rn_kindOf_29 (y0 : Int32) : Option Int32 :=
  some y0
def B_Rn_kindOf_28 : Option Int32 :=
  (B_Rn_kindOf_29 (4 : Int32))
def B_Rn_kindOf_24 : Option Int32 :=
  (B_Rn_kindOf_29 (3 : Int32))
def B_Rn_kindOf_17 (x0 : Int32) : Option Int32 :=
  (if (200 : Int32) < x0 then (B_Rn_kindOf_28 ) else (B_Rn_kindOf_24 ))
def B_Rn_kindOf_15 : Option Int32 :=
  some (2 : Int32)
def B_Rn_kindOf_8 (x0 : Int32) : Option Int32 :=
  (if (160 : Int32) ≤ x0 then (B_Rn_kindOf_17 x0) else (B_Rn_kindOf_15 ))
def B_Rn_kindOf_6 : Option Int32 :=
  some (1 : Int32)
def B_Rn_kindOf_0 (x0 : Int32) : Option Int32 :=
  (if (80 : Int32) ≤ x0 then (B_Rn_kindOf_8 x0) else (B_Rn_kindOf_6 ))
def F_Rn_kindOf (x0 : Int32) : Option Int32 := B_Rn_kindOf_0 x0
set_option maxRecDepth 100000 in
set_option maxHeartbeats 4000000 in
theorem t_Rn_kindOf_29 {p : Program} {l : Launch} {e : Env} {s : State} {m : MethodId} {args : Array Value} {below : List Frame} {meth : Method} {c : Code} {D : va_G} {A : Nat → Prop} {g : Nat → ClassId} {rest : va_W} {ls : Array Slot} {H : Heap} {locs : List Loc} {y0 : Int32} {out : Int32} (X : Cx p s m args meth c prog_1_method_19_code 1 ws_Rn_kindOf R_Rn (some .int) D g) (hl : lv_has ls 1 []) (hI : Iw D A (rest) H) (hS : va_S A s.heap H locs) (h : B_Rn_kindOf_29  y0 = some out) : W p l e (headSpec ws_Rn_kindOf { frames := 0, cells := 0, slots := 0, locals := 0 }).room s m args below meth c H locs 0 0 (MQ below (QcI D A g out (fun (_ : Unit) => rest)) args s 0 0 A) (F0 m 29 ls [.int y0]) := by
  have X1 := X
  obtain ⟨hx, hb, hml, hown, hts, hr, hlocks, hKK⟩ := X1
  have ht : ∀ w ∈ TB, w.before args s = true := fun w h => hts w (List.mem_cons_of_mem _ h)
  have hK := hKK.1
  unfold B_Rn_kindOf_29 at h
  have h9 := Option.some.inj h
  subst h9
  exact W.iret (v := y0) hx hb hr (fun t ht hW => ⟨⟨_, (), rfl, rfl, ⟨by rw [ht]; exact hI, hKK.moved hW⟩⟩, hS.F ht⟩) hS.2.2 d_Rn_kindOf_29
set_option maxRecDepth 100000 in
set_option maxHeartbeats 4000000 in
theorem t_Rn_kindOf_28 {p : Program} {l : Launch} {e : Env} {s : State} {m : MethodId} {args : Array Value} {below : List Frame} {meth : Method} {c : Code} {D : va_G} {A : Nat → Prop} {g : Nat → ClassId} {rest : va_W} {ls : Array Slot} {H : Heap} {locs : List Loc} {out : Int32} (X : Cx p s m args meth c prog_1_method_19_code 1 ws_Rn_kindOf R_Rn (some .int) D g) (hl : lv_has ls 1 []) (hI : Iw D A (rest) H) (hS : va_S A s.heap H locs) (h : B_Rn_kindOf_28   = some out) : W p l e (headSpec ws_Rn_kindOf { frames := 0, cells := 0, slots := 0, locals := 0 }).room s m args below meth c H locs 0 0 (MQ below (QcI D A g out (fun (_ : Unit) => rest)) args s 0 0 A) (F0 m 28 ls []) := by
  have X1 := X
  obtain ⟨hx, hb, hml, hown, hts, hr, hlocks, hKK⟩ := X1
  have ht : ∀ w ∈ TB, w.before args s = true := fun w h => hts w (List.mem_cons_of_mem _ h)
  have hK := hKK.1
  unfold B_Rn_kindOf_28 at h
  refine lv_iconst (v := 4) hx hb d_Rn_kindOf_28 (by decide) ?_
  exact t_Rn_kindOf_29 X (lv_sub hl [] rfl) hI hS h
set_option maxRecDepth 100000 in
set_option maxHeartbeats 4000000 in
theorem t_Rn_kindOf_24 {p : Program} {l : Launch} {e : Env} {s : State} {m : MethodId} {args : Array Value} {below : List Frame} {meth : Method} {c : Code} {D : va_G} {A : Nat → Prop} {g : Nat → ClassId} {rest : va_W} {ls : Array Slot} {H : Heap} {locs : List Loc} {out : Int32} (X : Cx p s m args meth c prog_1_method_19_code 1 ws_Rn_kindOf R_Rn (some .int) D g) (hl : lv_has ls 1 []) (hI : Iw D A (rest) H) (hS : va_S A s.heap H locs) (h : B_Rn_kindOf_24   = some out) : W p l e (headSpec ws_Rn_kindOf { frames := 0, cells := 0, slots := 0, locals := 0 }).room s m args below meth c H locs 0 0 (MQ below (QcI D A g out (fun (_ : Unit) => rest)) args s 0 0 A) (F0 m 24 ls []) := by
  have X1 := X
  obtain ⟨hx, hb, hml, hown, hts, hr, hlocks, hKK⟩ := X1
  have ht : ∀ w ∈ TB, w.before args s = true := fun w h => hts w (List.mem_cons_of_mem _ h)
  have hK := hKK.1
  unfold B_Rn_kindOf_24 at h
  refine lv_iconst (v := 3) hx hb d_Rn_kindOf_24 (by decide) ?_
  refine lv_goto (tgt := 29) hx hb d_Rn_kindOf_25 (by decide) ?_
  exact t_Rn_kindOf_29 X (lv_sub hl [] rfl) hI hS h
set_option maxRecDepth 100000 in
set_option maxHeartbeats 4000000 in
theorem t_Rn_kindOf_17 {p : Program} {l : Launch} {e : Env} {s : State} {m : MethodId} {args : Array Value} {below : List Frame} {meth : Method} {c : Code} {D : va_G} {A : Nat → Prop} {g : Nat → ClassId} {rest : va_W} {ls : Array Slot} {H : Heap} {locs : List Loc} {x0 : Int32} {out : Int32} (X : Cx p s m args meth c prog_1_method_19_code 1 ws_Rn_kindOf R_Rn (some .int) D g) (hl : lv_has ls 1 [(0, .int x0)]) (hI : Iw D A (rest) H) (hS : va_S A s.heap H locs) (h : B_Rn_kindOf_17  x0 = some out) : W p l e (headSpec ws_Rn_kindOf { frames := 0, cells := 0, slots := 0, locals := 0 }).room s m args below meth c H locs 0 0 (MQ below (QcI D A g out (fun (_ : Unit) => rest)) args s 0 0 A) (F0 m 17 ls []) := by
  have X1 := X
  obtain ⟨hx, hb, hml, hown, hts, hr, hlocks, hKK⟩ := X1
  have ht : ∀ w ∈ TB, w.before args s = true := fun w h => hts w (List.mem_cons_of_mem _ h)
  have hK := hKK.1
  unfold B_Rn_kindOf_17 at h
  refine lv_iload_n hx hb d_Rn_kindOf_17 rfl (lv_at hl 0 rfl) ?_
  refine lv_sipush (v := 200) hx hb d_Rn_kindOf_18 (by decide) ?_
  refine lv_icmp_gt (tgt := 28) hx hb d_Rn_kindOf_21 (by decide) (fun hc => ?_) (fun hc => ?_)
  · have h := it_t h hc
    exact t_Rn_kindOf_28 X (lv_sub hl [] rfl) hI hS h
  · have h := it_f h hc
    exact t_Rn_kindOf_24 X (lv_sub hl [] rfl) hI hS h
set_option maxRecDepth 100000 in
set_option maxHeartbeats 4000000 in
theorem t_Rn_kindOf_15 {p : Program} {l : Launch} {e : Env} {s : State} {m : MethodId} {args : Array Value} {below : List Frame} {meth : Method} {c : Code} {D : va_G} {A : Nat → Prop} {g : Nat → ClassId} {rest : va_W} {ls : Array Slot} {H : Heap} {locs : List Loc} {out : Int32} (X : Cx p s m args meth c prog_1_method_19_code 1 ws_Rn_kindOf R_Rn (some .int) D g) (hl : lv_has ls 1 []) (hI : Iw D A (rest) H) (hS : va_S A s.heap H locs) (h : B_Rn_kindOf_15   = some out) : W p l e (headSpec ws_Rn_kindOf { frames := 0, cells := 0, slots := 0, locals := 0 }).room s m args below meth c H locs 0 0 (MQ below (QcI D A g out (fun (_ : Unit) => rest)) args s 0 0 A) (F0 m 15 ls []) := by
  have X1 := X
  obtain ⟨hx, hb, hml, hown, hts, hr, hlocks, hKK⟩ := X1
  have ht : ∀ w ∈ TB, w.before args s = true := fun w h => hts w (List.mem_cons_of_mem _ h)
  have hK := hKK.1
  unfold B_Rn_kindOf_15 at h
  refine lv_iconst (v := 2) hx hb d_Rn_kindOf_15 (by decide) ?_
  have h9 := Option.some.inj h
  subst h9
  exact W.iret (v := (2 : Int32)) hx hb hr (fun t ht hW => ⟨⟨_, (), rfl, rfl, ⟨by rw [ht]; exact hI, hKK.moved hW⟩⟩, hS.F ht⟩) hS.2.2 d_Rn_kindOf_16
set_option maxRecDepth 100000 in
set_option maxHeartbeats 4000000 in
theorem t_Rn_kindOf_8 {p : Program} {l : Launch} {e : Env} {s : State} {m : MethodId} {args : Array Value} {below : List Frame} {meth : Method} {c : Code} {D : va_G} {A : Nat → Prop} {g : Nat → ClassId} {rest : va_W} {ls : Array Slot} {H : Heap} {locs : List Loc} {x0 : Int32} {out : Int32} (X : Cx p s m args meth c prog_1_method_19_code 1 ws_Rn_kindOf R_Rn (some .int) D g) (hl : lv_has ls 1 [(0, .int x0)]) (hI : Iw D A (rest) H) (hS : va_S A s.heap H locs) (h : B_Rn_kindOf_8  x0 = some out) : W p l e (headSpec ws_Rn_kindOf { frames := 0, cells := 0, slots := 0, locals := 0 }).room s m args below meth c H locs 0 0 (MQ below (QcI D A g out (fun (_ : Unit) => rest)) args s 0 0 A) (F0 m 8 ls []) := by
  have X1 := X
  obtain ⟨hx, hb, hml, hown, hts, hr, hlocks, hKK⟩ := X1
  have ht : ∀ w ∈ TB, w.before args s = true := fun w h => hts w (List.mem_cons_of_mem _ h)
  have hK := hKK.1
  unfold B_Rn_kindOf_8 at h
  refine lv_iload_n hx hb d_Rn_kindOf_8 rfl (lv_at hl 0 rfl) ?_
  refine lv_sipush (v := 160) hx hb d_Rn_kindOf_9 (by decide) ?_
  refine lv_icmp_ge (tgt := 17) hx hb d_Rn_kindOf_12 (by decide) (fun hc => ?_) (fun hc => ?_)
  · have h := it_t h hc
    exact t_Rn_kindOf_17 X (lv_sub hl [0] rfl) hI hS h
  · have h := it_f h hc
    exact t_Rn_kindOf_15 X (lv_sub hl [] rfl) hI hS h
set_option maxRecDepth 100000 in
set_option maxHeartbeats 4000000 in
theorem t_Rn_kindOf_6 {p : Program} {l : Launch} {e : Env} {s : State} {m : MethodId} {args : Array Value} {below : List Frame} {meth : Method} {c : Code} {D : va_G} {A : Nat → Prop} {g : Nat → ClassId} {rest : va_W} {ls : Array Slot} {H : Heap} {locs : List Loc} {out : Int32} (X : Cx p s m args meth c prog_1_method_19_code 1 ws_Rn_kindOf R_Rn (some .int) D g) (hl : lv_has ls 1 []) (hI : Iw D A (rest) H) (hS : va_S A s.heap H locs) (h : B_Rn_kindOf_6   = some out) : W p l e (headSpec ws_Rn_kindOf { frames := 0, cells := 0, slots := 0, locals := 0 }).room s m args below meth c H locs 0 0 (MQ below (QcI D A g out (fun (_ : Unit) => rest)) args s 0 0 A) (F0 m 6 ls []) := by
  have X1 := X
  obtain ⟨hx, hb, hml, hown, hts, hr, hlocks, hKK⟩ := X1
  have ht : ∀ w ∈ TB, w.before args s = true := fun w h => hts w (List.mem_cons_of_mem _ h)
  have hK := hKK.1
  unfold B_Rn_kindOf_6 at h
  refine lv_iconst (v := 1) hx hb d_Rn_kindOf_6 (by decide) ?_
  have h9 := Option.some.inj h
  subst h9
  exact W.iret (v := (1 : Int32)) hx hb hr (fun t ht hW => ⟨⟨_, (), rfl, rfl, ⟨by rw [ht]; exact hI, hKK.moved hW⟩⟩, hS.F ht⟩) hS.2.2 d_Rn_kindOf_7
set_option maxRecDepth 100000 in
set_option maxHeartbeats 4000000 in
theorem t_Rn_kindOf_0 {p : Program} {l : Launch} {e : Env} {s : State} {m : MethodId} {args : Array Value} {below : List Frame} {meth : Method} {c : Code} {D : va_G} {A : Nat → Prop} {g : Nat → ClassId} {rest : va_W} {ls : Array Slot} {H : Heap} {locs : List Loc} {x0 : Int32} {out : Int32} (X : Cx p s m args meth c prog_1_method_19_code 1 ws_Rn_kindOf R_Rn (some .int) D g) (hl : lv_has ls 1 [(0, .int x0)]) (hI : Iw D A (rest) H) (hS : va_S A s.heap H locs) (h : B_Rn_kindOf_0  x0 = some out) : W p l e (headSpec ws_Rn_kindOf { frames := 0, cells := 0, slots := 0, locals := 0 }).room s m args below meth c H locs 0 0 (MQ below (QcI D A g out (fun (_ : Unit) => rest)) args s 0 0 A) (F0 m 0 ls []) := by
  have X1 := X
  obtain ⟨hx, hb, hml, hown, hts, hr, hlocks, hKK⟩ := X1
  have ht : ∀ w ∈ TB, w.before args s = true := fun w h => hts w (List.mem_cons_of_mem _ h)
  have hK := hKK.1
  unfold B_Rn_kindOf_0 at h
  refine lv_iload_n hx hb d_Rn_kindOf_0 rfl (lv_at hl 0 rfl) ?_
  refine lv_bipush (v := 80) hx hb d_Rn_kindOf_1 (by decide) ?_
  refine lv_icmp_ge (tgt := 8) hx hb d_Rn_kindOf_3 (by decide) (fun hc => ?_) (fun hc => ?_)
  · have h := it_t h hc
    exact t_Rn_kindOf_8 X (lv_sub hl [0] rfl) hI hS h
  · have h := it_f h hc
    exact t_Rn_kindOf_6 X (lv_sub hl [] rfl) hI hS h
set_option maxRecDepth 100000 in
set_option maxHeartbeats 4000000 in
theorem c_Rn_kindOf {l : Launch} {D : va_G} {A : Nat → Prop} {g : Nat → ClassId} {rest : va_W} {x0 : Int32} {out : Int32} (h : F_Rn_kindOf x0 = some out) : Met l y_Rn_kindOf ws_Rn_kindOf { frames := 0, cells := 0, slots := 0, locals := 0 } (PcW D A g [.int x0] (rest)) (QcI D A g out (fun (_ : Unit) => rest)) 0 0 A := by
  refine Met.ofW (cc := prog_1_method_19_code) (maxL := 1) (ret := (some .int)) (by decide) rfl ?_
  intro p e s m args below meth c s₁ B hml hv
  obtain ⟨rfl, hI, hK⟩ := hv
  have hl := lv_entry [.int x0] (n := 1) (Nat.le_of_ble_eq_true rfl)
  rw [lg_entry_eq]
  generalize (lg_sl [.int x0] ++ List.replicate (1 - (lg_sl [.int x0]).length) Slot.unset).toArray = ls at hl ⊢
  have hl : lv_has ls 1 [(0, .int x0)] := hl
  exact t_Rn_kindOf_0 ⟨B.exec, B.bytes, hml, findClass_of_methodNamed B.named, atoms_spec (ws := ws_Rn_kindOf) B.pre, B.returns, B.notSynchronized, hK⟩ (lv_sub hl [0] rfl) hI va_S.rf h
def ws_Rn_isSyntax : List Cond := .code y_Rn_isSyntax prog_1_method_17_code 1 (some .boolean) :: TB
def B_Rn_isSyntax_14 (y0 : Int32) : Option Int32 :=
  (if y0 = 0 ∨ y0 = 1 then some y0 else none)
def B_Rn_isSyntax_9 : Option Int32 :=
  (B_Rn_isSyntax_14 (1 : Int32))
def B_Rn_isSyntax_13 : Option Int32 :=
  (B_Rn_isSyntax_14 (0 : Int32))
def B_Rn_isSyntax_4 (x0 : Int32) : Option Int32 :=
  (if x0 = (1 : Int32) then (B_Rn_isSyntax_9 ) else (B_Rn_isSyntax_13 ))
def B_Rn_isSyntax_0 (x0 : Int32) : Option Int32 :=
  (if x0 = 0 then (B_Rn_isSyntax_9 ) else (B_Rn_isSyntax_4 x0))
def F_Rn_isSyntax (x0 : Int32) : Option Int32 := B_Rn_isSyntax_0 x0
set_option maxRecDepth 100000 in
set_option maxHeartbeats 4000000 in
theorem t_Rn_isSyntax_14 {p : Program} {l : Launch} {e : Env} {s : State} {m : MethodId} {args : Array Value} {below : List Frame} {meth : Method} {c : Code} {D : va_G} {A : Nat → Prop} {g : Nat → ClassId} {rest : va_W} {ls : Array Slot} {H : Heap} {locs : List Loc} {y0 : Int32} {out : Int32} (X : Cx p s m args meth c prog_1_method_17_code 1 ws_Rn_isSyntax R_Rn (some .boolean) D g) (hl : lv_has ls 1 []) (hI : Iw D A (rest) H) (hS : va_S A s.heap H locs) (h : B_Rn_isSyntax_14  y0 = some out) : W p l e (headSpec ws_Rn_isSyntax { frames := 0, cells := 0, slots := 0, locals := 0 }).room s m args below meth c H locs 0 0 (MQ below (QcI D A g out (fun (_ : Unit) => rest)) args s 0 0 A) (F0 m 14 ls [.int y0]) := by
  have X1 := X
  obtain ⟨hx, hb, hml, hown, hts, hr, hlocks, hKK⟩ := X1
  have ht : ∀ w ∈ TB, w.before args s = true := fun w h => hts w (List.mem_cons_of_mem _ h)
  have hK := hKK.1
  unfold B_Rn_isSyntax_14 at h
  have hc1 : y0 = 0 ∨ y0 = 1 := by
    by_cases z : y0 = 0 ∨ y0 = 1
    · exact z
    · exact no_s (it_f h z)
  have h := it_t h hc1
  have h9 := Option.some.inj h
  subst h9
  exact W.zret (v := y0) hx hb hr (by rcases hc1 with z | z <;> rw [z] <;> rfl) (fun t ht hW => ⟨⟨_, (), rfl, rfl, ⟨by rw [ht]; exact hI, hKK.moved hW⟩⟩, hS.F ht⟩) hS.2.2 d_Rn_isSyntax_14
set_option maxRecDepth 100000 in
set_option maxHeartbeats 4000000 in
theorem t_Rn_isSyntax_9 {p : Program} {l : Launch} {e : Env} {s : State} {m : MethodId} {args : Array Value} {below : List Frame} {meth : Method} {c : Code} {D : va_G} {A : Nat → Prop} {g : Nat → ClassId} {rest : va_W} {ls : Array Slot} {H : Heap} {locs : List Loc} {out : Int32} (X : Cx p s m args meth c prog_1_method_17_code 1 ws_Rn_isSyntax R_Rn (some .boolean) D g) (hl : lv_has ls 1 []) (hI : Iw D A (rest) H) (hS : va_S A s.heap H locs) (h : B_Rn_isSyntax_9   = some out) : W p l e (headSpec ws_Rn_isSyntax { frames := 0, cells := 0, slots := 0, locals := 0 }).room s m args below meth c H locs 0 0 (MQ below (QcI D A g out (fun (_ : Unit) => rest)) args s 0 0 A) (F0 m 9 ls []) := by
  have X1 := X
  obtain ⟨hx, hb, hml, hown, hts, hr, hlocks, hKK⟩ := X1
  have ht : ∀ w ∈ TB, w.before args s = true := fun w h => hts w (List.mem_cons_of_mem _ h)
  have hK := hKK.1
  unfold B_Rn_isSyntax_9 at h
  refine lv_iconst (v := 1) hx hb d_Rn_isSyntax_9 (by decide) ?_
  refine lv_goto (tgt := 14) hx hb d_Rn_isSyntax_10 (by decide) ?_
  exact t_Rn_isSyntax_14 X (lv_sub hl [] rfl) hI hS h
set_option maxRecDepth 100000 in
set_option maxHeartbeats 4000000 in
theorem t_Rn_isSyntax_13 {p : Program} {l : Launch} {e : Env} {s : State} {m : MethodId} {args : Array Value} {below : List Frame} {meth : Method} {c : Code} {D : va_G} {A : Nat → Prop} {g : Nat → ClassId} {rest : va_W} {ls : Array Slot} {H : Heap} {locs : List Loc} {out : Int32} (X : Cx p s m args meth c prog_1_method_17_code 1 ws_Rn_isSyntax R_Rn (some .boolean) D g) (hl : lv_has ls 1 []) (hI : Iw D A (rest) H) (hS : va_S A s.heap H locs) (h : B_Rn_isSyntax_13   = some out) : W p l e (headSpec ws_Rn_isSyntax { frames := 0, cells := 0, slots := 0, locals := 0 }).room s m args below meth c H locs 0 0 (MQ below (QcI D A g out (fun (_ : Unit) => rest)) args s 0 0 A) (F0 m 13 ls []) := by
  have X1 := X
  obtain ⟨hx, hb, hml, hown, hts, hr, hlocks, hKK⟩ := X1
  have ht : ∀ w ∈ TB, w.before args s = true := fun w h => hts w (List.mem_cons_of_mem _ h)
  have hK := hKK.1
  unfold B_Rn_isSyntax_13 at h
  refine lv_iconst (v := 0) hx hb d_Rn_isSyntax_13 (by decide) ?_
  exact t_Rn_isSyntax_14 X (lv_sub hl [] rfl) hI hS h
set_option maxRecDepth 100000 in
set_option maxHeartbeats 4000000 in
theorem t_Rn_isSyntax_4 {p : Program} {l : Launch} {e : Env} {s : State} {m : MethodId} {args : Array Value} {below : List Frame} {meth : Method} {c : Code} {D : va_G} {A : Nat → Prop} {g : Nat → ClassId} {rest : va_W} {ls : Array Slot} {H : Heap} {locs : List Loc} {x0 : Int32} {out : Int32} (X : Cx p s m args meth c prog_1_method_17_code 1 ws_Rn_isSyntax R_Rn (some .boolean) D g) (hl : lv_has ls 1 [(0, .int x0)]) (hI : Iw D A (rest) H) (hS : va_S A s.heap H locs) (h : B_Rn_isSyntax_4  x0 = some out) : W p l e (headSpec ws_Rn_isSyntax { frames := 0, cells := 0, slots := 0, locals := 0 }).room s m args below meth c H locs 0 0 (MQ below (QcI D A g out (fun (_ : Unit) => rest)) args s 0 0 A) (F0 m 4 ls []) := by
  have X1 := X
  obtain ⟨hx, hb, hml, hown, hts, hr, hlocks, hKK⟩ := X1
  have ht : ∀ w ∈ TB, w.before args s = true := fun w h => hts w (List.mem_cons_of_mem _ h)
  have hK := hKK.1
  unfold B_Rn_isSyntax_4 at h
  refine lv_iload_n hx hb d_Rn_isSyntax_4 rfl (lv_at hl 0 rfl) ?_
  refine lv_iconst (v := 1) hx hb d_Rn_isSyntax_5 (by decide) ?_
  refine lv_icmp_ne (tgt := 13) hx hb d_Rn_isSyntax_6 (by decide) (fun hc => ?_) (fun hc => ?_)
  · have h := it_f h hc
    exact t_Rn_isSyntax_13 X (lv_sub hl [] rfl) hI hS h
  · have h := it_t h hc
    exact t_Rn_isSyntax_9 X (lv_sub hl [] rfl) hI hS h
set_option maxRecDepth 100000 in
set_option maxHeartbeats 4000000 in
theorem t_Rn_isSyntax_0 {p : Program} {l : Launch} {e : Env} {s : State} {m : MethodId} {args : Array Value} {below : List Frame} {meth : Method} {c : Code} {D : va_G} {A : Nat → Prop} {g : Nat → ClassId} {rest : va_W} {ls : Array Slot} {H : Heap} {locs : List Loc} {x0 : Int32} {out : Int32} (X : Cx p s m args meth c prog_1_method_17_code 1 ws_Rn_isSyntax R_Rn (some .boolean) D g) (hl : lv_has ls 1 [(0, .int x0)]) (hI : Iw D A (rest) H) (hS : va_S A s.heap H locs) (h : B_Rn_isSyntax_0  x0 = some out) : W p l e (headSpec ws_Rn_isSyntax { frames := 0, cells := 0, slots := 0, locals := 0 }).room s m args below meth c H locs 0 0 (MQ below (QcI D A g out (fun (_ : Unit) => rest)) args s 0 0 A) (F0 m 0 ls []) := by
  have X1 := X
  obtain ⟨hx, hb, hml, hown, hts, hr, hlocks, hKK⟩ := X1
  have ht : ∀ w ∈ TB, w.before args s = true := fun w h => hts w (List.mem_cons_of_mem _ h)
  have hK := hKK.1
  unfold B_Rn_isSyntax_0 at h
  refine lv_iload_n hx hb d_Rn_isSyntax_0 rfl (lv_at hl 0 rfl) ?_
  refine lv_if_eq (tgt := 9) hx hb d_Rn_isSyntax_1 (by decide) (fun hc => ?_) (fun hc => ?_)
  · have h := it_t h hc
    exact t_Rn_isSyntax_9 X (lv_sub hl [] rfl) hI hS h
  · have h := it_f h hc
    exact t_Rn_isSyntax_4 X (lv_sub hl [0] rfl) hI hS h
set_option maxRecDepth 100000 in
set_option maxHeartbeats 4000000 in
theorem c_Rn_isSyntax {l : Launch} {D : va_G} {A : Nat → Prop} {g : Nat → ClassId} {rest : va_W} {x0 : Int32} {out : Int32} (h : F_Rn_isSyntax x0 = some out) : Met l y_Rn_isSyntax ws_Rn_isSyntax { frames := 0, cells := 0, slots := 0, locals := 0 } (PcW D A g [.int x0] (rest)) (QcI D A g out (fun (_ : Unit) => rest)) 0 0 A := by
  refine Met.ofW (cc := prog_1_method_17_code) (maxL := 1) (ret := (some .boolean)) (by decide) rfl ?_
  intro p e s m args below meth c s₁ B hml hv
  obtain ⟨rfl, hI, hK⟩ := hv
  have hl := lv_entry [.int x0] (n := 1) (Nat.le_of_ble_eq_true rfl)
  rw [lg_entry_eq]
  generalize (lg_sl [.int x0] ++ List.replicate (1 - (lg_sl [.int x0]).length) Slot.unset).toArray = ls at hl ⊢
  have hl : lv_has ls 1 [(0, .int x0)] := hl
  exact t_Rn_isSyntax_0 ⟨B.exec, B.bytes, hml, findClass_of_methodNamed B.named, atoms_spec (ws := ws_Rn_isSyntax) B.pre, B.returns, B.notSynchronized, hK⟩ (lv_sub hl [0] rfl) hI va_S.rf h
def ws_Ou_hasRoom : List Cond := .code y_Ou_hasRoom prog_6_method_3_code 2 (some .boolean) :: TB
def B_Ou_hasRoom_17 (s0 : S_Ou) (y0 : Int32) : Option Int32 :=
  (if y0 = 0 ∨ y0 = 1 then some y0 else none)
def B_Ou_hasRoom_16 (s0 : S_Ou) : Option Int32 :=
  (B_Ou_hasRoom_17 s0 (0 : Int32))
def B_Ou_hasRoom_12 (s0 : S_Ou) : Option Int32 :=
  (B_Ou_hasRoom_17 s0 (1 : Int32))
def B_Ou_hasRoom_0 (s0 : S_Ou) (x1 : Int32) : Option Int32 :=
  (if ((900 : Int32) - (Ou_count s0)) < x1 then (B_Ou_hasRoom_16 s0) else (B_Ou_hasRoom_12 s0))
def F_Ou_hasRoom (s0 : S_Ou) (x1 : Int32) : Option Int32 := B_Ou_hasRoom_0 s0 x1
set_option maxRecDepth 100000 in
set_option maxHeartbeats 4000000 in
theorem t_Ou_hasRoom_17 {p : Program} {l : Launch} {e : Env} {s : State} {m : MethodId} {args : Array Value} {below : List Frame} {meth : Method} {c : Code} {D : va_G} {A : Nat → Prop} {g : Nat → ClassId} {rest : va_W} {a0 : Nat → Nat} {ls : Array Slot} {H : Heap} {locs : List Loc} {s0 : S_Ou} {y0 : Int32} {out : Int32} (X : Cx p s m args meth c prog_6_method_3_code 2 ws_Ou_hasRoom R_Ou (some .boolean) D g) (hl : lv_has ls 2 []) (hI : Iw D A (w_Ou g a0 s0 ++ (rest)) H) (hS : va_S A s.heap H locs) (h : B_Ou_hasRoom_17  s0 y0 = some out) : W p l e (headSpec ws_Ou_hasRoom { frames := 0, cells := 0, slots := 0, locals := 0 }).room s m args below meth c H locs 0 0 (MQ below (QcI D A g out (fun (_ : Unit) => w_Ou g a0 s0 ++ (rest))) args s 0 0 A) (F0 m 17 ls [.int y0]) := by
  have X1 := X
  obtain ⟨hx, hb, hml, hown, hts, hr, hlocks, hKK⟩ := X1
  have ht : ∀ w ∈ TB, w.before args s = true := fun w h => hts w (List.mem_cons_of_mem _ h)
  have hK := hKK.1
  unfold B_Ou_hasRoom_17 at h
  have hc1 : y0 = 0 ∨ y0 = 1 := by
    by_cases z : y0 = 0 ∨ y0 = 1
    · exact z
    · exact no_s (it_f h z)
  have h := it_t h hc1
  have h9 := Option.some.inj h
  subst h9
  exact W.zret (v := y0) hx hb hr (by rcases hc1 with z | z <;> rw [z] <;> rfl) (fun t ht hW => ⟨⟨_, (), rfl, rfl, ⟨by rw [ht]; exact hI, hKK.moved hW⟩⟩, hS.F ht⟩) hS.2.2 d_Ou_hasRoom_17
set_option maxRecDepth 100000 in
set_option maxHeartbeats 4000000 in
theorem t_Ou_hasRoom_16 {p : Program} {l : Launch} {e : Env} {s : State} {m : MethodId} {args : Array Value} {below : List Frame} {meth : Method} {c : Code} {D : va_G} {A : Nat → Prop} {g : Nat → ClassId} {rest : va_W} {a0 : Nat → Nat} {ls : Array Slot} {H : Heap} {locs : List Loc} {s0 : S_Ou} {out : Int32} (X : Cx p s m args meth c prog_6_method_3_code 2 ws_Ou_hasRoom R_Ou (some .boolean) D g) (hl : lv_has ls 2 []) (hI : Iw D A (w_Ou g a0 s0 ++ (rest)) H) (hS : va_S A s.heap H locs) (h : B_Ou_hasRoom_16  s0 = some out) : W p l e (headSpec ws_Ou_hasRoom { frames := 0, cells := 0, slots := 0, locals := 0 }).room s m args below meth c H locs 0 0 (MQ below (QcI D A g out (fun (_ : Unit) => w_Ou g a0 s0 ++ (rest))) args s 0 0 A) (F0 m 16 ls []) := by
  have X1 := X
  obtain ⟨hx, hb, hml, hown, hts, hr, hlocks, hKK⟩ := X1
  have ht : ∀ w ∈ TB, w.before args s = true := fun w h => hts w (List.mem_cons_of_mem _ h)
  have hK := hKK.1
  unfold B_Ou_hasRoom_16 at h
  refine lv_iconst (v := 0) hx hb d_Ou_hasRoom_16 (by decide) ?_
  exact t_Ou_hasRoom_17 X (lv_sub hl [] rfl) hI hS h
set_option maxRecDepth 100000 in
set_option maxHeartbeats 4000000 in
theorem t_Ou_hasRoom_12 {p : Program} {l : Launch} {e : Env} {s : State} {m : MethodId} {args : Array Value} {below : List Frame} {meth : Method} {c : Code} {D : va_G} {A : Nat → Prop} {g : Nat → ClassId} {rest : va_W} {a0 : Nat → Nat} {ls : Array Slot} {H : Heap} {locs : List Loc} {s0 : S_Ou} {out : Int32} (X : Cx p s m args meth c prog_6_method_3_code 2 ws_Ou_hasRoom R_Ou (some .boolean) D g) (hl : lv_has ls 2 []) (hI : Iw D A (w_Ou g a0 s0 ++ (rest)) H) (hS : va_S A s.heap H locs) (h : B_Ou_hasRoom_12  s0 = some out) : W p l e (headSpec ws_Ou_hasRoom { frames := 0, cells := 0, slots := 0, locals := 0 }).room s m args below meth c H locs 0 0 (MQ below (QcI D A g out (fun (_ : Unit) => w_Ou g a0 s0 ++ (rest))) args s 0 0 A) (F0 m 12 ls []) := by
  have X1 := X
  obtain ⟨hx, hb, hml, hown, hts, hr, hlocks, hKK⟩ := X1
  have ht : ∀ w ∈ TB, w.before args s = true := fun w h => hts w (List.mem_cons_of_mem _ h)
  have hK := hKK.1
  unfold B_Ou_hasRoom_12 at h
  refine lv_iconst (v := 1) hx hb d_Ou_hasRoom_12 (by decide) ?_
  refine lv_goto (tgt := 17) hx hb d_Ou_hasRoom_13 (by decide) ?_
  exact t_Ou_hasRoom_17 X (lv_sub hl [] rfl) hI hS h
set_option maxRecDepth 100000 in
set_option maxHeartbeats 4000000 in
theorem t_Ou_hasRoom_0 {p : Program} {l : Launch} {e : Env} {s : State} {m : MethodId} {args : Array Value} {below : List Frame} {meth : Method} {c : Code} {D : va_G} {A : Nat → Prop} {g : Nat → ClassId} {rest : va_W} {a0 : Nat → Nat} {ls : Array Slot} {H : Heap} {locs : List Loc} {s0 : S_Ou} {x1 : Int32} {out : Int32} (X : Cx p s m args meth c prog_6_method_3_code 2 ws_Ou_hasRoom R_Ou (some .boolean) D g) (hl : lv_has ls 2 [(0, .ref (a0 0)), (1, .int x1)]) (hI : Iw D A (w_Ou g a0 s0 ++ (rest)) H) (hS : va_S A s.heap H locs) (h : B_Ou_hasRoom_0  s0 x1 = some out) : W p l e (headSpec ws_Ou_hasRoom { frames := 0, cells := 0, slots := 0, locals := 0 }).room s m args below meth c H locs 0 0 (MQ below (QcI D A g out (fun (_ : Unit) => w_Ou g a0 s0 ++ (rest))) args s 0 0 A) (F0 m 0 ls []) := by
  have X1 := X
  obtain ⟨hx, hb, hml, hown, hts, hr, hlocks, hKK⟩ := X1
  have ht : ∀ w ∈ TB, w.before args s = true := fun w h => hts w (List.mem_cons_of_mem _ h)
  have hK := hKK.1
  unfold B_Ou_hasRoom_0 at h
  refine lv_iload_n hx hb d_Ou_hasRoom_0 rfl (lv_at hl 1 rfl) ?_
  refine lv_sipush (v := 900) hx hb d_Ou_hasRoom_1 (by decide) ?_
  refine lv_aload_n hx hb d_Ou_hasRoom_4 rfl (lv_at hl 0 rfl) ?_
  refine va_get (D := D) (ci := 4) (v := .int (Ou_count s0)) (C := R_Ou) (T := T_Ou) (N := 3) hx hb ht in_Ou hown hK hI.1 0 rfl rfl 2 (by decide) (ht _ m_48) (fun _ h9 => h9) rfl d_Ou_hasRoom_5 ?_
  refine lv_isub hx hb d_Ou_hasRoom_8 ?_
  refine lv_icmp_gt (tgt := 16) hx hb d_Ou_hasRoom_9 (by decide) (fun hc => ?_) (fun hc => ?_)
  · have h := it_t h hc
    exact t_Ou_hasRoom_16 X (lv_sub hl [] rfl) hI hS h
  · have h := it_f h hc
    exact t_Ou_hasRoom_12 X (lv_sub hl [] rfl) hI hS h
set_option maxRecDepth 100000 in
set_option maxHeartbeats 4000000 in
theorem c_Ou_hasRoom {l : Launch} {D : va_G} {A : Nat → Prop} {g : Nat → ClassId} {rest : va_W} {a0 : Nat → Nat} {s0 : S_Ou} {x1 : Int32} {out : Int32} (h : F_Ou_hasRoom s0 x1 = some out) : Met l y_Ou_hasRoom ws_Ou_hasRoom { frames := 0, cells := 0, slots := 0, locals := 0 } (PcW D A g [.ref (a0 0), .int x1] (w_Ou g a0 s0 ++ (rest))) (QcI D A g out (fun (_ : Unit) => w_Ou g a0 s0 ++ (rest))) 0 0 A := by
  refine Met.ofW (cc := prog_6_method_3_code) (maxL := 2) (ret := (some .boolean)) (by decide) rfl ?_
  intro p e s m args below meth c s₁ B hml hv
  obtain ⟨rfl, hI, hK⟩ := hv
  have hl := lv_entry [.ref (a0 0), .int x1] (n := 2) (Nat.le_of_ble_eq_true rfl)
  rw [lg_entry_eq]
  generalize (lg_sl [.ref (a0 0), .int x1] ++ List.replicate (2 - (lg_sl [.ref (a0 0), .int x1]).length) Slot.unset).toArray = ls at hl ⊢
  have hl : lv_has ls 2 [(0, .ref (a0 0)), (1, .int x1)] := hl
  exact t_Ou_hasRoom_0 ⟨B.exec, B.bytes, hml, findClass_of_methodNamed B.named, atoms_spec (ws := ws_Ou_hasRoom) B.pre, B.returns, B.notSynchronized, hK⟩ (lv_sub hl [0, 1] rfl) hI va_S.rf h
def ws_Ou_push : List Cond := .code y_Ou_push prog_6_method_4_code 2 none :: TB
def B_Ou_push_39 (s0 : S_Ou) : Option S_Ou :=
  some s0
def B_Ou_push_10 (s0 : S_Ou) (x1 : Int32) : Option S_Ou :=
  (if ((((Ou_first s0) + (Ou_count s0)) - ((Ou_first s0) + (Ou_count s0)) / (900 : Int32) * (900 : Int32)) < 0 ∨ 900 ≤ (((Ou_first s0) + (Ou_count s0)) - ((Ou_first s0) + (Ou_count s0)) / (900 : Int32) * (900 : Int32)).toNatClampNeg) then none else (B_Ou_push_39 (Ou_set_count (Ou_set_values s0 (upd (Ou_values s0) (((Ou_first s0) + (Ou_count s0)) - ((Ou_first s0) + (Ou_count s0)) / (900 : Int32) * (900 : Int32)).toNatClampNeg x1)) ((Ou_count (Ou_set_values s0 (upd (Ou_values s0) (((Ou_first s0) + (Ou_count s0)) - ((Ou_first s0) + (Ou_count s0)) / (900 : Int32) * (900 : Int32)).toNatClampNeg x1))) + (1 : Int32)))))
def B_Ou_push_0 (s0 : S_Ou) (x1 : Int32) : Option S_Ou :=
  (if (900 : Int32) ≤ (Ou_count s0) then (B_Ou_push_39 s0) else (B_Ou_push_10 s0 x1))
def F_Ou_push (s0 : S_Ou) (x1 : Int32) : Option S_Ou := B_Ou_push_0 s0 x1
set_option maxRecDepth 100000 in
set_option maxHeartbeats 4000000 in
theorem t_Ou_push_39 {p : Program} {l : Launch} {e : Env} {s : State} {m : MethodId} {args : Array Value} {below : List Frame} {meth : Method} {c : Code} {D : va_G} {A : Nat → Prop} {g : Nat → ClassId} {rest : va_W} {a0 : Nat → Nat} {ls : Array Slot} {H : Heap} {locs : List Loc} {s0 : S_Ou} {out : S_Ou} (X : Cx p s m args meth c prog_6_method_4_code 2 ws_Ou_push R_Ou none D g) (hl : lv_has ls 2 []) (hI : Iw D A (w_Ou g a0 s0 ++ (rest)) H) (hS : va_S A s.heap H locs) (h : B_Ou_push_39  s0 = some out) : W p l e (headSpec ws_Ou_push { frames := 0, cells := 0, slots := 0, locals := 0 }).room s m args below meth c H locs 0 0 (MQ below (QcV D A g (fun (_ : Unit) => w_Ou g a0 out ++ (rest))) args s 0 0 A) (F0 m 39 ls []) := by
  have X1 := X
  obtain ⟨hx, hb, hml, hown, hts, hr, hlocks, hKK⟩ := X1
  have ht : ∀ w ∈ TB, w.before args s = true := fun w h => hts w (List.mem_cons_of_mem _ h)
  have hK := hKK.1
  unfold B_Ou_push_39 at h
  have h9 := Option.some.inj h
  subst h9
  exact W.vret hx hb hr (fun t ht hW => ⟨⟨(), rfl, trivial, ⟨by rw [ht]; exact hI, hKK.moved hW⟩⟩, hS.F ht⟩) hS.2.2 d_Ou_push_39
set_option maxRecDepth 100000 in
set_option maxHeartbeats 4000000 in
theorem t_Ou_push_10 {p : Program} {l : Launch} {e : Env} {s : State} {m : MethodId} {args : Array Value} {below : List Frame} {meth : Method} {c : Code} {D : va_G} {A : Nat → Prop} {g : Nat → ClassId} {rest : va_W} {a0 : Nat → Nat} {ls : Array Slot} {H : Heap} {locs : List Loc} {s0 : S_Ou} {x1 : Int32} {out : S_Ou} (X : Cx p s m args meth c prog_6_method_4_code 2 ws_Ou_push R_Ou none D g) (hl : lv_has ls 2 [(0, .ref (a0 0)), (1, .int x1)]) (hI : Iw D A (w_Ou g a0 s0 ++ (rest)) H) (hS : va_S A s.heap H locs) (h : B_Ou_push_10  s0 x1 = some out) : W p l e (headSpec ws_Ou_push { frames := 0, cells := 0, slots := 0, locals := 0 }).room s m args below meth c H locs 0 0 (MQ below (QcV D A g (fun (_ : Unit) => w_Ou g a0 out ++ (rest))) args s 0 0 A) (F0 m 10 ls []) := by
  have X1 := X
  obtain ⟨hx, hb, hml, hown, hts, hr, hlocks, hKK⟩ := X1
  have ht : ∀ w ∈ TB, w.before args s = true := fun w h => hts w (List.mem_cons_of_mem _ h)
  have hK := hKK.1
  unfold B_Ou_push_10 at h
  refine lv_aload_n hx hb d_Ou_push_10 rfl (lv_at hl 0 rfl) ?_
  refine va_get (D := D) (ci := 4) (v := .ref (a0 1)) (C := R_Ou) (T := T_Ou) (N := 3) hx hb ht in_Ou hown hK hI.1 0 rfl rfl 0 (by decide) (ht _ m_46) (fun _ h9 => h9) rfl d_Ou_push_11 ?_
  refine lv_aload_n hx hb d_Ou_push_14 rfl (lv_at hl 0 rfl) ?_
  refine va_get (D := D) (ci := 4) (v := .int (Ou_first s0)) (C := R_Ou) (T := T_Ou) (N := 3) hx hb ht in_Ou hown hK hI.1 0 rfl rfl 1 (by decide) (ht _ m_47) (fun _ h9 => h9) rfl d_Ou_push_15 ?_
  refine lv_aload_n hx hb d_Ou_push_18 rfl (lv_at hl 0 rfl) ?_
  refine va_get (D := D) (ci := 4) (v := .int (Ou_count s0)) (C := R_Ou) (T := T_Ou) (N := 3) hx hb ht in_Ou hown hK hI.1 0 rfl rfl 2 (by decide) (ht _ m_48) (fun _ h9 => h9) rfl d_Ou_push_19 ?_
  refine lv_iadd hx hb d_Ou_push_22 ?_
  refine lv_sipush (v := 900) hx hb d_Ou_push_23 (by decide) ?_
  refine lv_irem hx hb d_Ou_push_26 (by decide) ?_
  refine lv_iload_n hx hb d_Ou_push_27 rfl (lv_at hl 1 rfl) ?_
  by_cases hc1 : ((((Ou_first s0) + (Ou_count s0)) - ((Ou_first s0) + (Ou_count s0)) / (900 : Int32) * (900 : Int32)) < 0 ∨ 900 ≤ (((Ou_first s0) + (Ou_count s0)) - ((Ou_first s0) + (Ou_count s0)) / (900 : Int32) * (900 : Int32)).toNatClampNeg)
  · exact no_s (it_t h hc1)
  have h := it_f h hc1
  refine va_iast hx hb hK hI.1 hI.2 hS 1 0 rfl rfl hc1 d_Ou_push_28 (fun H locs hP hD hS => ?_)
  have hI : Iw D A (w_Ou g a0 (Ou_set_values s0 (upd (Ou_values s0) (((Ou_first s0) + (Ou_count s0)) - ((Ou_first s0) + (Ou_count s0)) / (900 : Int32) * (900 : Int32)).toNatClampNeg x1)) ++ (rest)) H := ⟨hP, hD⟩
  refine lv_aload_n hx hb d_Ou_push_29 rfl (lv_at hl 0 rfl) ?_
  refine lv_dup hx hb d_Ou_push_30 rfl ?_
  refine va_get (D := D) (ci := 4) (v := .int (Ou_count (Ou_set_values s0 (upd (Ou_values s0) (((Ou_first s0) + (Ou_count s0)) - ((Ou_first s0) + (Ou_count s0)) / (900 : Int32) * (900 : Int32)).toNatClampNeg x1)))) (C := R_Ou) (T := T_Ou) (N := 3) hx hb ht in_Ou hown hK hI.1 0 rfl rfl 2 (by decide) (ht _ m_48) (fun _ h9 => h9) rfl d_Ou_push_31 ?_
  refine lv_iconst (v := 1) hx hb d_Ou_push_34 (by decide) ?_
  refine lv_iadd hx hb d_Ou_push_35 ?_
  refine va_put (D := D) (ci := 4) (v := .int ((Ou_count (Ou_set_values s0 (upd (Ou_values s0) (((Ou_first s0) + (Ou_count s0)) - ((Ou_first s0) + (Ou_count s0)) / (900 : Int32) * (900 : Int32)).toNatClampNeg x1))) + (1 : Int32))) (ty := .int) (C := R_Ou) (T := T_Ou) (N := 3) hx hb ht in_Ou ty_Ou tyok_Ou nm_Ou hown hK hI.1 hI.2 hS 0 rfl rfl 2 (by decide) (ht _ m_48) (fun _ h9 => h9) rfl (by decide +kernel) rfl rfl (Nat.le_of_ble_eq_true rfl) d_Ou_push_36 (fun H locs hP hD hS => ?_)
  have hI : Iw D A (w_Ou g a0 (Ou_set_count (Ou_set_values s0 (upd (Ou_values s0) (((Ou_first s0) + (Ou_count s0)) - ((Ou_first s0) + (Ou_count s0)) / (900 : Int32) * (900 : Int32)).toNatClampNeg x1)) ((Ou_count (Ou_set_values s0 (upd (Ou_values s0) (((Ou_first s0) + (Ou_count s0)) - ((Ou_first s0) + (Ou_count s0)) / (900 : Int32) * (900 : Int32)).toNatClampNeg x1))) + (1 : Int32))) ++ (rest)) H := ⟨hP, hD⟩
  exact t_Ou_push_39 X (lv_sub hl [] rfl) hI hS h
set_option maxRecDepth 100000 in
set_option maxHeartbeats 4000000 in
theorem t_Ou_push_0 {p : Program} {l : Launch} {e : Env} {s : State} {m : MethodId} {args : Array Value} {below : List Frame} {meth : Method} {c : Code} {D : va_G} {A : Nat → Prop} {g : Nat → ClassId} {rest : va_W} {a0 : Nat → Nat} {ls : Array Slot} {H : Heap} {locs : List Loc} {s0 : S_Ou} {x1 : Int32} {out : S_Ou} (X : Cx p s m args meth c prog_6_method_4_code 2 ws_Ou_push R_Ou none D g) (hl : lv_has ls 2 [(0, .ref (a0 0)), (1, .int x1)]) (hI : Iw D A (w_Ou g a0 s0 ++ (rest)) H) (hS : va_S A s.heap H locs) (h : B_Ou_push_0  s0 x1 = some out) : W p l e (headSpec ws_Ou_push { frames := 0, cells := 0, slots := 0, locals := 0 }).room s m args below meth c H locs 0 0 (MQ below (QcV D A g (fun (_ : Unit) => w_Ou g a0 out ++ (rest))) args s 0 0 A) (F0 m 0 ls []) := by
  have X1 := X
  obtain ⟨hx, hb, hml, hown, hts, hr, hlocks, hKK⟩ := X1
  have ht : ∀ w ∈ TB, w.before args s = true := fun w h => hts w (List.mem_cons_of_mem _ h)
  have hK := hKK.1
  unfold B_Ou_push_0 at h
  refine lv_aload_n hx hb d_Ou_push_0 rfl (lv_at hl 0 rfl) ?_
  refine va_get (D := D) (ci := 4) (v := .int (Ou_count s0)) (C := R_Ou) (T := T_Ou) (N := 3) hx hb ht in_Ou hown hK hI.1 0 rfl rfl 2 (by decide) (ht _ m_48) (fun _ h9 => h9) rfl d_Ou_push_1 ?_
  refine lv_sipush (v := 900) hx hb d_Ou_push_4 (by decide) ?_
  refine lv_icmp_ge (tgt := 39) hx hb d_Ou_push_7 (by decide) (fun hc => ?_) (fun hc => ?_)
  · have h := it_t h hc
    exact t_Ou_push_39 X (lv_sub hl [] rfl) hI hS h
  · have h := it_f h hc
    exact t_Ou_push_10 X (lv_sub hl [0, 1] rfl) hI hS h
set_option maxRecDepth 100000 in
set_option maxHeartbeats 4000000 in
theorem c_Ou_push {l : Launch} {D : va_G} {A : Nat → Prop} {g : Nat → ClassId} {rest : va_W} {a0 : Nat → Nat} {s0 : S_Ou} {x1 : Int32} {out : S_Ou} (h : F_Ou_push s0 x1 = some out) : Met l y_Ou_push ws_Ou_push { frames := 0, cells := 0, slots := 0, locals := 0 } (PcW D A g [.ref (a0 0), .int x1] (w_Ou g a0 s0 ++ (rest))) (QcV D A g (fun (_ : Unit) => w_Ou g a0 out ++ (rest))) 0 0 A := by
  refine Met.ofW (cc := prog_6_method_4_code) (maxL := 2) (ret := none) (by decide) rfl ?_
  intro p e s m args below meth c s₁ B hml hv
  obtain ⟨rfl, hI, hK⟩ := hv
  have hl := lv_entry [.ref (a0 0), .int x1] (n := 2) (Nat.le_of_ble_eq_true rfl)
  rw [lg_entry_eq]
  generalize (lg_sl [.ref (a0 0), .int x1] ++ List.replicate (2 - (lg_sl [.ref (a0 0), .int x1]).length) Slot.unset).toArray = ls at hl ⊢
  have hl : lv_has ls 2 [(0, .ref (a0 0)), (1, .int x1)] := hl
  exact t_Ou_push_0 ⟨B.exec, B.bytes, hml, findClass_of_methodNamed B.named, atoms_spec (ws := ws_Ou_push) B.pre, B.returns, B.notSynchronized, hK⟩ (lv_sub hl [0, 1] rfl) hI va_S.rf h
def ws_Ou_count : List Cond := .code y_Ou_count prog_6_method_2_code 1 (some .int) :: TB
def B_Ou_count_0 (s0 : S_Ou) : Option Int32 :=
  some (Ou_count s0)
def F_Ou_count (s0 : S_Ou) : Option Int32 := B_Ou_count_0 s0
set_option maxRecDepth 100000 in
set_option maxHeartbeats 4000000 in
theorem t_Ou_count_0 {p : Program} {l : Launch} {e : Env} {s : State} {m : MethodId} {args : Array Value} {below : List Frame} {meth : Method} {c : Code} {D : va_G} {A : Nat → Prop} {g : Nat → ClassId} {rest : va_W} {a0 : Nat → Nat} {ls : Array Slot} {H : Heap} {locs : List Loc} {s0 : S_Ou} {out : Int32} (X : Cx p s m args meth c prog_6_method_2_code 1 ws_Ou_count R_Ou (some .int) D g) (hl : lv_has ls 1 [(0, .ref (a0 0))]) (hI : Iw D A (w_Ou g a0 s0 ++ (rest)) H) (hS : va_S A s.heap H locs) (h : B_Ou_count_0  s0 = some out) : W p l e (headSpec ws_Ou_count { frames := 0, cells := 0, slots := 0, locals := 0 }).room s m args below meth c H locs 0 0 (MQ below (QcI D A g out (fun (_ : Unit) => w_Ou g a0 s0 ++ (rest))) args s 0 0 A) (F0 m 0 ls []) := by
  have X1 := X
  obtain ⟨hx, hb, hml, hown, hts, hr, hlocks, hKK⟩ := X1
  have ht : ∀ w ∈ TB, w.before args s = true := fun w h => hts w (List.mem_cons_of_mem _ h)
  have hK := hKK.1
  unfold B_Ou_count_0 at h
  refine lv_aload_n hx hb d_Ou_count_0 rfl (lv_at hl 0 rfl) ?_
  refine va_get (D := D) (ci := 4) (v := .int (Ou_count s0)) (C := R_Ou) (T := T_Ou) (N := 3) hx hb ht in_Ou hown hK hI.1 0 rfl rfl 2 (by decide) (ht _ m_48) (fun _ h9 => h9) rfl d_Ou_count_1 ?_
  have h9 := Option.some.inj h
  subst h9
  exact W.iret (v := (Ou_count s0)) hx hb hr (fun t ht hW => ⟨⟨_, (), rfl, rfl, ⟨by rw [ht]; exact hI, hKK.moved hW⟩⟩, hS.F ht⟩) hS.2.2 d_Ou_count_4
set_option maxRecDepth 100000 in
set_option maxHeartbeats 4000000 in
theorem c_Ou_count {l : Launch} {D : va_G} {A : Nat → Prop} {g : Nat → ClassId} {rest : va_W} {a0 : Nat → Nat} {s0 : S_Ou} {out : Int32} (h : F_Ou_count s0 = some out) : Met l y_Ou_count ws_Ou_count { frames := 0, cells := 0, slots := 0, locals := 0 } (PcW D A g [.ref (a0 0)] (w_Ou g a0 s0 ++ (rest))) (QcI D A g out (fun (_ : Unit) => w_Ou g a0 s0 ++ (rest))) 0 0 A := by
  refine Met.ofW (cc := prog_6_method_2_code) (maxL := 1) (ret := (some .int)) (by decide) rfl ?_
  intro p e s m args below meth c s₁ B hml hv
  obtain ⟨rfl, hI, hK⟩ := hv
  have hl := lv_entry [.ref (a0 0)] (n := 1) (Nat.le_of_ble_eq_true rfl)
  rw [lg_entry_eq]
  generalize (lg_sl [.ref (a0 0)] ++ List.replicate (1 - (lg_sl [.ref (a0 0)]).length) Slot.unset).toArray = ls at hl ⊢
  have hl : lv_has ls 1 [(0, .ref (a0 0))] := hl
  exact t_Ou_count_0 ⟨B.exec, B.bytes, hml, findClass_of_methodNamed B.named, atoms_spec (ws := ws_Ou_count) B.pre, B.returns, B.notSynchronized, hK⟩ (lv_sub hl [0] rfl) hI va_S.rf h
def ws_Ou_pull : List Cond := .code y_Ou_pull prog_6_method_5_code 2 (some .int) :: TB
def B_Ou_pull_9 (s0 : S_Ou) : Option (Int32 × S_Ou) :=
  (if ((Ou_first s0) < 0 ∨ 900 ≤ (Ou_first s0).toNatClampNeg) then none else some (((Ou_values s0) (Ou_first s0).toNatClampNeg), (Ou_set_count (Ou_set_first s0 (((Ou_first s0) + (1 : Int32)) - ((Ou_first s0) + (1 : Int32)) / (900 : Int32) * (900 : Int32))) ((Ou_count (Ou_set_first s0 (((Ou_first s0) + (1 : Int32)) - ((Ou_first s0) + (1 : Int32)) / (900 : Int32) * (900 : Int32)))) - (1 : Int32)))))
def B_Ou_pull_7 (s0 : S_Ou) : Option (Int32 × S_Ou) :=
  some (((-1) : Int32), s0)
def B_Ou_pull_0 (s0 : S_Ou) : Option (Int32 × S_Ou) :=
  (if (Ou_count s0) = 0 then (B_Ou_pull_7 s0) else (B_Ou_pull_9 s0))
def F_Ou_pull (s0 : S_Ou) : Option (Int32 × S_Ou) := B_Ou_pull_0 s0
set_option maxRecDepth 100000 in
set_option maxHeartbeats 4000000 in
theorem t_Ou_pull_9 {p : Program} {l : Launch} {e : Env} {s : State} {m : MethodId} {args : Array Value} {below : List Frame} {meth : Method} {c : Code} {D : va_G} {A : Nat → Prop} {g : Nat → ClassId} {rest : va_W} {a0 : Nat → Nat} {ls : Array Slot} {H : Heap} {locs : List Loc} {s0 : S_Ou} {out : Int32 × S_Ou} (X : Cx p s m args meth c prog_6_method_5_code 2 ws_Ou_pull R_Ou (some .int) D g) (hl : lv_has ls 2 [(0, .ref (a0 0))]) (hI : Iw D A (w_Ou g a0 s0 ++ (rest)) H) (hS : va_S A s.heap H locs) (h : B_Ou_pull_9  s0 = some out) : W p l e (headSpec ws_Ou_pull { frames := 0, cells := 0, slots := 0, locals := 0 }).room s m args below meth c H locs 0 0 (MQ below (QcI D A g out.1 (fun (_ : Unit) => w_Ou g a0 out.2 ++ (rest))) args s 0 0 A) (F0 m 9 ls []) := by
  have X1 := X
  obtain ⟨hx, hb, hml, hown, hts, hr, hlocks, hKK⟩ := X1
  have ht : ∀ w ∈ TB, w.before args s = true := fun w h => hts w (List.mem_cons_of_mem _ h)
  have hK := hKK.1
  unfold B_Ou_pull_9 at h
  refine lv_aload_n hx hb d_Ou_pull_9 rfl (lv_at hl 0 rfl) ?_
  refine va_get (D := D) (ci := 4) (v := .ref (a0 1)) (C := R_Ou) (T := T_Ou) (N := 3) hx hb ht in_Ou hown hK hI.1 0 rfl rfl 0 (by decide) (ht _ m_46) (fun _ h9 => h9) rfl d_Ou_pull_10 ?_
  refine lv_aload_n hx hb d_Ou_pull_13 rfl (lv_at hl 0 rfl) ?_
  refine va_get (D := D) (ci := 4) (v := .int (Ou_first s0)) (C := R_Ou) (T := T_Ou) (N := 3) hx hb ht in_Ou hown hK hI.1 0 rfl rfl 1 (by decide) (ht _ m_47) (fun _ h9 => h9) rfl d_Ou_pull_14 ?_
  by_cases hc1 : ((Ou_first s0) < 0 ∨ 900 ≤ (Ou_first s0).toNatClampNeg)
  · exact no_s (it_t h hc1)
  have h := it_f h hc1
  refine va_iald hx hb hK hI.1 1 0 rfl rfl hc1 d_Ou_pull_17 ?_
  refine lv_istore_n hx hb d_Ou_pull_18 rfl hl (Nat.le_of_ble_eq_true rfl) rfl (fun ls hl => ?_)
  have hl : lv_has ls 2 [(1, .int ((Ou_values s0) (Ou_first s0).toNatClampNeg)), (0, .ref (a0 0))] := hl
  refine lv_aload_n hx hb d_Ou_pull_19 rfl (lv_at hl 1 rfl) ?_
  refine lv_aload_n hx hb d_Ou_pull_20 rfl (lv_at hl 1 rfl) ?_
  refine va_get (D := D) (ci := 4) (v := .int (Ou_first s0)) (C := R_Ou) (T := T_Ou) (N := 3) hx hb ht in_Ou hown hK hI.1 0 rfl rfl 1 (by decide) (ht _ m_47) (fun _ h9 => h9) rfl d_Ou_pull_21 ?_
  refine lv_iconst (v := 1) hx hb d_Ou_pull_24 (by decide) ?_
  refine lv_iadd hx hb d_Ou_pull_25 ?_
  refine lv_sipush (v := 900) hx hb d_Ou_pull_26 (by decide) ?_
  refine lv_irem hx hb d_Ou_pull_29 (by decide) ?_
  refine va_put (D := D) (ci := 4) (v := .int (((Ou_first s0) + (1 : Int32)) - ((Ou_first s0) + (1 : Int32)) / (900 : Int32) * (900 : Int32))) (ty := .int) (C := R_Ou) (T := T_Ou) (N := 3) hx hb ht in_Ou ty_Ou tyok_Ou nm_Ou hown hK hI.1 hI.2 hS 0 rfl rfl 1 (by decide) (ht _ m_47) (fun _ h9 => h9) rfl (by decide +kernel) rfl rfl (Nat.le_of_ble_eq_true rfl) d_Ou_pull_30 (fun H locs hP hD hS => ?_)
  have hI : Iw D A (w_Ou g a0 (Ou_set_first s0 (((Ou_first s0) + (1 : Int32)) - ((Ou_first s0) + (1 : Int32)) / (900 : Int32) * (900 : Int32))) ++ (rest)) H := ⟨hP, hD⟩
  refine lv_aload_n hx hb d_Ou_pull_33 rfl (lv_at hl 1 rfl) ?_
  refine lv_dup hx hb d_Ou_pull_34 rfl ?_
  refine va_get (D := D) (ci := 4) (v := .int (Ou_count (Ou_set_first s0 (((Ou_first s0) + (1 : Int32)) - ((Ou_first s0) + (1 : Int32)) / (900 : Int32) * (900 : Int32))))) (C := R_Ou) (T := T_Ou) (N := 3) hx hb ht in_Ou hown hK hI.1 0 rfl rfl 2 (by decide) (ht _ m_48) (fun _ h9 => h9) rfl d_Ou_pull_35 ?_
  refine lv_iconst (v := 1) hx hb d_Ou_pull_38 (by decide) ?_
  refine lv_isub hx hb d_Ou_pull_39 ?_
  refine va_put (D := D) (ci := 4) (v := .int ((Ou_count (Ou_set_first s0 (((Ou_first s0) + (1 : Int32)) - ((Ou_first s0) + (1 : Int32)) / (900 : Int32) * (900 : Int32)))) - (1 : Int32))) (ty := .int) (C := R_Ou) (T := T_Ou) (N := 3) hx hb ht in_Ou ty_Ou tyok_Ou nm_Ou hown hK hI.1 hI.2 hS 0 rfl rfl 2 (by decide) (ht _ m_48) (fun _ h9 => h9) rfl (by decide +kernel) rfl rfl (Nat.le_of_ble_eq_true rfl) d_Ou_pull_40 (fun H locs hP hD hS => ?_)
  have hI : Iw D A (w_Ou g a0 (Ou_set_count (Ou_set_first s0 (((Ou_first s0) + (1 : Int32)) - ((Ou_first s0) + (1 : Int32)) / (900 : Int32) * (900 : Int32))) ((Ou_count (Ou_set_first s0 (((Ou_first s0) + (1 : Int32)) - ((Ou_first s0) + (1 : Int32)) / (900 : Int32) * (900 : Int32)))) - (1 : Int32))) ++ (rest)) H := ⟨hP, hD⟩
  refine lv_iload_n hx hb d_Ou_pull_43 rfl (lv_at hl 0 rfl) ?_
  have h9 := Option.some.inj h
  subst h9
  exact W.iret (v := ((Ou_values s0) (Ou_first s0).toNatClampNeg)) hx hb hr (fun t ht hW => ⟨⟨_, (), rfl, rfl, ⟨by rw [ht]; exact hI, hKK.moved hW⟩⟩, hS.F ht⟩) hS.2.2 d_Ou_pull_44
set_option maxRecDepth 100000 in
set_option maxHeartbeats 4000000 in
theorem t_Ou_pull_7 {p : Program} {l : Launch} {e : Env} {s : State} {m : MethodId} {args : Array Value} {below : List Frame} {meth : Method} {c : Code} {D : va_G} {A : Nat → Prop} {g : Nat → ClassId} {rest : va_W} {a0 : Nat → Nat} {ls : Array Slot} {H : Heap} {locs : List Loc} {s0 : S_Ou} {out : Int32 × S_Ou} (X : Cx p s m args meth c prog_6_method_5_code 2 ws_Ou_pull R_Ou (some .int) D g) (hl : lv_has ls 2 []) (hI : Iw D A (w_Ou g a0 s0 ++ (rest)) H) (hS : va_S A s.heap H locs) (h : B_Ou_pull_7  s0 = some out) : W p l e (headSpec ws_Ou_pull { frames := 0, cells := 0, slots := 0, locals := 0 }).room s m args below meth c H locs 0 0 (MQ below (QcI D A g out.1 (fun (_ : Unit) => w_Ou g a0 out.2 ++ (rest))) args s 0 0 A) (F0 m 7 ls []) := by
  have X1 := X
  obtain ⟨hx, hb, hml, hown, hts, hr, hlocks, hKK⟩ := X1
  have ht : ∀ w ∈ TB, w.before args s = true := fun w h => hts w (List.mem_cons_of_mem _ h)
  have hK := hKK.1
  unfold B_Ou_pull_7 at h
  refine lv_iconst (v := (-1)) hx hb d_Ou_pull_7 (by decide) ?_
  have h9 := Option.some.inj h
  subst h9
  exact W.iret (v := ((-1) : Int32)) hx hb hr (fun t ht hW => ⟨⟨_, (), rfl, rfl, ⟨by rw [ht]; exact hI, hKK.moved hW⟩⟩, hS.F ht⟩) hS.2.2 d_Ou_pull_8
set_option maxRecDepth 100000 in
set_option maxHeartbeats 4000000 in
theorem t_Ou_pull_0 {p : Program} {l : Launch} {e : Env} {s : State} {m : MethodId} {args : Array Value} {below : List Frame} {meth : Method} {c : Code} {D : va_G} {A : Nat → Prop} {g : Nat → ClassId} {rest : va_W} {a0 : Nat → Nat} {ls : Array Slot} {H : Heap} {locs : List Loc} {s0 : S_Ou} {out : Int32 × S_Ou} (X : Cx p s m args meth c prog_6_method_5_code 2 ws_Ou_pull R_Ou (some .int) D g) (hl : lv_has ls 2 [(0, .ref (a0 0))]) (hI : Iw D A (w_Ou g a0 s0 ++ (rest)) H) (hS : va_S A s.heap H locs) (h : B_Ou_pull_0  s0 = some out) : W p l e (headSpec ws_Ou_pull { frames := 0, cells := 0, slots := 0, locals := 0 }).room s m args below meth c H locs 0 0 (MQ below (QcI D A g out.1 (fun (_ : Unit) => w_Ou g a0 out.2 ++ (rest))) args s 0 0 A) (F0 m 0 ls []) := by
  have X1 := X
  obtain ⟨hx, hb, hml, hown, hts, hr, hlocks, hKK⟩ := X1
  have ht : ∀ w ∈ TB, w.before args s = true := fun w h => hts w (List.mem_cons_of_mem _ h)
  have hK := hKK.1
  unfold B_Ou_pull_0 at h
  refine lv_aload_n hx hb d_Ou_pull_0 rfl (lv_at hl 0 rfl) ?_
  refine va_get (D := D) (ci := 4) (v := .int (Ou_count s0)) (C := R_Ou) (T := T_Ou) (N := 3) hx hb ht in_Ou hown hK hI.1 0 rfl rfl 2 (by decide) (ht _ m_48) (fun _ h9 => h9) rfl d_Ou_pull_1 ?_
  refine lv_if_ne (tgt := 9) hx hb d_Ou_pull_4 (by decide) (fun hc => ?_) (fun hc => ?_)
  · have h := it_f h hc
    exact t_Ou_pull_9 X (lv_sub hl [0] rfl) hI hS h
  · have h := it_t h hc
    exact t_Ou_pull_7 X (lv_sub hl [] rfl) hI hS h
set_option maxRecDepth 100000 in
set_option maxHeartbeats 4000000 in
theorem c_Ou_pull {l : Launch} {D : va_G} {A : Nat → Prop} {g : Nat → ClassId} {rest : va_W} {a0 : Nat → Nat} {s0 : S_Ou} {out : Int32 × S_Ou} (h : F_Ou_pull s0 = some out) : Met l y_Ou_pull ws_Ou_pull { frames := 0, cells := 0, slots := 0, locals := 0 } (PcW D A g [.ref (a0 0)] (w_Ou g a0 s0 ++ (rest))) (QcI D A g out.1 (fun (_ : Unit) => w_Ou g a0 out.2 ++ (rest))) 0 0 A := by
  refine Met.ofW (cc := prog_6_method_5_code) (maxL := 2) (ret := (some .int)) (by decide) rfl ?_
  intro p e s m args below meth c s₁ B hml hv
  obtain ⟨rfl, hI, hK⟩ := hv
  have hl := lv_entry [.ref (a0 0)] (n := 2) (Nat.le_of_ble_eq_true rfl)
  rw [lg_entry_eq]
  generalize (lg_sl [.ref (a0 0)] ++ List.replicate (2 - (lg_sl [.ref (a0 0)]).length) Slot.unset).toArray = ls at hl ⊢
  have hl : lv_has ls 2 [(0, .ref (a0 0))] := hl
  exact t_Ou_pull_0 ⟨B.exec, B.bytes, hml, findClass_of_methodNamed B.named, atoms_spec (ws := ws_Ou_pull) B.pre, B.returns, B.notSynchronized, hK⟩ (lv_sub hl [0] rfl) hI va_S.rf h
def ws_Mg_reset : List Cond := .code y_Mg_reset prog_5_method_2_code 1 none :: TB
def B_Mg_reset_0 (s0 : S_Mg) : Option S_Mg :=
  some (Mg_set_hasSet (Mg_set_context (Mg_set_stage s0 (0 : Int32)) ((-1) : Int32)) (0 : Int32))
def F_Mg_reset (s0 : S_Mg) : Option S_Mg := B_Mg_reset_0 s0
set_option maxRecDepth 100000 in
set_option maxHeartbeats 4000000 in
theorem t_Mg_reset_0 {p : Program} {l : Launch} {e : Env} {s : State} {m : MethodId} {args : Array Value} {below : List Frame} {meth : Method} {c : Code} {D : va_G} {A : Nat → Prop} {g : Nat → ClassId} {rest : va_W} {a0 : Nat → Nat} {ls : Array Slot} {H : Heap} {locs : List Loc} {s0 : S_Mg} {out : S_Mg} (X : Cx p s m args meth c prog_5_method_2_code 1 ws_Mg_reset R_Mg none D g) (hl : lv_has ls 1 [(0, .ref (a0 0))]) (hI : Iw D A (w_Mg g a0 s0 ++ (rest)) H) (hS : va_S A s.heap H locs) (h : B_Mg_reset_0  s0 = some out) : W p l e (headSpec ws_Mg_reset { frames := 0, cells := 0, slots := 0, locals := 0 }).room s m args below meth c H locs 0 0 (MQ below (QcV D A g (fun (_ : Unit) => w_Mg g a0 out ++ (rest))) args s 0 0 A) (F0 m 0 ls []) := by
  have X1 := X
  obtain ⟨hx, hb, hml, hown, hts, hr, hlocks, hKK⟩ := X1
  have ht : ∀ w ∈ TB, w.before args s = true := fun w h => hts w (List.mem_cons_of_mem _ h)
  have hK := hKK.1
  unfold B_Mg_reset_0 at h
  refine lv_aload_n hx hb d_Mg_reset_0 rfl (lv_at hl 0 rfl) ?_
  refine lv_iconst (v := 0) hx hb d_Mg_reset_1 (by decide) ?_
  refine va_put (D := D) (ci := 3) (v := .int (0 : Int32)) (ty := .int) (C := R_Mg) (T := T_Mg) (N := 5) hx hb ht in_Mg ty_Mg tyok_Mg nm_Mg hown hK hI.1 hI.2 hS 0 rfl rfl 0 (by decide) (ht _ m_81) (fun _ h9 => h9) rfl (by decide +kernel) rfl rfl (Nat.le_of_ble_eq_true rfl) d_Mg_reset_2 (fun H locs hP hD hS => ?_)
  have hI : Iw D A (w_Mg g a0 (Mg_set_stage s0 (0 : Int32)) ++ (rest)) H := ⟨hP, hD⟩
  refine lv_aload_n hx hb d_Mg_reset_5 rfl (lv_at hl 0 rfl) ?_
  refine lv_iconst (v := (-1)) hx hb d_Mg_reset_6 (by decide) ?_
  refine va_put (D := D) (ci := 3) (v := .int ((-1) : Int32)) (ty := .int) (C := R_Mg) (T := T_Mg) (N := 5) hx hb ht in_Mg ty_Mg tyok_Mg nm_Mg hown hK hI.1 hI.2 hS 0 rfl rfl 1 (by decide) (ht _ m_82) (fun _ h9 => h9) rfl (by decide +kernel) rfl rfl (Nat.le_of_ble_eq_true rfl) d_Mg_reset_7 (fun H locs hP hD hS => ?_)
  have hI : Iw D A (w_Mg g a0 (Mg_set_context (Mg_set_stage s0 (0 : Int32)) ((-1) : Int32)) ++ (rest)) H := ⟨hP, hD⟩
  refine lv_aload_n hx hb d_Mg_reset_10 rfl (lv_at hl 0 rfl) ?_
  refine lv_iconst (v := 0) hx hb d_Mg_reset_11 (by decide) ?_
  refine va_put (D := D) (ci := 3) (v := .int (0 : Int32)) (ty := .boolean) (C := R_Mg) (T := T_Mg) (N := 5) hx hb ht in_Mg ty_Mg tyok_Mg nm_Mg hown hK hI.1 hI.2 hS 0 rfl rfl 4 (by decide) (ht _ m_85) (fun _ h9 => h9) rfl (by decide +kernel) rfl rfl (Nat.le_of_ble_eq_true rfl) d_Mg_reset_12 (fun H locs hP hD hS => ?_)
  have hI : Iw D A (w_Mg g a0 (Mg_set_hasSet (Mg_set_context (Mg_set_stage s0 (0 : Int32)) ((-1) : Int32)) (0 : Int32)) ++ (rest)) H := ⟨hP, hD⟩
  have h9 := Option.some.inj h
  subst h9
  exact W.vret hx hb hr (fun t ht hW => ⟨⟨(), rfl, trivial, ⟨by rw [ht]; exact hI, hKK.moved hW⟩⟩, hS.F ht⟩) hS.2.2 d_Mg_reset_15
set_option maxRecDepth 100000 in
set_option maxHeartbeats 4000000 in
theorem c_Mg_reset {l : Launch} {D : va_G} {A : Nat → Prop} {g : Nat → ClassId} {rest : va_W} {a0 : Nat → Nat} {s0 : S_Mg} {out : S_Mg} (h : F_Mg_reset s0 = some out) : Met l y_Mg_reset ws_Mg_reset { frames := 0, cells := 0, slots := 0, locals := 0 } (PcW D A g [.ref (a0 0)] (w_Mg g a0 s0 ++ (rest))) (QcV D A g (fun (_ : Unit) => w_Mg g a0 out ++ (rest))) 0 0 A := by
  refine Met.ofW (cc := prog_5_method_2_code) (maxL := 1) (ret := none) (by decide) rfl ?_
  intro p e s m args below meth c s₁ B hml hv
  obtain ⟨rfl, hI, hK⟩ := hv
  have hl := lv_entry [.ref (a0 0)] (n := 1) (Nat.le_of_ble_eq_true rfl)
  rw [lg_entry_eq]
  generalize (lg_sl [.ref (a0 0)] ++ List.replicate (1 - (lg_sl [.ref (a0 0)]).length) Slot.unset).toArray = ls at hl ⊢
  have hl : lv_has ls 1 [(0, .ref (a0 0))] := hl
  exact t_Mg_reset_0 ⟨B.exec, B.bytes, hml, findClass_of_methodNamed B.named, atoms_spec (ws := ws_Mg_reset) B.pre, B.returns, B.notSynchronized, hK⟩ (lv_sub hl [0] rfl) hI va_S.rf h
def ws_Mg_addFragment : List Cond := .code y_Mg_addFragment prog_5_method_11_code 3 none :: TB
def B_Mg_addFragment_26 (s0 : S_Mg) : Option S_Mg :=
  some s0
def B_Mg_addFragment_23 (s0 : S_Mg) (y0 : Int32) : Option S_Mg :=
  (B_Mg_addFragment_26 (Mg_set_stage s0 y0))
def B_Mg_addFragment_22 (s0 : S_Mg) : Option S_Mg :=
  (B_Mg_addFragment_23 s0 (1 : Int32))
def B_Mg_addFragment_18 (s0 : S_Mg) : Option S_Mg :=
  (B_Mg_addFragment_23 s0 (3 : Int32))
def B_Mg_addFragment_9 (s0 : S_Mg) : Option S_Mg :=
  (if (Mg_stage s0) = (2 : Int32) then (B_Mg_addFragment_18 s0) else (B_Mg_addFragment_22 s0))
def B_Mg_addFragment_0 (s0 : S_Mg) (x1 : Int32) (x2 : Int32) : Option S_Mg :=
  (if x2 = 0 then (B_Mg_addFragment_26 (Mg_set_context s0 x1)) else (B_Mg_addFragment_9 (Mg_set_context s0 x1)))
def F_Mg_addFragment (s0 : S_Mg) (x1 : Int32) (x2 : Int32) : Option S_Mg := B_Mg_addFragment_0 s0 x1 x2
set_option maxRecDepth 100000 in
set_option maxHeartbeats 4000000 in
theorem t_Mg_addFragment_26 {p : Program} {l : Launch} {e : Env} {s : State} {m : MethodId} {args : Array Value} {below : List Frame} {meth : Method} {c : Code} {D : va_G} {A : Nat → Prop} {g : Nat → ClassId} {rest : va_W} {a0 : Nat → Nat} {ls : Array Slot} {H : Heap} {locs : List Loc} {s0 : S_Mg} {out : S_Mg} (X : Cx p s m args meth c prog_5_method_11_code 3 ws_Mg_addFragment R_Mg none D g) (hl : lv_has ls 3 []) (hI : Iw D A (w_Mg g a0 s0 ++ (rest)) H) (hS : va_S A s.heap H locs) (h : B_Mg_addFragment_26  s0 = some out) : W p l e (headSpec ws_Mg_addFragment { frames := 0, cells := 0, slots := 0, locals := 0 }).room s m args below meth c H locs 0 0 (MQ below (QcV D A g (fun (_ : Unit) => w_Mg g a0 out ++ (rest))) args s 0 0 A) (F0 m 26 ls []) := by
  have X1 := X
  obtain ⟨hx, hb, hml, hown, hts, hr, hlocks, hKK⟩ := X1
  have ht : ∀ w ∈ TB, w.before args s = true := fun w h => hts w (List.mem_cons_of_mem _ h)
  have hK := hKK.1
  unfold B_Mg_addFragment_26 at h
  have h9 := Option.some.inj h
  subst h9
  exact W.vret hx hb hr (fun t ht hW => ⟨⟨(), rfl, trivial, ⟨by rw [ht]; exact hI, hKK.moved hW⟩⟩, hS.F ht⟩) hS.2.2 d_Mg_addFragment_26
set_option maxRecDepth 100000 in
set_option maxHeartbeats 4000000 in
theorem t_Mg_addFragment_23 {p : Program} {l : Launch} {e : Env} {s : State} {m : MethodId} {args : Array Value} {below : List Frame} {meth : Method} {c : Code} {D : va_G} {A : Nat → Prop} {g : Nat → ClassId} {rest : va_W} {a0 : Nat → Nat} {ls : Array Slot} {H : Heap} {locs : List Loc} {s0 : S_Mg} {y0 : Int32} {out : S_Mg} (X : Cx p s m args meth c prog_5_method_11_code 3 ws_Mg_addFragment R_Mg none D g) (hl : lv_has ls 3 []) (hI : Iw D A (w_Mg g a0 s0 ++ (rest)) H) (hS : va_S A s.heap H locs) (h : B_Mg_addFragment_23  s0 y0 = some out) : W p l e (headSpec ws_Mg_addFragment { frames := 0, cells := 0, slots := 0, locals := 0 }).room s m args below meth c H locs 0 0 (MQ below (QcV D A g (fun (_ : Unit) => w_Mg g a0 out ++ (rest))) args s 0 0 A) (F0 m 23 ls [.int y0, .ref (a0 0)]) := by
  have X1 := X
  obtain ⟨hx, hb, hml, hown, hts, hr, hlocks, hKK⟩ := X1
  have ht : ∀ w ∈ TB, w.before args s = true := fun w h => hts w (List.mem_cons_of_mem _ h)
  have hK := hKK.1
  unfold B_Mg_addFragment_23 at h
  refine va_put (D := D) (ci := 3) (v := .int y0) (ty := .int) (C := R_Mg) (T := T_Mg) (N := 5) hx hb ht in_Mg ty_Mg tyok_Mg nm_Mg hown hK hI.1 hI.2 hS 0 rfl rfl 0 (by decide) (ht _ m_81) (fun _ h9 => h9) rfl (by decide +kernel) rfl rfl (Nat.le_of_ble_eq_true rfl) d_Mg_addFragment_23 (fun H locs hP hD hS => ?_)
  have hI : Iw D A (w_Mg g a0 (Mg_set_stage s0 y0) ++ (rest)) H := ⟨hP, hD⟩
  exact t_Mg_addFragment_26 X (lv_sub hl [] rfl) hI hS h
set_option maxRecDepth 100000 in
set_option maxHeartbeats 4000000 in
theorem t_Mg_addFragment_22 {p : Program} {l : Launch} {e : Env} {s : State} {m : MethodId} {args : Array Value} {below : List Frame} {meth : Method} {c : Code} {D : va_G} {A : Nat → Prop} {g : Nat → ClassId} {rest : va_W} {a0 : Nat → Nat} {ls : Array Slot} {H : Heap} {locs : List Loc} {s0 : S_Mg} {out : S_Mg} (X : Cx p s m args meth c prog_5_method_11_code 3 ws_Mg_addFragment R_Mg none D g) (hl : lv_has ls 3 []) (hI : Iw D A (w_Mg g a0 s0 ++ (rest)) H) (hS : va_S A s.heap H locs) (h : B_Mg_addFragment_22  s0 = some out) : W p l e (headSpec ws_Mg_addFragment { frames := 0, cells := 0, slots := 0, locals := 0 }).room s m args below meth c H locs 0 0 (MQ below (QcV D A g (fun (_ : Unit) => w_Mg g a0 out ++ (rest))) args s 0 0 A) (F0 m 22 ls [.ref (a0 0)]) := by
  have X1 := X
  obtain ⟨hx, hb, hml, hown, hts, hr, hlocks, hKK⟩ := X1
  have ht : ∀ w ∈ TB, w.before args s = true := fun w h => hts w (List.mem_cons_of_mem _ h)
  have hK := hKK.1
  unfold B_Mg_addFragment_22 at h
  refine lv_iconst (v := 1) hx hb d_Mg_addFragment_22 (by decide) ?_
  exact t_Mg_addFragment_23 X (lv_sub hl [] rfl) hI hS h
set_option maxRecDepth 100000 in
set_option maxHeartbeats 4000000 in
theorem t_Mg_addFragment_18 {p : Program} {l : Launch} {e : Env} {s : State} {m : MethodId} {args : Array Value} {below : List Frame} {meth : Method} {c : Code} {D : va_G} {A : Nat → Prop} {g : Nat → ClassId} {rest : va_W} {a0 : Nat → Nat} {ls : Array Slot} {H : Heap} {locs : List Loc} {s0 : S_Mg} {out : S_Mg} (X : Cx p s m args meth c prog_5_method_11_code 3 ws_Mg_addFragment R_Mg none D g) (hl : lv_has ls 3 []) (hI : Iw D A (w_Mg g a0 s0 ++ (rest)) H) (hS : va_S A s.heap H locs) (h : B_Mg_addFragment_18  s0 = some out) : W p l e (headSpec ws_Mg_addFragment { frames := 0, cells := 0, slots := 0, locals := 0 }).room s m args below meth c H locs 0 0 (MQ below (QcV D A g (fun (_ : Unit) => w_Mg g a0 out ++ (rest))) args s 0 0 A) (F0 m 18 ls [.ref (a0 0)]) := by
  have X1 := X
  obtain ⟨hx, hb, hml, hown, hts, hr, hlocks, hKK⟩ := X1
  have ht : ∀ w ∈ TB, w.before args s = true := fun w h => hts w (List.mem_cons_of_mem _ h)
  have hK := hKK.1
  unfold B_Mg_addFragment_18 at h
  refine lv_iconst (v := 3) hx hb d_Mg_addFragment_18 (by decide) ?_
  refine lv_goto (tgt := 23) hx hb d_Mg_addFragment_19 (by decide) ?_
  exact t_Mg_addFragment_23 X (lv_sub hl [] rfl) hI hS h
set_option maxRecDepth 100000 in
set_option maxHeartbeats 4000000 in
theorem t_Mg_addFragment_9 {p : Program} {l : Launch} {e : Env} {s : State} {m : MethodId} {args : Array Value} {below : List Frame} {meth : Method} {c : Code} {D : va_G} {A : Nat → Prop} {g : Nat → ClassId} {rest : va_W} {a0 : Nat → Nat} {ls : Array Slot} {H : Heap} {locs : List Loc} {s0 : S_Mg} {out : S_Mg} (X : Cx p s m args meth c prog_5_method_11_code 3 ws_Mg_addFragment R_Mg none D g) (hl : lv_has ls 3 [(0, .ref (a0 0))]) (hI : Iw D A (w_Mg g a0 s0 ++ (rest)) H) (hS : va_S A s.heap H locs) (h : B_Mg_addFragment_9  s0 = some out) : W p l e (headSpec ws_Mg_addFragment { frames := 0, cells := 0, slots := 0, locals := 0 }).room s m args below meth c H locs 0 0 (MQ below (QcV D A g (fun (_ : Unit) => w_Mg g a0 out ++ (rest))) args s 0 0 A) (F0 m 9 ls []) := by
  have X1 := X
  obtain ⟨hx, hb, hml, hown, hts, hr, hlocks, hKK⟩ := X1
  have ht : ∀ w ∈ TB, w.before args s = true := fun w h => hts w (List.mem_cons_of_mem _ h)
  have hK := hKK.1
  unfold B_Mg_addFragment_9 at h
  refine lv_aload_n hx hb d_Mg_addFragment_9 rfl (lv_at hl 0 rfl) ?_
  refine lv_aload_n hx hb d_Mg_addFragment_10 rfl (lv_at hl 0 rfl) ?_
  refine va_get (D := D) (ci := 3) (v := .int (Mg_stage s0)) (C := R_Mg) (T := T_Mg) (N := 5) hx hb ht in_Mg hown hK hI.1 0 rfl rfl 0 (by decide) (ht _ m_81) (fun _ h9 => h9) rfl d_Mg_addFragment_11 ?_
  refine lv_iconst (v := 2) hx hb d_Mg_addFragment_14 (by decide) ?_
  refine lv_icmp_ne (tgt := 22) hx hb d_Mg_addFragment_15 (by decide) (fun hc => ?_) (fun hc => ?_)
  · have h := it_f h hc
    exact t_Mg_addFragment_22 X (lv_sub hl [] rfl) hI hS h
  · have h := it_t h hc
    exact t_Mg_addFragment_18 X (lv_sub hl [] rfl) hI hS h
set_option maxRecDepth 100000 in
set_option maxHeartbeats 4000000 in
theorem t_Mg_addFragment_0 {p : Program} {l : Launch} {e : Env} {s : State} {m : MethodId} {args : Array Value} {below : List Frame} {meth : Method} {c : Code} {D : va_G} {A : Nat → Prop} {g : Nat → ClassId} {rest : va_W} {a0 : Nat → Nat} {ls : Array Slot} {H : Heap} {locs : List Loc} {s0 : S_Mg} {x1 : Int32} {x2 : Int32} {out : S_Mg} (X : Cx p s m args meth c prog_5_method_11_code 3 ws_Mg_addFragment R_Mg none D g) (hl : lv_has ls 3 [(0, .ref (a0 0)), (1, .int x1), (2, .int x2)]) (hI : Iw D A (w_Mg g a0 s0 ++ (rest)) H) (hS : va_S A s.heap H locs) (h : B_Mg_addFragment_0  s0 x1 x2 = some out) : W p l e (headSpec ws_Mg_addFragment { frames := 0, cells := 0, slots := 0, locals := 0 }).room s m args below meth c H locs 0 0 (MQ below (QcV D A g (fun (_ : Unit) => w_Mg g a0 out ++ (rest))) args s 0 0 A) (F0 m 0 ls []) := by
  have X1 := X
  obtain ⟨hx, hb, hml, hown, hts, hr, hlocks, hKK⟩ := X1
  have ht : ∀ w ∈ TB, w.before args s = true := fun w h => hts w (List.mem_cons_of_mem _ h)
  have hK := hKK.1
  unfold B_Mg_addFragment_0 at h
  refine lv_aload_n hx hb d_Mg_addFragment_0 rfl (lv_at hl 0 rfl) ?_
  refine lv_iload_n hx hb d_Mg_addFragment_1 rfl (lv_at hl 1 rfl) ?_
  refine va_put (D := D) (ci := 3) (v := .int x1) (ty := .int) (C := R_Mg) (T := T_Mg) (N := 5) hx hb ht in_Mg ty_Mg tyok_Mg nm_Mg hown hK hI.1 hI.2 hS 0 rfl rfl 1 (by decide) (ht _ m_82) (fun _ h9 => h9) rfl (by decide +kernel) rfl rfl (Nat.le_of_ble_eq_true rfl) d_Mg_addFragment_2 (fun H locs hP hD hS => ?_)
  have hI : Iw D A (w_Mg g a0 (Mg_set_context s0 x1) ++ (rest)) H := ⟨hP, hD⟩
  refine lv_iload_n hx hb d_Mg_addFragment_5 rfl (lv_at hl 2 rfl) ?_
  refine lv_if_eq (tgt := 26) hx hb d_Mg_addFragment_6 (by decide) (fun hc => ?_) (fun hc => ?_)
  · have h := it_t h hc
    exact t_Mg_addFragment_26 X (lv_sub hl [] rfl) hI hS h
  · have h := it_f h hc
    exact t_Mg_addFragment_9 X (lv_sub hl [0] rfl) hI hS h
set_option maxRecDepth 100000 in
set_option maxHeartbeats 4000000 in
theorem c_Mg_addFragment {l : Launch} {D : va_G} {A : Nat → Prop} {g : Nat → ClassId} {rest : va_W} {a0 : Nat → Nat} {s0 : S_Mg} {x1 : Int32} {x2 : Int32} {out : S_Mg} (h : F_Mg_addFragment s0 x1 x2 = some out) : Met l y_Mg_addFragment ws_Mg_addFragment { frames := 0, cells := 0, slots := 0, locals := 0 } (PcW D A g [.ref (a0 0), .int x1, .int x2] (w_Mg g a0 s0 ++ (rest))) (QcV D A g (fun (_ : Unit) => w_Mg g a0 out ++ (rest))) 0 0 A := by
  refine Met.ofW (cc := prog_5_method_11_code) (maxL := 3) (ret := none) (by decide) rfl ?_
  intro p e s m args below meth c s₁ B hml hv
  obtain ⟨rfl, hI, hK⟩ := hv
  have hl := lv_entry [.ref (a0 0), .int x1, .int x2] (n := 3) (Nat.le_of_ble_eq_true rfl)
  rw [lg_entry_eq]
  generalize (lg_sl [.ref (a0 0), .int x1, .int x2] ++ List.replicate (3 - (lg_sl [.ref (a0 0), .int x1, .int x2]).length) Slot.unset).toArray = ls at hl ⊢
  have hl : lv_has ls 3 [(0, .ref (a0 0)), (1, .int x1), (2, .int x2)] := hl
  exact t_Mg_addFragment_0 ⟨B.exec, B.bytes, hml, findClass_of_methodNamed B.named, atoms_spec (ws := ws_Mg_addFragment) B.pre, B.returns, B.notSynchronized, hK⟩ (lv_sub hl [0, 1, 2] rfl) hI va_S.rf h
def ws_Mg_wantsSet : List Cond := .code y_Mg_wantsSet prog_5_method_4_code 1 (some .boolean) :: TB
def B_Mg_wantsSet_13 (s0 : S_Mg) (y0 : Int32) : Option Int32 :=
  (if y0 = 0 ∨ y0 = 1 then some y0 else none)
def B_Mg_wantsSet_12 (s0 : S_Mg) : Option Int32 :=
  (B_Mg_wantsSet_13 s0 (0 : Int32))
def B_Mg_wantsSet_8 (s0 : S_Mg) : Option Int32 :=
  (B_Mg_wantsSet_13 s0 (1 : Int32))
def B_Mg_wantsSet_0 (s0 : S_Mg) : Option Int32 :=
  (if (Mg_stage s0) = (2 : Int32) then (B_Mg_wantsSet_8 s0) else (B_Mg_wantsSet_12 s0))
def F_Mg_wantsSet (s0 : S_Mg) : Option Int32 := B_Mg_wantsSet_0 s0
set_option maxRecDepth 100000 in
set_option maxHeartbeats 4000000 in
theorem t_Mg_wantsSet_13 {p : Program} {l : Launch} {e : Env} {s : State} {m : MethodId} {args : Array Value} {below : List Frame} {meth : Method} {c : Code} {D : va_G} {A : Nat → Prop} {g : Nat → ClassId} {rest : va_W} {a0 : Nat → Nat} {ls : Array Slot} {H : Heap} {locs : List Loc} {s0 : S_Mg} {y0 : Int32} {out : Int32} (X : Cx p s m args meth c prog_5_method_4_code 1 ws_Mg_wantsSet R_Mg (some .boolean) D g) (hl : lv_has ls 1 []) (hI : Iw D A (w_Mg g a0 s0 ++ (rest)) H) (hS : va_S A s.heap H locs) (h : B_Mg_wantsSet_13  s0 y0 = some out) : W p l e (headSpec ws_Mg_wantsSet { frames := 0, cells := 0, slots := 0, locals := 0 }).room s m args below meth c H locs 0 0 (MQ below (QcI D A g out (fun (_ : Unit) => w_Mg g a0 s0 ++ (rest))) args s 0 0 A) (F0 m 13 ls [.int y0]) := by
  have X1 := X
  obtain ⟨hx, hb, hml, hown, hts, hr, hlocks, hKK⟩ := X1
  have ht : ∀ w ∈ TB, w.before args s = true := fun w h => hts w (List.mem_cons_of_mem _ h)
  have hK := hKK.1
  unfold B_Mg_wantsSet_13 at h
  have hc1 : y0 = 0 ∨ y0 = 1 := by
    by_cases z : y0 = 0 ∨ y0 = 1
    · exact z
    · exact no_s (it_f h z)
  have h := it_t h hc1
  have h9 := Option.some.inj h
  subst h9
  exact W.zret (v := y0) hx hb hr (by rcases hc1 with z | z <;> rw [z] <;> rfl) (fun t ht hW => ⟨⟨_, (), rfl, rfl, ⟨by rw [ht]; exact hI, hKK.moved hW⟩⟩, hS.F ht⟩) hS.2.2 d_Mg_wantsSet_13
set_option maxRecDepth 100000 in
set_option maxHeartbeats 4000000 in
theorem t_Mg_wantsSet_12 {p : Program} {l : Launch} {e : Env} {s : State} {m : MethodId} {args : Array Value} {below : List Frame} {meth : Method} {c : Code} {D : va_G} {A : Nat → Prop} {g : Nat → ClassId} {rest : va_W} {a0 : Nat → Nat} {ls : Array Slot} {H : Heap} {locs : List Loc} {s0 : S_Mg} {out : Int32} (X : Cx p s m args meth c prog_5_method_4_code 1 ws_Mg_wantsSet R_Mg (some .boolean) D g) (hl : lv_has ls 1 []) (hI : Iw D A (w_Mg g a0 s0 ++ (rest)) H) (hS : va_S A s.heap H locs) (h : B_Mg_wantsSet_12  s0 = some out) : W p l e (headSpec ws_Mg_wantsSet { frames := 0, cells := 0, slots := 0, locals := 0 }).room s m args below meth c H locs 0 0 (MQ below (QcI D A g out (fun (_ : Unit) => w_Mg g a0 s0 ++ (rest))) args s 0 0 A) (F0 m 12 ls []) := by
  have X1 := X
  obtain ⟨hx, hb, hml, hown, hts, hr, hlocks, hKK⟩ := X1
  have ht : ∀ w ∈ TB, w.before args s = true := fun w h => hts w (List.mem_cons_of_mem _ h)
  have hK := hKK.1
  unfold B_Mg_wantsSet_12 at h
  refine lv_iconst (v := 0) hx hb d_Mg_wantsSet_12 (by decide) ?_
  exact t_Mg_wantsSet_13 X (lv_sub hl [] rfl) hI hS h
set_option maxRecDepth 100000 in
set_option maxHeartbeats 4000000 in
theorem t_Mg_wantsSet_8 {p : Program} {l : Launch} {e : Env} {s : State} {m : MethodId} {args : Array Value} {below : List Frame} {meth : Method} {c : Code} {D : va_G} {A : Nat → Prop} {g : Nat → ClassId} {rest : va_W} {a0 : Nat → Nat} {ls : Array Slot} {H : Heap} {locs : List Loc} {s0 : S_Mg} {out : Int32} (X : Cx p s m args meth c prog_5_method_4_code 1 ws_Mg_wantsSet R_Mg (some .boolean) D g) (hl : lv_has ls 1 []) (hI : Iw D A (w_Mg g a0 s0 ++ (rest)) H) (hS : va_S A s.heap H locs) (h : B_Mg_wantsSet_8  s0 = some out) : W p l e (headSpec ws_Mg_wantsSet { frames := 0, cells := 0, slots := 0, locals := 0 }).room s m args below meth c H locs 0 0 (MQ below (QcI D A g out (fun (_ : Unit) => w_Mg g a0 s0 ++ (rest))) args s 0 0 A) (F0 m 8 ls []) := by
  have X1 := X
  obtain ⟨hx, hb, hml, hown, hts, hr, hlocks, hKK⟩ := X1
  have ht : ∀ w ∈ TB, w.before args s = true := fun w h => hts w (List.mem_cons_of_mem _ h)
  have hK := hKK.1
  unfold B_Mg_wantsSet_8 at h
  refine lv_iconst (v := 1) hx hb d_Mg_wantsSet_8 (by decide) ?_
  refine lv_goto (tgt := 13) hx hb d_Mg_wantsSet_9 (by decide) ?_
  exact t_Mg_wantsSet_13 X (lv_sub hl [] rfl) hI hS h
set_option maxRecDepth 100000 in
set_option maxHeartbeats 4000000 in
theorem t_Mg_wantsSet_0 {p : Program} {l : Launch} {e : Env} {s : State} {m : MethodId} {args : Array Value} {below : List Frame} {meth : Method} {c : Code} {D : va_G} {A : Nat → Prop} {g : Nat → ClassId} {rest : va_W} {a0 : Nat → Nat} {ls : Array Slot} {H : Heap} {locs : List Loc} {s0 : S_Mg} {out : Int32} (X : Cx p s m args meth c prog_5_method_4_code 1 ws_Mg_wantsSet R_Mg (some .boolean) D g) (hl : lv_has ls 1 [(0, .ref (a0 0))]) (hI : Iw D A (w_Mg g a0 s0 ++ (rest)) H) (hS : va_S A s.heap H locs) (h : B_Mg_wantsSet_0  s0 = some out) : W p l e (headSpec ws_Mg_wantsSet { frames := 0, cells := 0, slots := 0, locals := 0 }).room s m args below meth c H locs 0 0 (MQ below (QcI D A g out (fun (_ : Unit) => w_Mg g a0 s0 ++ (rest))) args s 0 0 A) (F0 m 0 ls []) := by
  have X1 := X
  obtain ⟨hx, hb, hml, hown, hts, hr, hlocks, hKK⟩ := X1
  have ht : ∀ w ∈ TB, w.before args s = true := fun w h => hts w (List.mem_cons_of_mem _ h)
  have hK := hKK.1
  unfold B_Mg_wantsSet_0 at h
  refine lv_aload_n hx hb d_Mg_wantsSet_0 rfl (lv_at hl 0 rfl) ?_
  refine va_get (D := D) (ci := 3) (v := .int (Mg_stage s0)) (C := R_Mg) (T := T_Mg) (N := 5) hx hb ht in_Mg hown hK hI.1 0 rfl rfl 0 (by decide) (ht _ m_81) (fun _ h9 => h9) rfl d_Mg_wantsSet_1 ?_
  refine lv_iconst (v := 2) hx hb d_Mg_wantsSet_4 (by decide) ?_
  refine lv_icmp_ne (tgt := 12) hx hb d_Mg_wantsSet_5 (by decide) (fun hc => ?_) (fun hc => ?_)
  · have h := it_f h hc
    exact t_Mg_wantsSet_12 X (lv_sub hl [] rfl) hI hS h
  · have h := it_t h hc
    exact t_Mg_wantsSet_8 X (lv_sub hl [] rfl) hI hS h
set_option maxRecDepth 100000 in
set_option maxHeartbeats 4000000 in
theorem c_Mg_wantsSet {l : Launch} {D : va_G} {A : Nat → Prop} {g : Nat → ClassId} {rest : va_W} {a0 : Nat → Nat} {s0 : S_Mg} {out : Int32} (h : F_Mg_wantsSet s0 = some out) : Met l y_Mg_wantsSet ws_Mg_wantsSet { frames := 0, cells := 0, slots := 0, locals := 0 } (PcW D A g [.ref (a0 0)] (w_Mg g a0 s0 ++ (rest))) (QcI D A g out (fun (_ : Unit) => w_Mg g a0 s0 ++ (rest))) 0 0 A := by
  refine Met.ofW (cc := prog_5_method_4_code) (maxL := 1) (ret := (some .boolean)) (by decide) rfl ?_
  intro p e s m args below meth c s₁ B hml hv
  obtain ⟨rfl, hI, hK⟩ := hv
  have hl := lv_entry [.ref (a0 0)] (n := 1) (Nat.le_of_ble_eq_true rfl)
  rw [lg_entry_eq]
  generalize (lg_sl [.ref (a0 0)] ++ List.replicate (1 - (lg_sl [.ref (a0 0)]).length) Slot.unset).toArray = ls at hl ⊢
  have hl : lv_has ls 1 [(0, .ref (a0 0))] := hl
  exact t_Mg_wantsSet_0 ⟨B.exec, B.bytes, hml, findClass_of_methodNamed B.named, atoms_spec (ws := ws_Mg_wantsSet) B.pre, B.returns, B.notSynchronized, hK⟩ (lv_sub hl [0] rfl) hI va_S.rf h
def ws_Mg_wants : List Cond := .code y_Mg_wants prog_5_method_3_code 3 (some .boolean) :: TB
def B_Mg_wants_29 (s0 : S_Mg) (y0 : Int32) : Option Int32 :=
  (if y0 = 0 ∨ y0 = 1 then some y0 else none)
def B_Mg_wants_28 (s0 : S_Mg) : Option Int32 :=
  (B_Mg_wants_29 s0 (0 : Int32))
def B_Mg_wants_24 (s0 : S_Mg) : Option Int32 :=
  (B_Mg_wants_29 s0 (1 : Int32))
def B_Mg_wants_16 (s0 : S_Mg) (x2 : Int32) : Option Int32 :=
  (if (Mg_context s0) = x2 then (B_Mg_wants_24 s0) else (B_Mg_wants_28 s0))
def B_Mg_wants_8 (s0 : S_Mg) (x2 : Int32) : Option Int32 :=
  (if (Mg_context s0) = ((-1) : Int32) then (B_Mg_wants_24 s0) else (B_Mg_wants_16 s0 x2))
def B_Mg_wants_0 (s0 : S_Mg) (x1 : Int32) (x2 : Int32) : Option Int32 :=
  ((F_Mg_wantsSet s0).bind fun o1 => (if x1 = o1 then (B_Mg_wants_8 s0 x2) else (B_Mg_wants_28 s0)))
def F_Mg_wants (s0 : S_Mg) (x1 : Int32) (x2 : Int32) : Option Int32 := B_Mg_wants_0 s0 x1 x2
set_option maxRecDepth 100000 in
set_option maxHeartbeats 4000000 in
theorem t_Mg_wants_29 {p : Program} {l : Launch} {e : Env} {s : State} {m : MethodId} {args : Array Value} {below : List Frame} {meth : Method} {c : Code} {D : va_G} {A : Nat → Prop} {g : Nat → ClassId} {rest : va_W} {a0 : Nat → Nat} {ls : Array Slot} {H : Heap} {locs : List Loc} {s0 : S_Mg} {y0 : Int32} {out : Int32} (X : Cx p s m args meth c prog_5_method_3_code 3 ws_Mg_wants R_Mg (some .boolean) D g) (hl : lv_has ls 3 []) (hI : Iw D A (w_Mg g a0 s0 ++ (rest)) H) (hS : va_S A s.heap H locs) (h : B_Mg_wants_29  s0 y0 = some out) : W p l e (headSpec ws_Mg_wants { frames := 1, cells := 0, slots := 0, locals := 20 }).room s m args below meth c H locs 0 0 (MQ below (QcI D A g out (fun (_ : Unit) => w_Mg g a0 s0 ++ (rest))) args s 0 0 A) (F0 m 29 ls [.int y0]) := by
  have X1 := X
  obtain ⟨hx, hb, hml, hown, hts, hr, hlocks, hKK⟩ := X1
  have ht : ∀ w ∈ TB, w.before args s = true := fun w h => hts w (List.mem_cons_of_mem _ h)
  have hK := hKK.1
  unfold B_Mg_wants_29 at h
  have hc1 : y0 = 0 ∨ y0 = 1 := by
    by_cases z : y0 = 0 ∨ y0 = 1
    · exact z
    · exact no_s (it_f h z)
  have h := it_t h hc1
  have h9 := Option.some.inj h
  subst h9
  exact W.zret (v := y0) hx hb hr (by rcases hc1 with z | z <;> rw [z] <;> rfl) (fun t ht hW => ⟨⟨_, (), rfl, rfl, ⟨by rw [ht]; exact hI, hKK.moved hW⟩⟩, hS.F ht⟩) hS.2.2 d_Mg_wants_29
set_option maxRecDepth 100000 in
set_option maxHeartbeats 4000000 in
theorem t_Mg_wants_28 {p : Program} {l : Launch} {e : Env} {s : State} {m : MethodId} {args : Array Value} {below : List Frame} {meth : Method} {c : Code} {D : va_G} {A : Nat → Prop} {g : Nat → ClassId} {rest : va_W} {a0 : Nat → Nat} {ls : Array Slot} {H : Heap} {locs : List Loc} {s0 : S_Mg} {out : Int32} (X : Cx p s m args meth c prog_5_method_3_code 3 ws_Mg_wants R_Mg (some .boolean) D g) (hl : lv_has ls 3 []) (hI : Iw D A (w_Mg g a0 s0 ++ (rest)) H) (hS : va_S A s.heap H locs) (h : B_Mg_wants_28  s0 = some out) : W p l e (headSpec ws_Mg_wants { frames := 1, cells := 0, slots := 0, locals := 20 }).room s m args below meth c H locs 0 0 (MQ below (QcI D A g out (fun (_ : Unit) => w_Mg g a0 s0 ++ (rest))) args s 0 0 A) (F0 m 28 ls []) := by
  have X1 := X
  obtain ⟨hx, hb, hml, hown, hts, hr, hlocks, hKK⟩ := X1
  have ht : ∀ w ∈ TB, w.before args s = true := fun w h => hts w (List.mem_cons_of_mem _ h)
  have hK := hKK.1
  unfold B_Mg_wants_28 at h
  refine lv_iconst (v := 0) hx hb d_Mg_wants_28 (by decide) ?_
  exact t_Mg_wants_29 X (lv_sub hl [] rfl) hI hS h
set_option maxRecDepth 100000 in
set_option maxHeartbeats 4000000 in
theorem t_Mg_wants_24 {p : Program} {l : Launch} {e : Env} {s : State} {m : MethodId} {args : Array Value} {below : List Frame} {meth : Method} {c : Code} {D : va_G} {A : Nat → Prop} {g : Nat → ClassId} {rest : va_W} {a0 : Nat → Nat} {ls : Array Slot} {H : Heap} {locs : List Loc} {s0 : S_Mg} {out : Int32} (X : Cx p s m args meth c prog_5_method_3_code 3 ws_Mg_wants R_Mg (some .boolean) D g) (hl : lv_has ls 3 []) (hI : Iw D A (w_Mg g a0 s0 ++ (rest)) H) (hS : va_S A s.heap H locs) (h : B_Mg_wants_24  s0 = some out) : W p l e (headSpec ws_Mg_wants { frames := 1, cells := 0, slots := 0, locals := 20 }).room s m args below meth c H locs 0 0 (MQ below (QcI D A g out (fun (_ : Unit) => w_Mg g a0 s0 ++ (rest))) args s 0 0 A) (F0 m 24 ls []) := by
  have X1 := X
  obtain ⟨hx, hb, hml, hown, hts, hr, hlocks, hKK⟩ := X1
  have ht : ∀ w ∈ TB, w.before args s = true := fun w h => hts w (List.mem_cons_of_mem _ h)
  have hK := hKK.1
  unfold B_Mg_wants_24 at h
  refine lv_iconst (v := 1) hx hb d_Mg_wants_24 (by decide) ?_
  refine lv_goto (tgt := 29) hx hb d_Mg_wants_25 (by decide) ?_
  exact t_Mg_wants_29 X (lv_sub hl [] rfl) hI hS h
set_option maxRecDepth 100000 in
set_option maxHeartbeats 4000000 in
theorem t_Mg_wants_16 {p : Program} {l : Launch} {e : Env} {s : State} {m : MethodId} {args : Array Value} {below : List Frame} {meth : Method} {c : Code} {D : va_G} {A : Nat → Prop} {g : Nat → ClassId} {rest : va_W} {a0 : Nat → Nat} {ls : Array Slot} {H : Heap} {locs : List Loc} {s0 : S_Mg} {x2 : Int32} {out : Int32} (X : Cx p s m args meth c prog_5_method_3_code 3 ws_Mg_wants R_Mg (some .boolean) D g) (hl : lv_has ls 3 [(0, .ref (a0 0)), (2, .int x2)]) (hI : Iw D A (w_Mg g a0 s0 ++ (rest)) H) (hS : va_S A s.heap H locs) (h : B_Mg_wants_16  s0 x2 = some out) : W p l e (headSpec ws_Mg_wants { frames := 1, cells := 0, slots := 0, locals := 20 }).room s m args below meth c H locs 0 0 (MQ below (QcI D A g out (fun (_ : Unit) => w_Mg g a0 s0 ++ (rest))) args s 0 0 A) (F0 m 16 ls []) := by
  have X1 := X
  obtain ⟨hx, hb, hml, hown, hts, hr, hlocks, hKK⟩ := X1
  have ht : ∀ w ∈ TB, w.before args s = true := fun w h => hts w (List.mem_cons_of_mem _ h)
  have hK := hKK.1
  unfold B_Mg_wants_16 at h
  refine lv_aload_n hx hb d_Mg_wants_16 rfl (lv_at hl 0 rfl) ?_
  refine va_get (D := D) (ci := 3) (v := .int (Mg_context s0)) (C := R_Mg) (T := T_Mg) (N := 5) hx hb ht in_Mg hown hK hI.1 0 rfl rfl 1 (by decide) (ht _ m_82) (fun _ h9 => h9) rfl d_Mg_wants_17 ?_
  refine lv_iload_n hx hb d_Mg_wants_20 rfl (lv_at hl 1 rfl) ?_
  refine lv_icmp_ne (tgt := 28) hx hb d_Mg_wants_21 (by decide) (fun hc => ?_) (fun hc => ?_)
  · have h := it_f h hc
    exact t_Mg_wants_28 X (lv_sub hl [] rfl) hI hS h
  · have h := it_t h hc
    exact t_Mg_wants_24 X (lv_sub hl [] rfl) hI hS h
set_option maxRecDepth 100000 in
set_option maxHeartbeats 4000000 in
theorem t_Mg_wants_8 {p : Program} {l : Launch} {e : Env} {s : State} {m : MethodId} {args : Array Value} {below : List Frame} {meth : Method} {c : Code} {D : va_G} {A : Nat → Prop} {g : Nat → ClassId} {rest : va_W} {a0 : Nat → Nat} {ls : Array Slot} {H : Heap} {locs : List Loc} {s0 : S_Mg} {x2 : Int32} {out : Int32} (X : Cx p s m args meth c prog_5_method_3_code 3 ws_Mg_wants R_Mg (some .boolean) D g) (hl : lv_has ls 3 [(0, .ref (a0 0)), (2, .int x2)]) (hI : Iw D A (w_Mg g a0 s0 ++ (rest)) H) (hS : va_S A s.heap H locs) (h : B_Mg_wants_8  s0 x2 = some out) : W p l e (headSpec ws_Mg_wants { frames := 1, cells := 0, slots := 0, locals := 20 }).room s m args below meth c H locs 0 0 (MQ below (QcI D A g out (fun (_ : Unit) => w_Mg g a0 s0 ++ (rest))) args s 0 0 A) (F0 m 8 ls []) := by
  have X1 := X
  obtain ⟨hx, hb, hml, hown, hts, hr, hlocks, hKK⟩ := X1
  have ht : ∀ w ∈ TB, w.before args s = true := fun w h => hts w (List.mem_cons_of_mem _ h)
  have hK := hKK.1
  unfold B_Mg_wants_8 at h
  refine lv_aload_n hx hb d_Mg_wants_8 rfl (lv_at hl 0 rfl) ?_
  refine va_get (D := D) (ci := 3) (v := .int (Mg_context s0)) (C := R_Mg) (T := T_Mg) (N := 5) hx hb ht in_Mg hown hK hI.1 0 rfl rfl 1 (by decide) (ht _ m_82) (fun _ h9 => h9) rfl d_Mg_wants_9 ?_
  refine lv_iconst (v := (-1)) hx hb d_Mg_wants_12 (by decide) ?_
  refine lv_icmp_eq (tgt := 24) hx hb d_Mg_wants_13 (by decide) (fun hc => ?_) (fun hc => ?_)
  · have h := it_t h hc
    exact t_Mg_wants_24 X (lv_sub hl [] rfl) hI hS h
  · have h := it_f h hc
    exact t_Mg_wants_16 X (lv_sub hl [0, 1] rfl) hI hS h
set_option maxRecDepth 100000 in
set_option maxHeartbeats 4000000 in
theorem t_Mg_wants_0 {p : Program} {l : Launch} {e : Env} {s : State} {m : MethodId} {args : Array Value} {below : List Frame} {meth : Method} {c : Code} {D : va_G} {A : Nat → Prop} {g : Nat → ClassId} {rest : va_W} {a0 : Nat → Nat} {ls : Array Slot} {H : Heap} {locs : List Loc} {s0 : S_Mg} {x1 : Int32} {x2 : Int32} {out : Int32} (X : Cx p s m args meth c prog_5_method_3_code 3 ws_Mg_wants R_Mg (some .boolean) D g) (hl : lv_has ls 3 [(0, .ref (a0 0)), (1, .int x1), (2, .int x2)]) (hI : Iw D A (w_Mg g a0 s0 ++ (rest)) H) (hS : va_S A s.heap H locs) (h : B_Mg_wants_0  s0 x1 x2 = some out) : W p l e (headSpec ws_Mg_wants { frames := 1, cells := 0, slots := 0, locals := 20 }).room s m args below meth c H locs 0 0 (MQ below (QcI D A g out (fun (_ : Unit) => w_Mg g a0 s0 ++ (rest))) args s 0 0 A) (F0 m 0 ls []) := by
  have X1 := X
  obtain ⟨hx, hb, hml, hown, hts, hr, hlocks, hKK⟩ := X1
  have ht : ∀ w ∈ TB, w.before args s = true := fun w h => hts w (List.mem_cons_of_mem _ h)
  have hK := hKK.1
  unfold B_Mg_wants_0 at h
  refine lv_iload_n hx hb d_Mg_wants_0 rfl (lv_at hl 1 rfl) ?_
  refine lv_aload_n hx hb d_Mg_wants_1 rfl (lv_at hl 0 rfl) ?_
  obtain ⟨o1, ho2, h⟩ := bd_s h
  refine cl_i (W1 := fun (_ : Unit) => w_Mg g a0 s0 ++ (rest)) (va_runV (As := []) (rest := [.int x1]) ⟨hx, hb, hml, hown, ht⟩ (c_Mg_wantsSet (l := l) (D := D) (A := A) (g := g) (rest := rest) (a0 := a0) ho2) (cwV 0 ht (gd_V m_396 m_397 m_398 m_5 m_399) rfl rfl rfl (by decide +kernel) ⟨(Nat.le_of_ble_eq_true rfl), (Nat.le_of_ble_eq_true rfl)⟩) (prV (ci := 3) (q0 := 0) hKK hI (List.Perm.refl _) rfl rfl rfl) rfl rfl hl.1 rfl (lv_room (Nat.le_of_ble_eq_true rfl)) d_Mg_wants_2 ⟨(Nat.le_of_ble_eq_true rfl), (Nat.le_of_ble_eq_true rfl)⟩) hS (fun _ => ((List.Perm.refl _)).symm) (fun _ H locs hI hS => ?_)
  have hI : Iw D A (w_Mg g a0 s0 ++ (rest)) H := hI
  refine lv_icmp_ne (tgt := 28) hx hb d_Mg_wants_5 (by decide) (fun hc => ?_) (fun hc => ?_)
  · have h := it_f h hc
    exact t_Mg_wants_28 X (lv_sub hl [] rfl) hI hS h
  · have h := it_t h hc
    exact t_Mg_wants_8 X (lv_sub hl [0, 2] rfl) hI hS h
set_option maxRecDepth 100000 in
set_option maxHeartbeats 4000000 in
theorem c_Mg_wants {l : Launch} {D : va_G} {A : Nat → Prop} {g : Nat → ClassId} {rest : va_W} {a0 : Nat → Nat} {s0 : S_Mg} {x1 : Int32} {x2 : Int32} {out : Int32} (h : F_Mg_wants s0 x1 x2 = some out) : Met l y_Mg_wants ws_Mg_wants { frames := 1, cells := 0, slots := 0, locals := 20 } (PcW D A g [.ref (a0 0), .int x1, .int x2] (w_Mg g a0 s0 ++ (rest))) (QcI D A g out (fun (_ : Unit) => w_Mg g a0 s0 ++ (rest))) 0 0 A := by
  refine Met.ofW (cc := prog_5_method_3_code) (maxL := 3) (ret := (some .boolean)) (by decide) rfl ?_
  intro p e s m args below meth c s₁ B hml hv
  obtain ⟨rfl, hI, hK⟩ := hv
  have hl := lv_entry [.ref (a0 0), .int x1, .int x2] (n := 3) (Nat.le_of_ble_eq_true rfl)
  rw [lg_entry_eq]
  generalize (lg_sl [.ref (a0 0), .int x1, .int x2] ++ List.replicate (3 - (lg_sl [.ref (a0 0), .int x1, .int x2]).length) Slot.unset).toArray = ls at hl ⊢
  have hl : lv_has ls 3 [(0, .ref (a0 0)), (1, .int x1), (2, .int x2)] := hl
  exact t_Mg_wants_0 ⟨B.exec, B.bytes, hml, findClass_of_methodNamed B.named, atoms_spec (ws := ws_Mg_wants) B.pre, B.returns, B.notSynchronized, hK⟩ (lv_sub hl [0, 1, 2] rfl) hI va_S.rf h
def ws_Mg_isCommandThere : List Cond := .code y_Mg_isCommandThere prog_5_method_5_code 1 (some .boolean) :: TB
def B_Mg_isCommandThere_13 (s0 : S_Mg) (y0 : Int32) : Option Int32 :=
  (if y0 = 0 ∨ y0 = 1 then some y0 else none)
def B_Mg_isCommandThere_12 (s0 : S_Mg) : Option Int32 :=
  (B_Mg_isCommandThere_13 s0 (0 : Int32))
def B_Mg_isCommandThere_8 (s0 : S_Mg) : Option Int32 :=
  (B_Mg_isCommandThere_13 s0 (1 : Int32))
def B_Mg_isCommandThere_0 (s0 : S_Mg) : Option Int32 :=
  (if (Mg_stage s0) = (1 : Int32) then (B_Mg_isCommandThere_8 s0) else (B_Mg_isCommandThere_12 s0))
def F_Mg_isCommandThere (s0 : S_Mg) : Option Int32 := B_Mg_isCommandThere_0 s0
set_option maxRecDepth 100000 in
set_option maxHeartbeats 4000000 in
theorem t_Mg_isCommandThere_13 {p : Program} {l : Launch} {e : Env} {s : State} {m : MethodId} {args : Array Value} {below : List Frame} {meth : Method} {c : Code} {D : va_G} {A : Nat → Prop} {g : Nat → ClassId} {rest : va_W} {a0 : Nat → Nat} {ls : Array Slot} {H : Heap} {locs : List Loc} {s0 : S_Mg} {y0 : Int32} {out : Int32} (X : Cx p s m args meth c prog_5_method_5_code 1 ws_Mg_isCommandThere R_Mg (some .boolean) D g) (hl : lv_has ls 1 []) (hI : Iw D A (w_Mg g a0 s0 ++ (rest)) H) (hS : va_S A s.heap H locs) (h : B_Mg_isCommandThere_13  s0 y0 = some out) : W p l e (headSpec ws_Mg_isCommandThere { frames := 0, cells := 0, slots := 0, locals := 0 }).room s m args below meth c H locs 0 0 (MQ below (QcI D A g out (fun (_ : Unit) => w_Mg g a0 s0 ++ (rest))) args s 0 0 A) (F0 m 13 ls [.int y0]) := by
  have X1 := X
  obtain ⟨hx, hb, hml, hown, hts, hr, hlocks, hKK⟩ := X1
  have ht : ∀ w ∈ TB, w.before args s = true := fun w h => hts w (List.mem_cons_of_mem _ h)
  have hK := hKK.1
  unfold B_Mg_isCommandThere_13 at h
  have hc1 : y0 = 0 ∨ y0 = 1 := by
    by_cases z : y0 = 0 ∨ y0 = 1
    · exact z
    · exact no_s (it_f h z)
  have h := it_t h hc1
  have h9 := Option.some.inj h
  subst h9
  exact W.zret (v := y0) hx hb hr (by rcases hc1 with z | z <;> rw [z] <;> rfl) (fun t ht hW => ⟨⟨_, (), rfl, rfl, ⟨by rw [ht]; exact hI, hKK.moved hW⟩⟩, hS.F ht⟩) hS.2.2 d_Mg_isCommandThere_13
set_option maxRecDepth 100000 in
set_option maxHeartbeats 4000000 in
theorem t_Mg_isCommandThere_12 {p : Program} {l : Launch} {e : Env} {s : State} {m : MethodId} {args : Array Value} {below : List Frame} {meth : Method} {c : Code} {D : va_G} {A : Nat → Prop} {g : Nat → ClassId} {rest : va_W} {a0 : Nat → Nat} {ls : Array Slot} {H : Heap} {locs : List Loc} {s0 : S_Mg} {out : Int32} (X : Cx p s m args meth c prog_5_method_5_code 1 ws_Mg_isCommandThere R_Mg (some .boolean) D g) (hl : lv_has ls 1 []) (hI : Iw D A (w_Mg g a0 s0 ++ (rest)) H) (hS : va_S A s.heap H locs) (h : B_Mg_isCommandThere_12  s0 = some out) : W p l e (headSpec ws_Mg_isCommandThere { frames := 0, cells := 0, slots := 0, locals := 0 }).room s m args below meth c H locs 0 0 (MQ below (QcI D A g out (fun (_ : Unit) => w_Mg g a0 s0 ++ (rest))) args s 0 0 A) (F0 m 12 ls []) := by
  have X1 := X
  obtain ⟨hx, hb, hml, hown, hts, hr, hlocks, hKK⟩ := X1
  have ht : ∀ w ∈ TB, w.before args s = true := fun w h => hts w (List.mem_cons_of_mem _ h)
  have hK := hKK.1
  unfold B_Mg_isCommandThere_12 at h
  refine lv_iconst (v := 0) hx hb d_Mg_isCommandThere_12 (by decide) ?_
  exact t_Mg_isCommandThere_13 X (lv_sub hl [] rfl) hI hS h
set_option maxRecDepth 100000 in
set_option maxHeartbeats 4000000 in
theorem t_Mg_isCommandThere_8 {p : Program} {l : Launch} {e : Env} {s : State} {m : MethodId} {args : Array Value} {below : List Frame} {meth : Method} {c : Code} {D : va_G} {A : Nat → Prop} {g : Nat → ClassId} {rest : va_W} {a0 : Nat → Nat} {ls : Array Slot} {H : Heap} {locs : List Loc} {s0 : S_Mg} {out : Int32} (X : Cx p s m args meth c prog_5_method_5_code 1 ws_Mg_isCommandThere R_Mg (some .boolean) D g) (hl : lv_has ls 1 []) (hI : Iw D A (w_Mg g a0 s0 ++ (rest)) H) (hS : va_S A s.heap H locs) (h : B_Mg_isCommandThere_8  s0 = some out) : W p l e (headSpec ws_Mg_isCommandThere { frames := 0, cells := 0, slots := 0, locals := 0 }).room s m args below meth c H locs 0 0 (MQ below (QcI D A g out (fun (_ : Unit) => w_Mg g a0 s0 ++ (rest))) args s 0 0 A) (F0 m 8 ls []) := by
  have X1 := X
  obtain ⟨hx, hb, hml, hown, hts, hr, hlocks, hKK⟩ := X1
  have ht : ∀ w ∈ TB, w.before args s = true := fun w h => hts w (List.mem_cons_of_mem _ h)
  have hK := hKK.1
  unfold B_Mg_isCommandThere_8 at h
  refine lv_iconst (v := 1) hx hb d_Mg_isCommandThere_8 (by decide) ?_
  refine lv_goto (tgt := 13) hx hb d_Mg_isCommandThere_9 (by decide) ?_
  exact t_Mg_isCommandThere_13 X (lv_sub hl [] rfl) hI hS h
set_option maxRecDepth 100000 in
set_option maxHeartbeats 4000000 in
theorem t_Mg_isCommandThere_0 {p : Program} {l : Launch} {e : Env} {s : State} {m : MethodId} {args : Array Value} {below : List Frame} {meth : Method} {c : Code} {D : va_G} {A : Nat → Prop} {g : Nat → ClassId} {rest : va_W} {a0 : Nat → Nat} {ls : Array Slot} {H : Heap} {locs : List Loc} {s0 : S_Mg} {out : Int32} (X : Cx p s m args meth c prog_5_method_5_code 1 ws_Mg_isCommandThere R_Mg (some .boolean) D g) (hl : lv_has ls 1 [(0, .ref (a0 0))]) (hI : Iw D A (w_Mg g a0 s0 ++ (rest)) H) (hS : va_S A s.heap H locs) (h : B_Mg_isCommandThere_0  s0 = some out) : W p l e (headSpec ws_Mg_isCommandThere { frames := 0, cells := 0, slots := 0, locals := 0 }).room s m args below meth c H locs 0 0 (MQ below (QcI D A g out (fun (_ : Unit) => w_Mg g a0 s0 ++ (rest))) args s 0 0 A) (F0 m 0 ls []) := by
  have X1 := X
  obtain ⟨hx, hb, hml, hown, hts, hr, hlocks, hKK⟩ := X1
  have ht : ∀ w ∈ TB, w.before args s = true := fun w h => hts w (List.mem_cons_of_mem _ h)
  have hK := hKK.1
  unfold B_Mg_isCommandThere_0 at h
  refine lv_aload_n hx hb d_Mg_isCommandThere_0 rfl (lv_at hl 0 rfl) ?_
  refine va_get (D := D) (ci := 3) (v := .int (Mg_stage s0)) (C := R_Mg) (T := T_Mg) (N := 5) hx hb ht in_Mg hown hK hI.1 0 rfl rfl 0 (by decide) (ht _ m_81) (fun _ h9 => h9) rfl d_Mg_isCommandThere_1 ?_
  refine lv_iconst (v := 1) hx hb d_Mg_isCommandThere_4 (by decide) ?_
  refine lv_icmp_ne (tgt := 12) hx hb d_Mg_isCommandThere_5 (by decide) (fun hc => ?_) (fun hc => ?_)
  · have h := it_f h hc
    exact t_Mg_isCommandThere_12 X (lv_sub hl [] rfl) hI hS h
  · have h := it_t h hc
    exact t_Mg_isCommandThere_8 X (lv_sub hl [] rfl) hI hS h
set_option maxRecDepth 100000 in
set_option maxHeartbeats 4000000 in
theorem c_Mg_isCommandThere {l : Launch} {D : va_G} {A : Nat → Prop} {g : Nat → ClassId} {rest : va_W} {a0 : Nat → Nat} {s0 : S_Mg} {out : Int32} (h : F_Mg_isCommandThere s0 = some out) : Met l y_Mg_isCommandThere ws_Mg_isCommandThere { frames := 0, cells := 0, slots := 0, locals := 0 } (PcW D A g [.ref (a0 0)] (w_Mg g a0 s0 ++ (rest))) (QcI D A g out (fun (_ : Unit) => w_Mg g a0 s0 ++ (rest))) 0 0 A := by
  refine Met.ofW (cc := prog_5_method_5_code) (maxL := 1) (ret := (some .boolean)) (by decide) rfl ?_
  intro p e s m args below meth c s₁ B hml hv
  obtain ⟨rfl, hI, hK⟩ := hv
  have hl := lv_entry [.ref (a0 0)] (n := 1) (Nat.le_of_ble_eq_true rfl)
  rw [lg_entry_eq]
  generalize (lg_sl [.ref (a0 0)] ++ List.replicate (1 - (lg_sl [.ref (a0 0)]).length) Slot.unset).toArray = ls at hl ⊢
  have hl : lv_has ls 1 [(0, .ref (a0 0))] := hl
  exact t_Mg_isCommandThere_0 ⟨B.exec, B.bytes, hml, findClass_of_methodNamed B.named, atoms_spec (ws := ws_Mg_isCommandThere) B.pre, B.returns, B.notSynchronized, hK⟩ (lv_sub hl [0] rfl) hI va_S.rf h
def ws_Mg_isWhole : List Cond := .code y_Mg_isWhole prog_5_method_6_code 1 (some .boolean) :: TB
def B_Mg_isWhole_13 (s0 : S_Mg) (y0 : Int32) : Option Int32 :=
  (if y0 = 0 ∨ y0 = 1 then some y0 else none)
def B_Mg_isWhole_12 (s0 : S_Mg) : Option Int32 :=
  (B_Mg_isWhole_13 s0 (0 : Int32))
def B_Mg_isWhole_8 (s0 : S_Mg) : Option Int32 :=
  (B_Mg_isWhole_13 s0 (1 : Int32))
def B_Mg_isWhole_0 (s0 : S_Mg) : Option Int32 :=
  (if (Mg_stage s0) = (3 : Int32) then (B_Mg_isWhole_8 s0) else (B_Mg_isWhole_12 s0))
def F_Mg_isWhole (s0 : S_Mg) : Option Int32 := B_Mg_isWhole_0 s0
set_option maxRecDepth 100000 in
set_option maxHeartbeats 4000000 in
theorem t_Mg_isWhole_13 {p : Program} {l : Launch} {e : Env} {s : State} {m : MethodId} {args : Array Value} {below : List Frame} {meth : Method} {c : Code} {D : va_G} {A : Nat → Prop} {g : Nat → ClassId} {rest : va_W} {a0 : Nat → Nat} {ls : Array Slot} {H : Heap} {locs : List Loc} {s0 : S_Mg} {y0 : Int32} {out : Int32} (X : Cx p s m args meth c prog_5_method_6_code 1 ws_Mg_isWhole R_Mg (some .boolean) D g) (hl : lv_has ls 1 []) (hI : Iw D A (w_Mg g a0 s0 ++ (rest)) H) (hS : va_S A s.heap H locs) (h : B_Mg_isWhole_13  s0 y0 = some out) : W p l e (headSpec ws_Mg_isWhole { frames := 0, cells := 0, slots := 0, locals := 0 }).room s m args below meth c H locs 0 0 (MQ below (QcI D A g out (fun (_ : Unit) => w_Mg g a0 s0 ++ (rest))) args s 0 0 A) (F0 m 13 ls [.int y0]) := by
  have X1 := X
  obtain ⟨hx, hb, hml, hown, hts, hr, hlocks, hKK⟩ := X1
  have ht : ∀ w ∈ TB, w.before args s = true := fun w h => hts w (List.mem_cons_of_mem _ h)
  have hK := hKK.1
  unfold B_Mg_isWhole_13 at h
  have hc1 : y0 = 0 ∨ y0 = 1 := by
    by_cases z : y0 = 0 ∨ y0 = 1
    · exact z
    · exact no_s (it_f h z)
  have h := it_t h hc1
  have h9 := Option.some.inj h
  subst h9
  exact W.zret (v := y0) hx hb hr (by rcases hc1 with z | z <;> rw [z] <;> rfl) (fun t ht hW => ⟨⟨_, (), rfl, rfl, ⟨by rw [ht]; exact hI, hKK.moved hW⟩⟩, hS.F ht⟩) hS.2.2 d_Mg_isWhole_13
set_option maxRecDepth 100000 in
set_option maxHeartbeats 4000000 in
theorem t_Mg_isWhole_12 {p : Program} {l : Launch} {e : Env} {s : State} {m : MethodId} {args : Array Value} {below : List Frame} {meth : Method} {c : Code} {D : va_G} {A : Nat → Prop} {g : Nat → ClassId} {rest : va_W} {a0 : Nat → Nat} {ls : Array Slot} {H : Heap} {locs : List Loc} {s0 : S_Mg} {out : Int32} (X : Cx p s m args meth c prog_5_method_6_code 1 ws_Mg_isWhole R_Mg (some .boolean) D g) (hl : lv_has ls 1 []) (hI : Iw D A (w_Mg g a0 s0 ++ (rest)) H) (hS : va_S A s.heap H locs) (h : B_Mg_isWhole_12  s0 = some out) : W p l e (headSpec ws_Mg_isWhole { frames := 0, cells := 0, slots := 0, locals := 0 }).room s m args below meth c H locs 0 0 (MQ below (QcI D A g out (fun (_ : Unit) => w_Mg g a0 s0 ++ (rest))) args s 0 0 A) (F0 m 12 ls []) := by
  have X1 := X
  obtain ⟨hx, hb, hml, hown, hts, hr, hlocks, hKK⟩ := X1
  have ht : ∀ w ∈ TB, w.before args s = true := fun w h => hts w (List.mem_cons_of_mem _ h)
  have hK := hKK.1
  unfold B_Mg_isWhole_12 at h
  refine lv_iconst (v := 0) hx hb d_Mg_isWhole_12 (by decide) ?_
  exact t_Mg_isWhole_13 X (lv_sub hl [] rfl) hI hS h
set_option maxRecDepth 100000 in
set_option maxHeartbeats 4000000 in
theorem t_Mg_isWhole_8 {p : Program} {l : Launch} {e : Env} {s : State} {m : MethodId} {args : Array Value} {below : List Frame} {meth : Method} {c : Code} {D : va_G} {A : Nat → Prop} {g : Nat → ClassId} {rest : va_W} {a0 : Nat → Nat} {ls : Array Slot} {H : Heap} {locs : List Loc} {s0 : S_Mg} {out : Int32} (X : Cx p s m args meth c prog_5_method_6_code 1 ws_Mg_isWhole R_Mg (some .boolean) D g) (hl : lv_has ls 1 []) (hI : Iw D A (w_Mg g a0 s0 ++ (rest)) H) (hS : va_S A s.heap H locs) (h : B_Mg_isWhole_8  s0 = some out) : W p l e (headSpec ws_Mg_isWhole { frames := 0, cells := 0, slots := 0, locals := 0 }).room s m args below meth c H locs 0 0 (MQ below (QcI D A g out (fun (_ : Unit) => w_Mg g a0 s0 ++ (rest))) args s 0 0 A) (F0 m 8 ls []) := by
  have X1 := X
  obtain ⟨hx, hb, hml, hown, hts, hr, hlocks, hKK⟩ := X1
  have ht : ∀ w ∈ TB, w.before args s = true := fun w h => hts w (List.mem_cons_of_mem _ h)
  have hK := hKK.1
  unfold B_Mg_isWhole_8 at h
  refine lv_iconst (v := 1) hx hb d_Mg_isWhole_8 (by decide) ?_
  refine lv_goto (tgt := 13) hx hb d_Mg_isWhole_9 (by decide) ?_
  exact t_Mg_isWhole_13 X (lv_sub hl [] rfl) hI hS h
set_option maxRecDepth 100000 in
set_option maxHeartbeats 4000000 in
theorem t_Mg_isWhole_0 {p : Program} {l : Launch} {e : Env} {s : State} {m : MethodId} {args : Array Value} {below : List Frame} {meth : Method} {c : Code} {D : va_G} {A : Nat → Prop} {g : Nat → ClassId} {rest : va_W} {a0 : Nat → Nat} {ls : Array Slot} {H : Heap} {locs : List Loc} {s0 : S_Mg} {out : Int32} (X : Cx p s m args meth c prog_5_method_6_code 1 ws_Mg_isWhole R_Mg (some .boolean) D g) (hl : lv_has ls 1 [(0, .ref (a0 0))]) (hI : Iw D A (w_Mg g a0 s0 ++ (rest)) H) (hS : va_S A s.heap H locs) (h : B_Mg_isWhole_0  s0 = some out) : W p l e (headSpec ws_Mg_isWhole { frames := 0, cells := 0, slots := 0, locals := 0 }).room s m args below meth c H locs 0 0 (MQ below (QcI D A g out (fun (_ : Unit) => w_Mg g a0 s0 ++ (rest))) args s 0 0 A) (F0 m 0 ls []) := by
  have X1 := X
  obtain ⟨hx, hb, hml, hown, hts, hr, hlocks, hKK⟩ := X1
  have ht : ∀ w ∈ TB, w.before args s = true := fun w h => hts w (List.mem_cons_of_mem _ h)
  have hK := hKK.1
  unfold B_Mg_isWhole_0 at h
  refine lv_aload_n hx hb d_Mg_isWhole_0 rfl (lv_at hl 0 rfl) ?_
  refine va_get (D := D) (ci := 3) (v := .int (Mg_stage s0)) (C := R_Mg) (T := T_Mg) (N := 5) hx hb ht in_Mg hown hK hI.1 0 rfl rfl 0 (by decide) (ht _ m_81) (fun _ h9 => h9) rfl d_Mg_isWhole_1 ?_
  refine lv_iconst (v := 3) hx hb d_Mg_isWhole_4 (by decide) ?_
  refine lv_icmp_ne (tgt := 12) hx hb d_Mg_isWhole_5 (by decide) (fun hc => ?_) (fun hc => ?_)
  · have h := it_f h hc
    exact t_Mg_isWhole_12 X (lv_sub hl [] rfl) hI hS h
  · have h := it_t h hc
    exact t_Mg_isWhole_8 X (lv_sub hl [] rfl) hI hS h
set_option maxRecDepth 100000 in
set_option maxHeartbeats 4000000 in
theorem c_Mg_isWhole {l : Launch} {D : va_G} {A : Nat → Prop} {g : Nat → ClassId} {rest : va_W} {a0 : Nat → Nat} {s0 : S_Mg} {out : Int32} (h : F_Mg_isWhole s0 = some out) : Met l y_Mg_isWhole ws_Mg_isWhole { frames := 0, cells := 0, slots := 0, locals := 0 } (PcW D A g [.ref (a0 0)] (w_Mg g a0 s0 ++ (rest))) (QcI D A g out (fun (_ : Unit) => w_Mg g a0 s0 ++ (rest))) 0 0 A := by
  refine Met.ofW (cc := prog_5_method_6_code) (maxL := 1) (ret := (some .boolean)) (by decide) rfl ?_
  intro p e s m args below meth c s₁ B hml hv
  obtain ⟨rfl, hI, hK⟩ := hv
  have hl := lv_entry [.ref (a0 0)] (n := 1) (Nat.le_of_ble_eq_true rfl)
  rw [lg_entry_eq]
  generalize (lg_sl [.ref (a0 0)] ++ List.replicate (1 - (lg_sl [.ref (a0 0)]).length) Slot.unset).toArray = ls at hl ⊢
  have hl : lv_has ls 1 [(0, .ref (a0 0))] := hl
  exact t_Mg_isWhole_0 ⟨B.exec, B.bytes, hml, findClass_of_methodNamed B.named, atoms_spec (ws := ws_Mg_isWhole) B.pre, B.returns, B.notSynchronized, hK⟩ (lv_sub hl [0] rfl) hI va_S.rf h
def ws_Mg_contextIndex : List Cond := .code y_Mg_contextIndex prog_5_method_7_code 1 (some .int) :: TB
def B_Mg_contextIndex_0 (s0 : S_Mg) : Option Int32 :=
  some (Mg_context s0)
def F_Mg_contextIndex (s0 : S_Mg) : Option Int32 := B_Mg_contextIndex_0 s0
set_option maxRecDepth 100000 in
set_option maxHeartbeats 4000000 in
theorem t_Mg_contextIndex_0 {p : Program} {l : Launch} {e : Env} {s : State} {m : MethodId} {args : Array Value} {below : List Frame} {meth : Method} {c : Code} {D : va_G} {A : Nat → Prop} {g : Nat → ClassId} {rest : va_W} {a0 : Nat → Nat} {ls : Array Slot} {H : Heap} {locs : List Loc} {s0 : S_Mg} {out : Int32} (X : Cx p s m args meth c prog_5_method_7_code 1 ws_Mg_contextIndex R_Mg (some .int) D g) (hl : lv_has ls 1 [(0, .ref (a0 0))]) (hI : Iw D A (w_Mg g a0 s0 ++ (rest)) H) (hS : va_S A s.heap H locs) (h : B_Mg_contextIndex_0  s0 = some out) : W p l e (headSpec ws_Mg_contextIndex { frames := 0, cells := 0, slots := 0, locals := 0 }).room s m args below meth c H locs 0 0 (MQ below (QcI D A g out (fun (_ : Unit) => w_Mg g a0 s0 ++ (rest))) args s 0 0 A) (F0 m 0 ls []) := by
  have X1 := X
  obtain ⟨hx, hb, hml, hown, hts, hr, hlocks, hKK⟩ := X1
  have ht : ∀ w ∈ TB, w.before args s = true := fun w h => hts w (List.mem_cons_of_mem _ h)
  have hK := hKK.1
  unfold B_Mg_contextIndex_0 at h
  refine lv_aload_n hx hb d_Mg_contextIndex_0 rfl (lv_at hl 0 rfl) ?_
  refine va_get (D := D) (ci := 3) (v := .int (Mg_context s0)) (C := R_Mg) (T := T_Mg) (N := 5) hx hb ht in_Mg hown hK hI.1 0 rfl rfl 1 (by decide) (ht _ m_82) (fun _ h9 => h9) rfl d_Mg_contextIndex_1 ?_
  have h9 := Option.some.inj h
  subst h9
  exact W.iret (v := (Mg_context s0)) hx hb hr (fun t ht hW => ⟨⟨_, (), rfl, rfl, ⟨by rw [ht]; exact hI, hKK.moved hW⟩⟩, hS.F ht⟩) hS.2.2 d_Mg_contextIndex_4
set_option maxRecDepth 100000 in
set_option maxHeartbeats 4000000 in
theorem c_Mg_contextIndex {l : Launch} {D : va_G} {A : Nat → Prop} {g : Nat → ClassId} {rest : va_W} {a0 : Nat → Nat} {s0 : S_Mg} {out : Int32} (h : F_Mg_contextIndex s0 = some out) : Met l y_Mg_contextIndex ws_Mg_contextIndex { frames := 0, cells := 0, slots := 0, locals := 0 } (PcW D A g [.ref (a0 0)] (w_Mg g a0 s0 ++ (rest))) (QcI D A g out (fun (_ : Unit) => w_Mg g a0 s0 ++ (rest))) 0 0 A := by
  refine Met.ofW (cc := prog_5_method_7_code) (maxL := 1) (ret := (some .int)) (by decide) rfl ?_
  intro p e s m args below meth c s₁ B hml hv
  obtain ⟨rfl, hI, hK⟩ := hv
  have hl := lv_entry [.ref (a0 0)] (n := 1) (Nat.le_of_ble_eq_true rfl)
  rw [lg_entry_eq]
  generalize (lg_sl [.ref (a0 0)] ++ List.replicate (1 - (lg_sl [.ref (a0 0)]).length) Slot.unset).toArray = ls at hl ⊢
  have hl : lv_has ls 1 [(0, .ref (a0 0))] := hl
  exact t_Mg_contextIndex_0 ⟨B.exec, B.bytes, hml, findClass_of_methodNamed B.named, atoms_spec (ws := ws_Mg_contextIndex) B.pre, B.returns, B.notSynchronized, hK⟩ (lv_sub hl [0] rfl) hI va_S.rf h
def ws_Mg_kind : List Cond := .code y_Mg_kind prog_5_method_8_code 1 (some .int) :: TB
def B_Mg_kind_0 (s0 : S_Mg) : Option Int32 :=
  some (Mg_kind s0)
def F_Mg_kind (s0 : S_Mg) : Option Int32 := B_Mg_kind_0 s0
set_option maxRecDepth 100000 in
set_option maxHeartbeats 4000000 in
theorem t_Mg_kind_0 {p : Program} {l : Launch} {e : Env} {s : State} {m : MethodId} {args : Array Value} {below : List Frame} {meth : Method} {c : Code} {D : va_G} {A : Nat → Prop} {g : Nat → ClassId} {rest : va_W} {a0 : Nat → Nat} {ls : Array Slot} {H : Heap} {locs : List Loc} {s0 : S_Mg} {out : Int32} (X : Cx p s m args meth c prog_5_method_8_code 1 ws_Mg_kind R_Mg (some .int) D g) (hl : lv_has ls 1 [(0, .ref (a0 0))]) (hI : Iw D A (w_Mg g a0 s0 ++ (rest)) H) (hS : va_S A s.heap H locs) (h : B_Mg_kind_0  s0 = some out) : W p l e (headSpec ws_Mg_kind { frames := 0, cells := 0, slots := 0, locals := 0 }).room s m args below meth c H locs 0 0 (MQ below (QcI D A g out (fun (_ : Unit) => w_Mg g a0 s0 ++ (rest))) args s 0 0 A) (F0 m 0 ls []) := by
  have X1 := X
  obtain ⟨hx, hb, hml, hown, hts, hr, hlocks, hKK⟩ := X1
  have ht : ∀ w ∈ TB, w.before args s = true := fun w h => hts w (List.mem_cons_of_mem _ h)
  have hK := hKK.1
  unfold B_Mg_kind_0 at h
  refine lv_aload_n hx hb d_Mg_kind_0 rfl (lv_at hl 0 rfl) ?_
  refine va_get (D := D) (ci := 3) (v := .int (Mg_kind s0)) (C := R_Mg) (T := T_Mg) (N := 5) hx hb ht in_Mg hown hK hI.1 0 rfl rfl 2 (by decide) (ht _ m_83) (fun _ h9 => h9) rfl d_Mg_kind_1 ?_
  have h9 := Option.some.inj h
  subst h9
  exact W.iret (v := (Mg_kind s0)) hx hb hr (fun t ht hW => ⟨⟨_, (), rfl, rfl, ⟨by rw [ht]; exact hI, hKK.moved hW⟩⟩, hS.F ht⟩) hS.2.2 d_Mg_kind_4
set_option maxRecDepth 100000 in
set_option maxHeartbeats 4000000 in
theorem c_Mg_kind {l : Launch} {D : va_G} {A : Nat → Prop} {g : Nat → ClassId} {rest : va_W} {a0 : Nat → Nat} {s0 : S_Mg} {out : Int32} (h : F_Mg_kind s0 = some out) : Met l y_Mg_kind ws_Mg_kind { frames := 0, cells := 0, slots := 0, locals := 0 } (PcW D A g [.ref (a0 0)] (w_Mg g a0 s0 ++ (rest))) (QcI D A g out (fun (_ : Unit) => w_Mg g a0 s0 ++ (rest))) 0 0 A := by
  refine Met.ofW (cc := prog_5_method_8_code) (maxL := 1) (ret := (some .int)) (by decide) rfl ?_
  intro p e s m args below meth c s₁ B hml hv
  obtain ⟨rfl, hI, hK⟩ := hv
  have hl := lv_entry [.ref (a0 0)] (n := 1) (Nat.le_of_ble_eq_true rfl)
  rw [lg_entry_eq]
  generalize (lg_sl [.ref (a0 0)] ++ List.replicate (1 - (lg_sl [.ref (a0 0)]).length) Slot.unset).toArray = ls at hl ⊢
  have hl : lv_has ls 1 [(0, .ref (a0 0))] := hl
  exact t_Mg_kind_0 ⟨B.exec, B.bytes, hml, findClass_of_methodNamed B.named, atoms_spec (ws := ws_Mg_kind) B.pre, B.returns, B.notSynchronized, hK⟩ (lv_sub hl [0] rfl) hI va_S.rf h
def ws_Mg_hasSet : List Cond := .code y_Mg_hasSet prog_5_method_10_code 1 (some .boolean) :: TB
def B_Mg_hasSet_0 (s0 : S_Mg) : Option Int32 :=
  (if (Mg_hasSet s0) = 0 ∨ (Mg_hasSet s0) = 1 then some (Mg_hasSet s0) else none)
def F_Mg_hasSet (s0 : S_Mg) : Option Int32 := B_Mg_hasSet_0 s0
set_option maxRecDepth 100000 in
set_option maxHeartbeats 4000000 in
theorem t_Mg_hasSet_0 {p : Program} {l : Launch} {e : Env} {s : State} {m : MethodId} {args : Array Value} {below : List Frame} {meth : Method} {c : Code} {D : va_G} {A : Nat → Prop} {g : Nat → ClassId} {rest : va_W} {a0 : Nat → Nat} {ls : Array Slot} {H : Heap} {locs : List Loc} {s0 : S_Mg} {out : Int32} (X : Cx p s m args meth c prog_5_method_10_code 1 ws_Mg_hasSet R_Mg (some .boolean) D g) (hl : lv_has ls 1 [(0, .ref (a0 0))]) (hI : Iw D A (w_Mg g a0 s0 ++ (rest)) H) (hS : va_S A s.heap H locs) (h : B_Mg_hasSet_0  s0 = some out) : W p l e (headSpec ws_Mg_hasSet { frames := 0, cells := 0, slots := 0, locals := 0 }).room s m args below meth c H locs 0 0 (MQ below (QcI D A g out (fun (_ : Unit) => w_Mg g a0 s0 ++ (rest))) args s 0 0 A) (F0 m 0 ls []) := by
  have X1 := X
  obtain ⟨hx, hb, hml, hown, hts, hr, hlocks, hKK⟩ := X1
  have ht : ∀ w ∈ TB, w.before args s = true := fun w h => hts w (List.mem_cons_of_mem _ h)
  have hK := hKK.1
  unfold B_Mg_hasSet_0 at h
  refine lv_aload_n hx hb d_Mg_hasSet_0 rfl (lv_at hl 0 rfl) ?_
  refine va_get (D := D) (ci := 3) (v := .int (Mg_hasSet s0)) (C := R_Mg) (T := T_Mg) (N := 5) hx hb ht in_Mg hown hK hI.1 0 rfl rfl 4 (by decide) (ht _ m_85) (fun _ h9 => h9) rfl d_Mg_hasSet_1 ?_
  have hc1 : (Mg_hasSet s0) = 0 ∨ (Mg_hasSet s0) = 1 := by
    by_cases z : (Mg_hasSet s0) = 0 ∨ (Mg_hasSet s0) = 1
    · exact z
    · exact no_s (it_f h z)
  have h := it_t h hc1
  have h9 := Option.some.inj h
  subst h9
  exact W.zret (v := (Mg_hasSet s0)) hx hb hr (by rcases hc1 with z | z <;> rw [z] <;> rfl) (fun t ht hW => ⟨⟨_, (), rfl, rfl, ⟨by rw [ht]; exact hI, hKK.moved hW⟩⟩, hS.F ht⟩) hS.2.2 d_Mg_hasSet_4
set_option maxRecDepth 100000 in
set_option maxHeartbeats 4000000 in
theorem c_Mg_hasSet {l : Launch} {D : va_G} {A : Nat → Prop} {g : Nat → ClassId} {rest : va_W} {a0 : Nat → Nat} {s0 : S_Mg} {out : Int32} (h : F_Mg_hasSet s0 = some out) : Met l y_Mg_hasSet ws_Mg_hasSet { frames := 0, cells := 0, slots := 0, locals := 0 } (PcW D A g [.ref (a0 0)] (w_Mg g a0 s0 ++ (rest))) (QcI D A g out (fun (_ : Unit) => w_Mg g a0 s0 ++ (rest))) 0 0 A := by
  refine Met.ofW (cc := prog_5_method_10_code) (maxL := 1) (ret := (some .boolean)) (by decide) rfl ?_
  intro p e s m args below meth c s₁ B hml hv
  obtain ⟨rfl, hI, hK⟩ := hv
  have hl := lv_entry [.ref (a0 0)] (n := 1) (Nat.le_of_ble_eq_true rfl)
  rw [lg_entry_eq]
  generalize (lg_sl [.ref (a0 0)] ++ List.replicate (1 - (lg_sl [.ref (a0 0)]).length) Slot.unset).toArray = ls at hl ⊢
  have hl : lv_has ls 1 [(0, .ref (a0 0))] := hl
  exact t_Mg_hasSet_0 ⟨B.exec, B.bytes, hml, findClass_of_methodNamed B.named, atoms_spec (ws := ws_Mg_hasSet) B.pre, B.returns, B.notSynchronized, hK⟩ (lv_sub hl [0] rfl) hI va_S.rf h
def ws_Mg_number : List Cond := .code y_Mg_number prog_5_method_9_code 1 (some .int) :: TB
def B_Mg_number_0 (s0 : S_Mg) : Option Int32 :=
  some (Mg_number s0)
def F_Mg_number (s0 : S_Mg) : Option Int32 := B_Mg_number_0 s0
set_option maxRecDepth 100000 in
set_option maxHeartbeats 4000000 in
theorem t_Mg_number_0 {p : Program} {l : Launch} {e : Env} {s : State} {m : MethodId} {args : Array Value} {below : List Frame} {meth : Method} {c : Code} {D : va_G} {A : Nat → Prop} {g : Nat → ClassId} {rest : va_W} {a0 : Nat → Nat} {ls : Array Slot} {H : Heap} {locs : List Loc} {s0 : S_Mg} {out : Int32} (X : Cx p s m args meth c prog_5_method_9_code 1 ws_Mg_number R_Mg (some .int) D g) (hl : lv_has ls 1 [(0, .ref (a0 0))]) (hI : Iw D A (w_Mg g a0 s0 ++ (rest)) H) (hS : va_S A s.heap H locs) (h : B_Mg_number_0  s0 = some out) : W p l e (headSpec ws_Mg_number { frames := 0, cells := 0, slots := 0, locals := 0 }).room s m args below meth c H locs 0 0 (MQ below (QcI D A g out (fun (_ : Unit) => w_Mg g a0 s0 ++ (rest))) args s 0 0 A) (F0 m 0 ls []) := by
  have X1 := X
  obtain ⟨hx, hb, hml, hown, hts, hr, hlocks, hKK⟩ := X1
  have ht : ∀ w ∈ TB, w.before args s = true := fun w h => hts w (List.mem_cons_of_mem _ h)
  have hK := hKK.1
  unfold B_Mg_number_0 at h
  refine lv_aload_n hx hb d_Mg_number_0 rfl (lv_at hl 0 rfl) ?_
  refine va_get (D := D) (ci := 3) (v := .int (Mg_number s0)) (C := R_Mg) (T := T_Mg) (N := 5) hx hb ht in_Mg hown hK hI.1 0 rfl rfl 3 (by decide) (ht _ m_84) (fun _ h9 => h9) rfl d_Mg_number_1 ?_
  have h9 := Option.some.inj h
  subst h9
  exact W.iret (v := (Mg_number s0)) hx hb hr (fun t ht hW => ⟨⟨_, (), rfl, rfl, ⟨by rw [ht]; exact hI, hKK.moved hW⟩⟩, hS.F ht⟩) hS.2.2 d_Mg_number_4
set_option maxRecDepth 100000 in
set_option maxHeartbeats 4000000 in
theorem c_Mg_number {l : Launch} {D : va_G} {A : Nat → Prop} {g : Nat → ClassId} {rest : va_W} {a0 : Nat → Nat} {s0 : S_Mg} {out : Int32} (h : F_Mg_number s0 = some out) : Met l y_Mg_number ws_Mg_number { frames := 0, cells := 0, slots := 0, locals := 0 } (PcW D A g [.ref (a0 0)] (w_Mg g a0 s0 ++ (rest))) (QcI D A g out (fun (_ : Unit) => w_Mg g a0 s0 ++ (rest))) 0 0 A := by
  refine Met.ofW (cc := prog_5_method_9_code) (maxL := 1) (ret := (some .int)) (by decide) rfl ?_
  intro p e s m args below meth c s₁ B hml hv
  obtain ⟨rfl, hI, hK⟩ := hv
  have hl := lv_entry [.ref (a0 0)] (n := 1) (Nat.le_of_ble_eq_true rfl)
  rw [lg_entry_eq]
  generalize (lg_sl [.ref (a0 0)] ++ List.replicate (1 - (lg_sl [.ref (a0 0)]).length) Slot.unset).toArray = ls at hl ⊢
  have hl : lv_has ls 1 [(0, .ref (a0 0))] := hl
  exact t_Mg_number_0 ⟨B.exec, B.bytes, hml, findClass_of_methodNamed B.named, atoms_spec (ws := ws_Mg_number) B.pre, B.returns, B.notSynchronized, hK⟩ (lv_sub hl [0] rfl) hI va_S.rf h
def ws_Cs_find : List Cond := .code y_Cs_find prog_3_method_7_code 3 (some .int) :: TB
def B_Cs_find_28 (s0 : S_Cs) : Option Int32 :=
  some ((-1) : Int32)
def B_Cs_find_22 (k2 : Int32 × Int32 → Option Int32) (s0 : S_Cs) (x1 : Int32) (x2 : Int32) : Option Int32 :=
  (k2 (x1, (x2 + 1)))
def B_Cs_find_20 (s0 : S_Cs) (x2 : Int32) : Option Int32 :=
  some x2
def B_Cs_find_10 (k2 : Int32 × Int32 → Option Int32) (s0 : S_Cs) (x1 : Int32) (x2 : Int32) : Option Int32 :=
  (if (x2 < 0 ∨ 4 ≤ x2.toNatClampNeg) then none else (if ((Cs_ids s0) x2.toNatClampNeg) = x1 then (B_Cs_find_20 s0 x2) else (B_Cs_find_22 k2 s0 x1 x2)))
def B_Cs_find_2 (k2 : Int32 × Int32 → Option Int32) (s0 : S_Cs) (x1 : Int32) (x2 : Int32) : Option Int32 :=
  (if (Cs_count s0) ≤ x2 then (B_Cs_find_28 s0) else (B_Cs_find_10 k2 s0 x1 x2))
def L_Cs_find_2 (s0 : S_Cs) (v : Int32 × Int32) : Option Int32 := lp (fun k2 v => B_Cs_find_2  k2 s0 v.1 v.2) FU v
def B_Cs_find_0 (s0 : S_Cs) (x1 : Int32) : Option Int32 :=
  (L_Cs_find_2 s0 (x1, (0 : Int32)))
def F_Cs_find (s0 : S_Cs) (x1 : Int32) : Option Int32 := B_Cs_find_0 s0 x1
set_option maxRecDepth 100000 in
set_option maxHeartbeats 4000000 in
theorem t_Cs_find_28 {p : Program} {l : Launch} {e : Env} {s : State} {m : MethodId} {args : Array Value} {below : List Frame} {meth : Method} {c : Code} {D : va_G} {A : Nat → Prop} {g : Nat → ClassId} {rest : va_W} {a0 : Nat → Nat} {ls : Array Slot} {H : Heap} {locs : List Loc} {s0 : S_Cs} {out : Int32} (X : Cx p s m args meth c prog_3_method_7_code 3 ws_Cs_find R_Cs (some .int) D g) (hl : lv_has ls 3 []) (hI : Iw D A (w_Cs g a0 s0 ++ (rest)) H) (hS : va_S A s.heap H locs) (h : B_Cs_find_28  s0 = some out) : W p l e (headSpec ws_Cs_find { frames := 0, cells := 0, slots := 0, locals := 0 }).room s m args below meth c H locs 0 0 (MQ below (QcI D A g out (fun (_ : Unit) => w_Cs g a0 s0 ++ (rest))) args s 0 0 A) (F0 m 28 ls []) := by
  have X1 := X
  obtain ⟨hx, hb, hml, hown, hts, hr, hlocks, hKK⟩ := X1
  have ht : ∀ w ∈ TB, w.before args s = true := fun w h => hts w (List.mem_cons_of_mem _ h)
  have hK := hKK.1
  unfold B_Cs_find_28 at h
  refine lv_iconst (v := (-1)) hx hb d_Cs_find_28 (by decide) ?_
  have h9 := Option.some.inj h
  subst h9
  exact W.iret (v := ((-1) : Int32)) hx hb hr (fun t ht hW => ⟨⟨_, (), rfl, rfl, ⟨by rw [ht]; exact hI, hKK.moved hW⟩⟩, hS.F ht⟩) hS.2.2 d_Cs_find_29
set_option maxRecDepth 100000 in
set_option maxHeartbeats 4000000 in
theorem t_Cs_find_22 {p : Program} {l : Launch} {e : Env} {s : State} {m : MethodId} {args : Array Value} {below : List Frame} {meth : Method} {c : Code} {D : va_G} {A : Nat → Prop} {g : Nat → ClassId} {rest : va_W} {a0 : Nat → Nat} {ls : Array Slot} {H : Heap} {locs : List Loc} {k2 : Int32 × Int32 → Option Int32} {s0 : S_Cs} {x1 : Int32} {x2 : Int32} {out : Int32} (X : Cx p s m args meth c prog_3_method_7_code 3 ws_Cs_find R_Cs (some .int) D g) (hk2 : ∀ (v : Int32 × Int32) (ls : Array Slot) (H : Heap) (locs : List Loc), lv_has ls 3 [(0, .ref (a0 0)), (1, .int v.1), (2, .int v.2)] → Iw D A (w_Cs g a0 s0 ++ (rest)) H → va_S A s.heap H locs → k2 v = some out → W p l e (headSpec ws_Cs_find { frames := 0, cells := 0, slots := 0, locals := 0 }).room s m args below meth c H locs 0 0 (MQ below (QcI D A g out (fun (_ : Unit) => w_Cs g a0 s0 ++ (rest))) args s 0 0 A) (F0 m 2 ls [])) (hl : lv_has ls 3 [(0, .ref (a0 0)), (1, .int x1), (2, .int x2)]) (hI : Iw D A (w_Cs g a0 s0 ++ (rest)) H) (hS : va_S A s.heap H locs) (h : B_Cs_find_22 k2 s0 x1 x2 = some out) : W p l e (headSpec ws_Cs_find { frames := 0, cells := 0, slots := 0, locals := 0 }).room s m args below meth c H locs 0 0 (MQ below (QcI D A g out (fun (_ : Unit) => w_Cs g a0 s0 ++ (rest))) args s 0 0 A) (F0 m 22 ls []) := by
  have X1 := X
  obtain ⟨hx, hb, hml, hown, hts, hr, hlocks, hKK⟩ := X1
  have ht : ∀ w ∈ TB, w.before args s = true := fun w h => hts w (List.mem_cons_of_mem _ h)
  have hK := hKK.1
  unfold B_Cs_find_22 at h
  refine lv_iinc (k := 2) (v := (x2 + 1)) hx hb d_Cs_find_22 hl rfl (congrArg (fun z => x2 + z) (by decide)) (Nat.le_of_ble_eq_true rfl) rfl (fun ls hl => ?_)
  have hl : lv_has ls 3 [(2, .int (x2 + 1)), (0, .ref (a0 0)), (1, .int x1)] := hl
  refine lv_goto (tgt := 2) hx hb d_Cs_find_25 (by decide) ?_
  exact hk2 (x1, (x2 + 1)) _ _ _ (lv_sub hl [1, 2, 0] rfl) hI hS h
set_option maxRecDepth 100000 in
set_option maxHeartbeats 4000000 in
theorem t_Cs_find_20 {p : Program} {l : Launch} {e : Env} {s : State} {m : MethodId} {args : Array Value} {below : List Frame} {meth : Method} {c : Code} {D : va_G} {A : Nat → Prop} {g : Nat → ClassId} {rest : va_W} {a0 : Nat → Nat} {ls : Array Slot} {H : Heap} {locs : List Loc} {s0 : S_Cs} {x2 : Int32} {out : Int32} (X : Cx p s m args meth c prog_3_method_7_code 3 ws_Cs_find R_Cs (some .int) D g) (hl : lv_has ls 3 [(2, .int x2)]) (hI : Iw D A (w_Cs g a0 s0 ++ (rest)) H) (hS : va_S A s.heap H locs) (h : B_Cs_find_20  s0 x2 = some out) : W p l e (headSpec ws_Cs_find { frames := 0, cells := 0, slots := 0, locals := 0 }).room s m args below meth c H locs 0 0 (MQ below (QcI D A g out (fun (_ : Unit) => w_Cs g a0 s0 ++ (rest))) args s 0 0 A) (F0 m 20 ls []) := by
  have X1 := X
  obtain ⟨hx, hb, hml, hown, hts, hr, hlocks, hKK⟩ := X1
  have ht : ∀ w ∈ TB, w.before args s = true := fun w h => hts w (List.mem_cons_of_mem _ h)
  have hK := hKK.1
  unfold B_Cs_find_20 at h
  refine lv_iload_n hx hb d_Cs_find_20 rfl (lv_at hl 0 rfl) ?_
  have h9 := Option.some.inj h
  subst h9
  exact W.iret (v := x2) hx hb hr (fun t ht hW => ⟨⟨_, (), rfl, rfl, ⟨by rw [ht]; exact hI, hKK.moved hW⟩⟩, hS.F ht⟩) hS.2.2 d_Cs_find_21
set_option maxRecDepth 100000 in
set_option maxHeartbeats 4000000 in
theorem t_Cs_find_10 {p : Program} {l : Launch} {e : Env} {s : State} {m : MethodId} {args : Array Value} {below : List Frame} {meth : Method} {c : Code} {D : va_G} {A : Nat → Prop} {g : Nat → ClassId} {rest : va_W} {a0 : Nat → Nat} {ls : Array Slot} {H : Heap} {locs : List Loc} {k2 : Int32 × Int32 → Option Int32} {s0 : S_Cs} {x1 : Int32} {x2 : Int32} {out : Int32} (X : Cx p s m args meth c prog_3_method_7_code 3 ws_Cs_find R_Cs (some .int) D g) (hk2 : ∀ (v : Int32 × Int32) (ls : Array Slot) (H : Heap) (locs : List Loc), lv_has ls 3 [(0, .ref (a0 0)), (1, .int v.1), (2, .int v.2)] → Iw D A (w_Cs g a0 s0 ++ (rest)) H → va_S A s.heap H locs → k2 v = some out → W p l e (headSpec ws_Cs_find { frames := 0, cells := 0, slots := 0, locals := 0 }).room s m args below meth c H locs 0 0 (MQ below (QcI D A g out (fun (_ : Unit) => w_Cs g a0 s0 ++ (rest))) args s 0 0 A) (F0 m 2 ls [])) (hl : lv_has ls 3 [(0, .ref (a0 0)), (1, .int x1), (2, .int x2)]) (hI : Iw D A (w_Cs g a0 s0 ++ (rest)) H) (hS : va_S A s.heap H locs) (h : B_Cs_find_10 k2 s0 x1 x2 = some out) : W p l e (headSpec ws_Cs_find { frames := 0, cells := 0, slots := 0, locals := 0 }).room s m args below meth c H locs 0 0 (MQ below (QcI D A g out (fun (_ : Unit) => w_Cs g a0 s0 ++ (rest))) args s 0 0 A) (F0 m 10 ls []) := by
  have X1 := X
  obtain ⟨hx, hb, hml, hown, hts, hr, hlocks, hKK⟩ := X1
  have ht : ∀ w ∈ TB, w.before args s = true := fun w h => hts w (List.mem_cons_of_mem _ h)
  have hK := hKK.1
  unfold B_Cs_find_10 at h
  refine lv_aload_n hx hb d_Cs_find_10 rfl (lv_at hl 0 rfl) ?_
  refine va_get (D := D) (ci := 1) (v := .ref (a0 1)) (C := R_Cs) (T := T_Cs) (N := 4) hx hb ht in_Cs hown hK hI.1 0 rfl rfl 0 (by decide) (ht _ m_62) (fun _ h9 => h9) rfl d_Cs_find_11 ?_
  refine lv_iload_n hx hb d_Cs_find_14 rfl (lv_at hl 2 rfl) ?_
  by_cases hc1 : (x2 < 0 ∨ 4 ≤ x2.toNatClampNeg)
  · exact no_s (it_t h hc1)
  have h := it_f h hc1
  refine va_iald hx hb hK hI.1 1 0 rfl rfl hc1 d_Cs_find_15 ?_
  refine lv_iload_n hx hb d_Cs_find_16 rfl (lv_at hl 1 rfl) ?_
  refine lv_icmp_ne (tgt := 22) hx hb d_Cs_find_17 (by decide) (fun hc => ?_) (fun hc => ?_)
  · have h := it_f h hc
    exact t_Cs_find_22 X hk2 (lv_sub hl [0, 1, 2] rfl) hI hS h
  · have h := it_t h hc
    exact t_Cs_find_20 X (lv_sub hl [2] rfl) hI hS h
set_option maxRecDepth 100000 in
set_option maxHeartbeats 4000000 in
theorem t_Cs_find_2 {p : Program} {l : Launch} {e : Env} {s : State} {m : MethodId} {args : Array Value} {below : List Frame} {meth : Method} {c : Code} {D : va_G} {A : Nat → Prop} {g : Nat → ClassId} {rest : va_W} {a0 : Nat → Nat} {ls : Array Slot} {H : Heap} {locs : List Loc} {k2 : Int32 × Int32 → Option Int32} {s0 : S_Cs} {x1 : Int32} {x2 : Int32} {out : Int32} (X : Cx p s m args meth c prog_3_method_7_code 3 ws_Cs_find R_Cs (some .int) D g) (hk2 : ∀ (v : Int32 × Int32) (ls : Array Slot) (H : Heap) (locs : List Loc), lv_has ls 3 [(0, .ref (a0 0)), (1, .int v.1), (2, .int v.2)] → Iw D A (w_Cs g a0 s0 ++ (rest)) H → va_S A s.heap H locs → k2 v = some out → W p l e (headSpec ws_Cs_find { frames := 0, cells := 0, slots := 0, locals := 0 }).room s m args below meth c H locs 0 0 (MQ below (QcI D A g out (fun (_ : Unit) => w_Cs g a0 s0 ++ (rest))) args s 0 0 A) (F0 m 2 ls [])) (hl : lv_has ls 3 [(0, .ref (a0 0)), (1, .int x1), (2, .int x2)]) (hI : Iw D A (w_Cs g a0 s0 ++ (rest)) H) (hS : va_S A s.heap H locs) (h : B_Cs_find_2 k2 s0 x1 x2 = some out) : W p l e (headSpec ws_Cs_find { frames := 0, cells := 0, slots := 0, locals := 0 }).room s m args below meth c H locs 0 0 (MQ below (QcI D A g out (fun (_ : Unit) => w_Cs g a0 s0 ++ (rest))) args s 0 0 A) (F0 m 2 ls []) := by
  have X1 := X
  obtain ⟨hx, hb, hml, hown, hts, hr, hlocks, hKK⟩ := X1
  have ht : ∀ w ∈ TB, w.before args s = true := fun w h => hts w (List.mem_cons_of_mem _ h)
  have hK := hKK.1
  unfold B_Cs_find_2 at h
  refine lv_iload_n hx hb d_Cs_find_2 rfl (lv_at hl 2 rfl) ?_
  refine lv_aload_n hx hb d_Cs_find_3 rfl (lv_at hl 0 rfl) ?_
  refine va_get (D := D) (ci := 1) (v := .int (Cs_count s0)) (C := R_Cs) (T := T_Cs) (N := 4) hx hb ht in_Cs hown hK hI.1 0 rfl rfl 3 (by decide) (ht _ m_65) (fun _ h9 => h9) rfl d_Cs_find_4 ?_
  refine lv_icmp_ge (tgt := 28) hx hb d_Cs_find_7 (by decide) (fun hc => ?_) (fun hc => ?_)
  · have h := it_t h hc
    exact t_Cs_find_28 X (lv_sub hl [] rfl) hI hS h
  · have h := it_f h hc
    exact t_Cs_find_10 X hk2 (lv_sub hl [0, 1, 2] rfl) hI hS h
set_option maxRecDepth 100000 in
set_option maxHeartbeats 4000000 in
theorem T_Cs_find_2 {p : Program} {l : Launch} {e : Env} {s : State} {m : MethodId} {args : Array Value} {below : List Frame} {meth : Method} {c : Code} {D : va_G} {A : Nat → Prop} {g : Nat → ClassId} {rest : va_W} {a0 : Nat → Nat} {ls : Array Slot} {H : Heap} {locs : List Loc} {s0 : S_Cs} {x1 : Int32} {x2 : Int32} {out : Int32} (X : Cx p s m args meth c prog_3_method_7_code 3 ws_Cs_find R_Cs (some .int) D g) (hl : lv_has ls 3 [(0, .ref (a0 0)), (1, .int x1), (2, .int x2)]) (hI : Iw D A (w_Cs g a0 s0 ++ (rest)) H) (hS : va_S A s.heap H locs) (h : L_Cs_find_2  s0 (x1, x2) = some out) : W p l e (headSpec ws_Cs_find { frames := 0, cells := 0, slots := 0, locals := 0 }).room s m args below meth c H locs 0 0 (MQ below (QcI D A g out (fun (_ : Unit) => w_Cs g a0 s0 ++ (rest))) args s 0 0 A) (F0 m 2 ls []) := by
  unfold L_Cs_find_2 at h
  exact lp_ind (P := fun v => ∀ (ls : Array Slot) (H : Heap) (locs : List Loc), lv_has ls 3 [(0, .ref (a0 0)), (1, .int v.1), (2, .int v.2)] → Iw D A (w_Cs g a0 s0 ++ (rest)) H → va_S A s.heap H locs → W p l e (headSpec ws_Cs_find { frames := 0, cells := 0, slots := 0, locals := 0 }).room s m args below meth c H locs 0 0 (MQ below (QcI D A g out (fun (_ : Unit) => w_Cs g a0 s0 ++ (rest))) args s 0 0 A) (F0 m 2 ls [])) (fun k v ih hb ls H locs  hl hI hS => t_Cs_find_2 X  (fun v' ls H locs  hl hI hS h' => ih v' h' ls H locs  hl hI hS) hl hI hS hb) FU _ h ls H locs  hl hI hS
set_option maxRecDepth 100000 in
set_option maxHeartbeats 4000000 in
theorem t_Cs_find_0 {p : Program} {l : Launch} {e : Env} {s : State} {m : MethodId} {args : Array Value} {below : List Frame} {meth : Method} {c : Code} {D : va_G} {A : Nat → Prop} {g : Nat → ClassId} {rest : va_W} {a0 : Nat → Nat} {ls : Array Slot} {H : Heap} {locs : List Loc} {s0 : S_Cs} {x1 : Int32} {out : Int32} (X : Cx p s m args meth c prog_3_method_7_code 3 ws_Cs_find R_Cs (some .int) D g) (hl : lv_has ls 3 [(0, .ref (a0 0)), (1, .int x1)]) (hI : Iw D A (w_Cs g a0 s0 ++ (rest)) H) (hS : va_S A s.heap H locs) (h : B_Cs_find_0  s0 x1 = some out) : W p l e (headSpec ws_Cs_find { frames := 0, cells := 0, slots := 0, locals := 0 }).room s m args below meth c H locs 0 0 (MQ below (QcI D A g out (fun (_ : Unit) => w_Cs g a0 s0 ++ (rest))) args s 0 0 A) (F0 m 0 ls []) := by
  have X1 := X
  obtain ⟨hx, hb, hml, hown, hts, hr, hlocks, hKK⟩ := X1
  have ht : ∀ w ∈ TB, w.before args s = true := fun w h => hts w (List.mem_cons_of_mem _ h)
  have hK := hKK.1
  unfold B_Cs_find_0 at h
  refine lv_iconst (v := 0) hx hb d_Cs_find_0 (by decide) ?_
  refine lv_istore_n hx hb d_Cs_find_1 rfl hl (Nat.le_of_ble_eq_true rfl) rfl (fun ls hl => ?_)
  have hl : lv_has ls 3 [(2, .int (0 : Int32)), (0, .ref (a0 0)), (1, .int x1)] := hl
  exact T_Cs_find_2 X (lv_sub hl [1, 2, 0] rfl) hI hS h
set_option maxRecDepth 100000 in
set_option maxHeartbeats 4000000 in
theorem c_Cs_find {l : Launch} {D : va_G} {A : Nat → Prop} {g : Nat → ClassId} {rest : va_W} {a0 : Nat → Nat} {s0 : S_Cs} {x1 : Int32} {out : Int32} (h : F_Cs_find s0 x1 = some out) : Met l y_Cs_find ws_Cs_find { frames := 0, cells := 0, slots := 0, locals := 0 } (PcW D A g [.ref (a0 0), .int x1] (w_Cs g a0 s0 ++ (rest))) (QcI D A g out (fun (_ : Unit) => w_Cs g a0 s0 ++ (rest))) 0 0 A := by
  refine Met.ofW (cc := prog_3_method_7_code) (maxL := 3) (ret := (some .int)) (by decide) rfl ?_
  intro p e s m args below meth c s₁ B hml hv
  obtain ⟨rfl, hI, hK⟩ := hv
  have hl := lv_entry [.ref (a0 0), .int x1] (n := 3) (Nat.le_of_ble_eq_true rfl)
  rw [lg_entry_eq]
  generalize (lg_sl [.ref (a0 0), .int x1] ++ List.replicate (3 - (lg_sl [.ref (a0 0), .int x1]).length) Slot.unset).toArray = ls at hl ⊢
  have hl : lv_has ls 3 [(0, .ref (a0 0)), (1, .int x1)] := hl
  exact t_Cs_find_0 ⟨B.exec, B.bytes, hml, findClass_of_methodNamed B.named, atoms_spec (ws := ws_Cs_find) B.pre, B.returns, B.notSynchronized, hK⟩ (lv_sub hl [0, 1] rfl) hI va_S.rf h
def ws_Cs_resultOf : List Cond := .code y_Cs_resultOf prog_3_method_10_code 2 (some .int) :: TB
def B_Cs_resultOf_10 : Option Int32 :=
  some (2 : Int32)
def B_Cs_resultOf_31 (y0 : Int32) : Option Int32 :=
  some y0
def B_Cs_resultOf_30 : Option Int32 :=
  (B_Cs_resultOf_31 (3 : Int32))
def B_Cs_resultOf_26 : Option Int32 :=
  (B_Cs_resultOf_31 (1 : Int32))
def B_Cs_resultOf_20 (x1 : Int32) : Option Int32 :=
  (if (x1 &&& (2 : Int32)) = 0 then (B_Cs_resultOf_30 ) else (B_Cs_resultOf_26 ))
def B_Cs_resultOf_18 : Option Int32 :=
  some (0 : Int32)
def B_Cs_resultOf_12 (x1 : Int32) : Option Int32 :=
  (if (x1 &&& (1 : Int32)) = 0 then (B_Cs_resultOf_20 x1) else (B_Cs_resultOf_18 ))
def B_Cs_resultOf_5 (x0 : Int32) (x1 : Int32) : Option Int32 :=
  (if x0 ≤ (3 : Int32) then (B_Cs_resultOf_12 x1) else (B_Cs_resultOf_10 ))
def B_Cs_resultOf_0 (x0 : Int32) (x1 : Int32) : Option Int32 :=
  (if x0 < (1 : Int32) then (B_Cs_resultOf_10 ) else (B_Cs_resultOf_5 x0 x1))
def F_Cs_resultOf (x0 : Int32) (x1 : Int32) : Option Int32 := B_Cs_resultOf_0 x0 x1
set_option maxRecDepth 100000 in
set_option maxHeartbeats 4000000 in
theorem t_Cs_resultOf_10 {p : Program} {l : Launch} {e : Env} {s : State} {m : MethodId} {args : Array Value} {below : List Frame} {meth : Method} {c : Code} {D : va_G} {A : Nat → Prop} {g : Nat → ClassId} {rest : va_W} {ls : Array Slot} {H : Heap} {locs : List Loc} {out : Int32} (X : Cx p s m args meth c prog_3_method_10_code 2 ws_Cs_resultOf R_Cs (some .int) D g) (hl : lv_has ls 2 []) (hI : Iw D A (rest) H) (hS : va_S A s.heap H locs) (h : B_Cs_resultOf_10   = some out) : W p l e (headSpec ws_Cs_resultOf { frames := 0, cells := 0, slots := 0, locals := 0 }).room s m args below meth c H locs 0 0 (MQ below (QcI D A g out (fun (_ : Unit) => rest)) args s 0 0 A) (F0 m 10 ls []) := by
  have X1 := X
  obtain ⟨hx, hb, hml, hown, hts, hr, hlocks, hKK⟩ := X1
  have ht : ∀ w ∈ TB, w.before args s = true := fun w h => hts w (List.mem_cons_of_mem _ h)
  have hK := hKK.1
  unfold B_Cs_resultOf_10 at h
  refine lv_iconst (v := 2) hx hb d_Cs_resultOf_10 (by decide) ?_
  have h9 := Option.some.inj h
  subst h9
  exact W.iret (v := (2 : Int32)) hx hb hr (fun t ht hW => ⟨⟨_, (), rfl, rfl, ⟨by rw [ht]; exact hI, hKK.moved hW⟩⟩, hS.F ht⟩) hS.2.2 d_Cs_resultOf_11
set_option maxRecDepth 100000 in
set_option maxHeartbeats 4000000 in
theorem t_Cs_resultOf_31 {p : Program} {l : Launch} {e : Env} {s : State} {m : MethodId} {args : Array Value} {below : List Frame} {meth : Method} {c : Code} {D : va_G} {A : Nat → Prop} {g : Nat → ClassId} {rest : va_W} {ls : Array Slot} {H : Heap} {locs : List Loc} {y0 : Int32} {out : Int32} (X : Cx p s m args meth c prog_3_method_10_code 2 ws_Cs_resultOf R_Cs (some .int) D g) (hl : lv_has ls 2 []) (hI : Iw D A (rest) H) (hS : va_S A s.heap H locs) (h : B_Cs_resultOf_31  y0 = some out) : W p l e (headSpec ws_Cs_resultOf { frames := 0, cells := 0, slots := 0, locals := 0 }).room s m args below meth c H locs 0 0 (MQ below (QcI D A g out (fun (_ : Unit) => rest)) args s 0 0 A) (F0 m 31 ls [.int y0]) := by
  have X1 := X
  obtain ⟨hx, hb, hml, hown, hts, hr, hlocks, hKK⟩ := X1
  have ht : ∀ w ∈ TB, w.before args s = true := fun w h => hts w (List.mem_cons_of_mem _ h)
  have hK := hKK.1
  unfold B_Cs_resultOf_31 at h
  have h9 := Option.some.inj h
  subst h9
  exact W.iret (v := y0) hx hb hr (fun t ht hW => ⟨⟨_, (), rfl, rfl, ⟨by rw [ht]; exact hI, hKK.moved hW⟩⟩, hS.F ht⟩) hS.2.2 d_Cs_resultOf_31
set_option maxRecDepth 100000 in
set_option maxHeartbeats 4000000 in
theorem t_Cs_resultOf_30 {p : Program} {l : Launch} {e : Env} {s : State} {m : MethodId} {args : Array Value} {below : List Frame} {meth : Method} {c : Code} {D : va_G} {A : Nat → Prop} {g : Nat → ClassId} {rest : va_W} {ls : Array Slot} {H : Heap} {locs : List Loc} {out : Int32} (X : Cx p s m args meth c prog_3_method_10_code 2 ws_Cs_resultOf R_Cs (some .int) D g) (hl : lv_has ls 2 []) (hI : Iw D A (rest) H) (hS : va_S A s.heap H locs) (h : B_Cs_resultOf_30   = some out) : W p l e (headSpec ws_Cs_resultOf { frames := 0, cells := 0, slots := 0, locals := 0 }).room s m args below meth c H locs 0 0 (MQ below (QcI D A g out (fun (_ : Unit) => rest)) args s 0 0 A) (F0 m 30 ls []) := by
  have X1 := X
  obtain ⟨hx, hb, hml, hown, hts, hr, hlocks, hKK⟩ := X1
  have ht : ∀ w ∈ TB, w.before args s = true := fun w h => hts w (List.mem_cons_of_mem _ h)
  have hK := hKK.1
  unfold B_Cs_resultOf_30 at h
  refine lv_iconst (v := 3) hx hb d_Cs_resultOf_30 (by decide) ?_
  exact t_Cs_resultOf_31 X (lv_sub hl [] rfl) hI hS h
set_option maxRecDepth 100000 in
set_option maxHeartbeats 4000000 in
theorem t_Cs_resultOf_26 {p : Program} {l : Launch} {e : Env} {s : State} {m : MethodId} {args : Array Value} {below : List Frame} {meth : Method} {c : Code} {D : va_G} {A : Nat → Prop} {g : Nat → ClassId} {rest : va_W} {ls : Array Slot} {H : Heap} {locs : List Loc} {out : Int32} (X : Cx p s m args meth c prog_3_method_10_code 2 ws_Cs_resultOf R_Cs (some .int) D g) (hl : lv_has ls 2 []) (hI : Iw D A (rest) H) (hS : va_S A s.heap H locs) (h : B_Cs_resultOf_26   = some out) : W p l e (headSpec ws_Cs_resultOf { frames := 0, cells := 0, slots := 0, locals := 0 }).room s m args below meth c H locs 0 0 (MQ below (QcI D A g out (fun (_ : Unit) => rest)) args s 0 0 A) (F0 m 26 ls []) := by
  have X1 := X
  obtain ⟨hx, hb, hml, hown, hts, hr, hlocks, hKK⟩ := X1
  have ht : ∀ w ∈ TB, w.before args s = true := fun w h => hts w (List.mem_cons_of_mem _ h)
  have hK := hKK.1
  unfold B_Cs_resultOf_26 at h
  refine lv_iconst (v := 1) hx hb d_Cs_resultOf_26 (by decide) ?_
  refine lv_goto (tgt := 31) hx hb d_Cs_resultOf_27 (by decide) ?_
  exact t_Cs_resultOf_31 X (lv_sub hl [] rfl) hI hS h
set_option maxRecDepth 100000 in
set_option maxHeartbeats 4000000 in
theorem t_Cs_resultOf_20 {p : Program} {l : Launch} {e : Env} {s : State} {m : MethodId} {args : Array Value} {below : List Frame} {meth : Method} {c : Code} {D : va_G} {A : Nat → Prop} {g : Nat → ClassId} {rest : va_W} {ls : Array Slot} {H : Heap} {locs : List Loc} {x1 : Int32} {out : Int32} (X : Cx p s m args meth c prog_3_method_10_code 2 ws_Cs_resultOf R_Cs (some .int) D g) (hl : lv_has ls 2 [(1, .int x1)]) (hI : Iw D A (rest) H) (hS : va_S A s.heap H locs) (h : B_Cs_resultOf_20  x1 = some out) : W p l e (headSpec ws_Cs_resultOf { frames := 0, cells := 0, slots := 0, locals := 0 }).room s m args below meth c H locs 0 0 (MQ below (QcI D A g out (fun (_ : Unit) => rest)) args s 0 0 A) (F0 m 20 ls []) := by
  have X1 := X
  obtain ⟨hx, hb, hml, hown, hts, hr, hlocks, hKK⟩ := X1
  have ht : ∀ w ∈ TB, w.before args s = true := fun w h => hts w (List.mem_cons_of_mem _ h)
  have hK := hKK.1
  unfold B_Cs_resultOf_20 at h
  refine lv_iload_n hx hb d_Cs_resultOf_20 rfl (lv_at hl 0 rfl) ?_
  refine lv_iconst (v := 2) hx hb d_Cs_resultOf_21 (by decide) ?_
  refine lv_iand hx hb d_Cs_resultOf_22 ?_
  refine lv_if_eq (tgt := 30) hx hb d_Cs_resultOf_23 (by decide) (fun hc => ?_) (fun hc => ?_)
  · have h := it_t h hc
    exact t_Cs_resultOf_30 X (lv_sub hl [] rfl) hI hS h
  · have h := it_f h hc
    exact t_Cs_resultOf_26 X (lv_sub hl [] rfl) hI hS h
set_option maxRecDepth 100000 in
set_option maxHeartbeats 4000000 in
theorem t_Cs_resultOf_18 {p : Program} {l : Launch} {e : Env} {s : State} {m : MethodId} {args : Array Value} {below : List Frame} {meth : Method} {c : Code} {D : va_G} {A : Nat → Prop} {g : Nat → ClassId} {rest : va_W} {ls : Array Slot} {H : Heap} {locs : List Loc} {out : Int32} (X : Cx p s m args meth c prog_3_method_10_code 2 ws_Cs_resultOf R_Cs (some .int) D g) (hl : lv_has ls 2 []) (hI : Iw D A (rest) H) (hS : va_S A s.heap H locs) (h : B_Cs_resultOf_18   = some out) : W p l e (headSpec ws_Cs_resultOf { frames := 0, cells := 0, slots := 0, locals := 0 }).room s m args below meth c H locs 0 0 (MQ below (QcI D A g out (fun (_ : Unit) => rest)) args s 0 0 A) (F0 m 18 ls []) := by
  have X1 := X
  obtain ⟨hx, hb, hml, hown, hts, hr, hlocks, hKK⟩ := X1
  have ht : ∀ w ∈ TB, w.before args s = true := fun w h => hts w (List.mem_cons_of_mem _ h)
  have hK := hKK.1
  unfold B_Cs_resultOf_18 at h
  refine lv_iconst (v := 0) hx hb d_Cs_resultOf_18 (by decide) ?_
  have h9 := Option.some.inj h
  subst h9
  exact W.iret (v := (0 : Int32)) hx hb hr (fun t ht hW => ⟨⟨_, (), rfl, rfl, ⟨by rw [ht]; exact hI, hKK.moved hW⟩⟩, hS.F ht⟩) hS.2.2 d_Cs_resultOf_19
set_option maxRecDepth 100000 in
set_option maxHeartbeats 4000000 in
theorem t_Cs_resultOf_12 {p : Program} {l : Launch} {e : Env} {s : State} {m : MethodId} {args : Array Value} {below : List Frame} {meth : Method} {c : Code} {D : va_G} {A : Nat → Prop} {g : Nat → ClassId} {rest : va_W} {ls : Array Slot} {H : Heap} {locs : List Loc} {x1 : Int32} {out : Int32} (X : Cx p s m args meth c prog_3_method_10_code 2 ws_Cs_resultOf R_Cs (some .int) D g) (hl : lv_has ls 2 [(1, .int x1)]) (hI : Iw D A (rest) H) (hS : va_S A s.heap H locs) (h : B_Cs_resultOf_12  x1 = some out) : W p l e (headSpec ws_Cs_resultOf { frames := 0, cells := 0, slots := 0, locals := 0 }).room s m args below meth c H locs 0 0 (MQ below (QcI D A g out (fun (_ : Unit) => rest)) args s 0 0 A) (F0 m 12 ls []) := by
  have X1 := X
  obtain ⟨hx, hb, hml, hown, hts, hr, hlocks, hKK⟩ := X1
  have ht : ∀ w ∈ TB, w.before args s = true := fun w h => hts w (List.mem_cons_of_mem _ h)
  have hK := hKK.1
  unfold B_Cs_resultOf_12 at h
  refine lv_iload_n hx hb d_Cs_resultOf_12 rfl (lv_at hl 0 rfl) ?_
  refine lv_iconst (v := 1) hx hb d_Cs_resultOf_13 (by decide) ?_
  refine lv_iand hx hb d_Cs_resultOf_14 ?_
  refine lv_if_eq (tgt := 20) hx hb d_Cs_resultOf_15 (by decide) (fun hc => ?_) (fun hc => ?_)
  · have h := it_t h hc
    exact t_Cs_resultOf_20 X (lv_sub hl [0] rfl) hI hS h
  · have h := it_f h hc
    exact t_Cs_resultOf_18 X (lv_sub hl [] rfl) hI hS h
set_option maxRecDepth 100000 in
set_option maxHeartbeats 4000000 in
theorem t_Cs_resultOf_5 {p : Program} {l : Launch} {e : Env} {s : State} {m : MethodId} {args : Array Value} {below : List Frame} {meth : Method} {c : Code} {D : va_G} {A : Nat → Prop} {g : Nat → ClassId} {rest : va_W} {ls : Array Slot} {H : Heap} {locs : List Loc} {x0 : Int32} {x1 : Int32} {out : Int32} (X : Cx p s m args meth c prog_3_method_10_code 2 ws_Cs_resultOf R_Cs (some .int) D g) (hl : lv_has ls 2 [(0, .int x0), (1, .int x1)]) (hI : Iw D A (rest) H) (hS : va_S A s.heap H locs) (h : B_Cs_resultOf_5  x0 x1 = some out) : W p l e (headSpec ws_Cs_resultOf { frames := 0, cells := 0, slots := 0, locals := 0 }).room s m args below meth c H locs 0 0 (MQ below (QcI D A g out (fun (_ : Unit) => rest)) args s 0 0 A) (F0 m 5 ls []) := by
  have X1 := X
  obtain ⟨hx, hb, hml, hown, hts, hr, hlocks, hKK⟩ := X1
  have ht : ∀ w ∈ TB, w.before args s = true := fun w h => hts w (List.mem_cons_of_mem _ h)
  have hK := hKK.1
  unfold B_Cs_resultOf_5 at h
  refine lv_iload_n hx hb d_Cs_resultOf_5 rfl (lv_at hl 0 rfl) ?_
  refine lv_iconst (v := 3) hx hb d_Cs_resultOf_6 (by decide) ?_
  refine lv_icmp_le (tgt := 12) hx hb d_Cs_resultOf_7 (by decide) (fun hc => ?_) (fun hc => ?_)
  · have h := it_t h hc
    exact t_Cs_resultOf_12 X (lv_sub hl [1] rfl) hI hS h
  · have h := it_f h hc
    exact t_Cs_resultOf_10 X (lv_sub hl [] rfl) hI hS h
set_option maxRecDepth 100000 in
set_option maxHeartbeats 4000000 in
theorem t_Cs_resultOf_0 {p : Program} {l : Launch} {e : Env} {s : State} {m : MethodId} {args : Array Value} {below : List Frame} {meth : Method} {c : Code} {D : va_G} {A : Nat → Prop} {g : Nat → ClassId} {rest : va_W} {ls : Array Slot} {H : Heap} {locs : List Loc} {x0 : Int32} {x1 : Int32} {out : Int32} (X : Cx p s m args meth c prog_3_method_10_code 2 ws_Cs_resultOf R_Cs (some .int) D g) (hl : lv_has ls 2 [(0, .int x0), (1, .int x1)]) (hI : Iw D A (rest) H) (hS : va_S A s.heap H locs) (h : B_Cs_resultOf_0  x0 x1 = some out) : W p l e (headSpec ws_Cs_resultOf { frames := 0, cells := 0, slots := 0, locals := 0 }).room s m args below meth c H locs 0 0 (MQ below (QcI D A g out (fun (_ : Unit) => rest)) args s 0 0 A) (F0 m 0 ls []) := by
  have X1 := X
  obtain ⟨hx, hb, hml, hown, hts, hr, hlocks, hKK⟩ := X1
  have ht : ∀ w ∈ TB, w.before args s = true := fun w h => hts w (List.mem_cons_of_mem _ h)
  have hK := hKK.1
  unfold B_Cs_resultOf_0 at h
  refine lv_iload_n hx hb d_Cs_resultOf_0 rfl (lv_at hl 0 rfl) ?_
  refine lv_iconst (v := 1) hx hb d_Cs_resultOf_1 (by decide) ?_
  refine lv_icmp_lt (tgt := 10) hx hb d_Cs_resultOf_2 (by decide) (fun hc => ?_) (fun hc => ?_)
  · have h := it_t h hc
    exact t_Cs_resultOf_10 X (lv_sub hl [] rfl) hI hS h
  · have h := it_f h hc
    exact t_Cs_resultOf_5 X (lv_sub hl [0, 1] rfl) hI hS h
set_option maxRecDepth 100000 in
set_option maxHeartbeats 4000000 in
theorem c_Cs_resultOf {l : Launch} {D : va_G} {A : Nat → Prop} {g : Nat → ClassId} {rest : va_W} {x0 : Int32} {x1 : Int32} {out : Int32} (h : F_Cs_resultOf x0 x1 = some out) : Met l y_Cs_resultOf ws_Cs_resultOf { frames := 0, cells := 0, slots := 0, locals := 0 } (PcW D A g [.int x0, .int x1] (rest)) (QcI D A g out (fun (_ : Unit) => rest)) 0 0 A := by
  refine Met.ofW (cc := prog_3_method_10_code) (maxL := 2) (ret := (some .int)) (by decide) rfl ?_
  intro p e s m args below meth c s₁ B hml hv
  obtain ⟨rfl, hI, hK⟩ := hv
  have hl := lv_entry [.int x0, .int x1] (n := 2) (Nat.le_of_ble_eq_true rfl)
  rw [lg_entry_eq]
  generalize (lg_sl [.int x0, .int x1] ++ List.replicate (2 - (lg_sl [.int x0, .int x1]).length) Slot.unset).toArray = ls at hl ⊢
  have hl : lv_has ls 2 [(0, .int x0), (1, .int x1)] := hl
  exact t_Cs_resultOf_0 ⟨B.exec, B.bytes, hml, findClass_of_methodNamed B.named, atoms_spec (ws := ws_Cs_resultOf) B.pre, B.returns, B.notSynchronized, hK⟩ (lv_sub hl [0, 1] rfl) hI va_S.rf h
def ws_Cs_readRequest : List Cond := .code y_Cs_readRequest prog_3_method_9_code 7 (some .boolean) :: TB
def B_Cs_readRequest_34 (s1 : S_Bs) (s0 : S_Cs) : Option (Int32 × S_Cs) :=
  some ((0 : Int32), s0)
def B_Cs_readRequest_145 (s1 : S_Bs) (s0 : S_Cs) : Option (Int32 × S_Cs) :=
  some ((1 : Int32), s0)
def B_Cs_readRequest_78 (s1 : S_Bs) (s0 : S_Cs) : Option (Int32 × S_Cs) :=
  some ((0 : Int32), s0)
def B_Cs_readRequest_80 (k39 : S_Cs × Int32 × Int32 → Option (Int32 × S_Cs)) (s1 : S_Bs) (s0 : S_Cs) (x3 : Int32) (x4 : Int32) (x5 : Int32) (x6 : Int32) : Option (Int32 × S_Cs) :=
  (if (x4 < 0 ∨ 4 ≤ x4.toNatClampNeg) then none else ((F_Bs_get s1 (x5 + (1 : Int32))).bind fun o2 => (if (x4 < 0 ∨ 4 ≤ x4.toNatClampNeg) then none else (if (x4 < 0 ∨ 4 ≤ x4.toNatClampNeg) then none else ((F_Bs_get s1 (x5 + (2 : Int32))).bind fun o6 => ((F_Cs_resultOf ((Cs_services (Cs_set_services (Cs_set_ids s0 (upd (Cs_ids s0) x4.toNatClampNeg x6)) (upd (Cs_services (Cs_set_ids s0 (upd (Cs_ids s0) x4.toNatClampNeg x6))) x4.toNatClampNeg o2))) x4.toNatClampNeg) o6).bind fun o8 => (if (x4 < 0 ∨ 4 ≤ x4.toNatClampNeg) then none else (k39 ((Cs_set_count (Cs_set_results (Cs_set_services (Cs_set_ids s0 (upd (Cs_ids s0) x4.toNatClampNeg x6)) (upd (Cs_services (Cs_set_ids s0 (upd (Cs_ids s0) x4.toNatClampNeg x6))) x4.toNatClampNeg o2)) (upd (Cs_results (Cs_set_services (Cs_set_ids s0 (upd (Cs_ids s0) x4.toNatClampNeg x6)) (upd (Cs_services (Cs_set_ids s0 (upd (Cs_ids s0) x4.toNatClampNeg x6))) x4.toNatClampNeg o2))) x4.toNatClampNeg o8)) ((Cs_count (Cs_set_results (Cs_set_services (Cs_set_ids s0 (upd (Cs_ids s0) x4.toNatClampNeg x6)) (upd (Cs_services (Cs_set_ids s0 (upd (Cs_ids s0) x4.toNatClampNeg x6))) x4.toNatClampNeg o2)) (upd (Cs_results (Cs_set_services (Cs_set_ids s0 (upd (Cs_ids s0) x4.toNatClampNeg x6)) (upd (Cs_services (Cs_set_ids s0 (upd (Cs_ids s0) x4.toNatClampNeg x6))) x4.toNatClampNeg o2))) x4.toNatClampNeg o8))) + (1 : Int32))), x3, (x4 + 1))))))))))
def B_Cs_readRequest_68 (k39 : S_Cs × Int32 × Int32 → Option (Int32 × S_Cs)) (s1 : S_Bs) (s0 : S_Cs) (x3 : Int32) (x4 : Int32) (x5 : Int32) (x6 : Int32) : Option (Int32 × S_Cs) :=
  ((F_Cs_find s0 x6).bind fun o1 => (if o1 = ((-1) : Int32) then (B_Cs_readRequest_80 k39 s1 s0 x3 x4 x5 x6) else (B_Cs_readRequest_78 s1 s0)))
def B_Cs_readRequest_45 (k39 : S_Cs × Int32 × Int32 → Option (Int32 × S_Cs)) (s1 : S_Bs) (s0 : S_Cs) (x3 : Int32) (x4 : Int32) : Option (Int32 × S_Cs) :=
  ((F_Bs_get s1 ((4 : Int32) + ((3 : Int32) * x4))).bind fun o1 => (if (o1 - o1 / (2 : Int32) * (2 : Int32)) = 0 then (B_Cs_readRequest_78 s1 s0) else (B_Cs_readRequest_68 k39 s1 s0 x3 x4 ((4 : Int32) + ((3 : Int32) * x4)) o1)))
def B_Cs_readRequest_39 (k39 : S_Cs × Int32 × Int32 → Option (Int32 × S_Cs)) (s1 : S_Bs) (s0 : S_Cs) (x3 : Int32) (x4 : Int32) : Option (Int32 × S_Cs) :=
  (if x3 ≤ x4 then (B_Cs_readRequest_145 s1 s0) else (B_Cs_readRequest_45 k39 s1 s0 x3 x4))
def L_Cs_readRequest_39 (s1 : S_Bs) (v : S_Cs × Int32 × Int32) : Option (Int32 × S_Cs) := lp (fun k39 v => B_Cs_readRequest_39  k39 s1 v.1 v.2.1 v.2.2) FU v
def B_Cs_readRequest_36 (s1 : S_Bs) (s0 : S_Cs) (x3 : Int32) : Option (Int32 × S_Cs) :=
  (L_Cs_readRequest_39 s1 (s0, x3, (0 : Int32)))
def B_Cs_readRequest_29 (s1 : S_Bs) (s0 : S_Cs) (x3 : Int32) : Option (Int32 × S_Cs) :=
  (if x3 ≤ (4 : Int32) then (B_Cs_readRequest_36 s1 s0 x3) else (B_Cs_readRequest_34 s1 s0))
def B_Cs_readRequest_24 (s1 : S_Bs) (s0 : S_Cs) (x3 : Int32) : Option (Int32 × S_Cs) :=
  (if x3 < (1 : Int32) then (B_Cs_readRequest_34 s1 s0) else (B_Cs_readRequest_29 s1 s0 x3))
def B_Cs_readRequest_0 (s1 : S_Bs) (s0 : S_Cs) : Option (Int32 × S_Cs) :=
  ((F_Bs_count s1).bind fun o1 => (if (((o1 - (2 : Int32)) - (2 : Int32)) - ((o1 - (2 : Int32)) - (2 : Int32)) / (3 : Int32) * (3 : Int32)) = 0 then (B_Cs_readRequest_24 s1 (Cs_set_count s0 (0 : Int32)) (((o1 - (2 : Int32)) - (2 : Int32)) / (3 : Int32))) else (B_Cs_readRequest_34 s1 (Cs_set_count s0 (0 : Int32)))))
def F_Cs_readRequest (s0 : S_Cs) (s1 : S_Bs) : Option (Int32 × S_Cs) := B_Cs_readRequest_0 s1 s0
set_option maxRecDepth 100000 in
set_option maxHeartbeats 4000000 in
theorem t_Cs_readRequest_34 {p : Program} {l : Launch} {e : Env} {s : State} {m : MethodId} {args : Array Value} {below : List Frame} {meth : Method} {c : Code} {D : va_G} {A : Nat → Prop} {g : Nat → ClassId} {rest : va_W} {a0 : Nat → Nat} {a1 : Nat → Nat} {ls : Array Slot} {H : Heap} {locs : List Loc} {s1 : S_Bs} {s0 : S_Cs} {out : Int32 × S_Cs} (X : Cx p s m args meth c prog_3_method_9_code 7 ws_Cs_readRequest R_Cs (some .boolean) D g) (hl : lv_has ls 7 []) (hI : Iw D A (w_Cs g a0 s0 ++ (w_Bs g a1 s1 ++ (rest))) H) (hS : va_S A s.heap H locs) (h : B_Cs_readRequest_34  s1 s0 = some out) : W p l e (headSpec ws_Cs_readRequest { frames := 1, cells := 0, slots := 0, locals := 22 }).room s m args below meth c H locs 0 0 (MQ below (QcI D A g out.1 (fun (_ : Unit) => w_Cs g a0 out.2 ++ (w_Bs g a1 s1 ++ (rest)))) args s 0 0 A) (F0 m 34 ls []) := by
  have X1 := X
  obtain ⟨hx, hb, hml, hown, hts, hr, hlocks, hKK⟩ := X1
  have ht : ∀ w ∈ TB, w.before args s = true := fun w h => hts w (List.mem_cons_of_mem _ h)
  have hK := hKK.1
  unfold B_Cs_readRequest_34 at h
  refine lv_iconst (v := 0) hx hb d_Cs_readRequest_34 (by decide) ?_
  have h9 := Option.some.inj h
  subst h9
  exact W.zret (v := (0 : Int32)) hx hb hr rfl (fun t ht hW => ⟨⟨_, (), rfl, rfl, ⟨by rw [ht]; exact hI, hKK.moved hW⟩⟩, hS.F ht⟩) hS.2.2 d_Cs_readRequest_35
set_option maxRecDepth 100000 in
set_option maxHeartbeats 4000000 in
theorem t_Cs_readRequest_145 {p : Program} {l : Launch} {e : Env} {s : State} {m : MethodId} {args : Array Value} {below : List Frame} {meth : Method} {c : Code} {D : va_G} {A : Nat → Prop} {g : Nat → ClassId} {rest : va_W} {a0 : Nat → Nat} {a1 : Nat → Nat} {ls : Array Slot} {H : Heap} {locs : List Loc} {s1 : S_Bs} {s0 : S_Cs} {out : Int32 × S_Cs} (X : Cx p s m args meth c prog_3_method_9_code 7 ws_Cs_readRequest R_Cs (some .boolean) D g) (hl : lv_has ls 7 []) (hI : Iw D A (w_Cs g a0 s0 ++ (w_Bs g a1 s1 ++ (rest))) H) (hS : va_S A s.heap H locs) (h : B_Cs_readRequest_145  s1 s0 = some out) : W p l e (headSpec ws_Cs_readRequest { frames := 1, cells := 0, slots := 0, locals := 22 }).room s m args below meth c H locs 0 0 (MQ below (QcI D A g out.1 (fun (_ : Unit) => w_Cs g a0 out.2 ++ (w_Bs g a1 s1 ++ (rest)))) args s 0 0 A) (F0 m 145 ls []) := by
  have X1 := X
  obtain ⟨hx, hb, hml, hown, hts, hr, hlocks, hKK⟩ := X1
  have ht : ∀ w ∈ TB, w.before args s = true := fun w h => hts w (List.mem_cons_of_mem _ h)
  have hK := hKK.1
  unfold B_Cs_readRequest_145 at h
  refine lv_iconst (v := 1) hx hb d_Cs_readRequest_145 (by decide) ?_
  have h9 := Option.some.inj h
  subst h9
  exact W.zret (v := (1 : Int32)) hx hb hr rfl (fun t ht hW => ⟨⟨_, (), rfl, rfl, ⟨by rw [ht]; exact hI, hKK.moved hW⟩⟩, hS.F ht⟩) hS.2.2 d_Cs_readRequest_146
set_option maxRecDepth 100000 in
set_option maxHeartbeats 4000000 in
theorem t_Cs_readRequest_78 {p : Program} {l : Launch} {e : Env} {s : State} {m : MethodId} {args : Array Value} {below : List Frame} {meth : Method} {c : Code} {D : va_G} {A : Nat → Prop} {g : Nat → ClassId} {rest : va_W} {a0 : Nat → Nat} {a1 : Nat → Nat} {ls : Array Slot} {H : Heap} {locs : List Loc} {s1 : S_Bs} {s0 : S_Cs} {out : Int32 × S_Cs} (X : Cx p s m args meth c prog_3_method_9_code 7 ws_Cs_readRequest R_Cs (some .boolean) D g) (hl : lv_has ls 7 []) (hI : Iw D A (w_Cs g a0 s0 ++ (w_Bs g a1 s1 ++ (rest))) H) (hS : va_S A s.heap H locs) (h : B_Cs_readRequest_78  s1 s0 = some out) : W p l e (headSpec ws_Cs_readRequest { frames := 1, cells := 0, slots := 0, locals := 22 }).room s m args below meth c H locs 0 0 (MQ below (QcI D A g out.1 (fun (_ : Unit) => w_Cs g a0 out.2 ++ (w_Bs g a1 s1 ++ (rest)))) args s 0 0 A) (F0 m 78 ls []) := by
  have X1 := X
  obtain ⟨hx, hb, hml, hown, hts, hr, hlocks, hKK⟩ := X1
  have ht : ∀ w ∈ TB, w.before args s = true := fun w h => hts w (List.mem_cons_of_mem _ h)
  have hK := hKK.1
  unfold B_Cs_readRequest_78 at h
  refine lv_iconst (v := 0) hx hb d_Cs_readRequest_78 (by decide) ?_
  have h9 := Option.some.inj h
  subst h9
  exact W.zret (v := (0 : Int32)) hx hb hr rfl (fun t ht hW => ⟨⟨_, (), rfl, rfl, ⟨by rw [ht]; exact hI, hKK.moved hW⟩⟩, hS.F ht⟩) hS.2.2 d_Cs_readRequest_79
set_option maxRecDepth 100000 in
set_option maxHeartbeats 4000000 in
theorem t_Cs_readRequest_80 {p : Program} {l : Launch} {e : Env} {s : State} {m : MethodId} {args : Array Value} {below : List Frame} {meth : Method} {c : Code} {D : va_G} {A : Nat → Prop} {g : Nat → ClassId} {rest : va_W} {a0 : Nat → Nat} {a1 : Nat → Nat} {ls : Array Slot} {H : Heap} {locs : List Loc} {k39 : S_Cs × Int32 × Int32 → Option (Int32 × S_Cs)} {s1 : S_Bs} {s0 : S_Cs} {x3 : Int32} {x4 : Int32} {x5 : Int32} {x6 : Int32} {out : Int32 × S_Cs} (X : Cx p s m args meth c prog_3_method_9_code 7 ws_Cs_readRequest R_Cs (some .boolean) D g) (hk39 : ∀ (v : S_Cs × Int32 × Int32) (ls : Array Slot) (H : Heap) (locs : List Loc), lv_has ls 7 [(0, .ref (a0 0)), (1, .ref (a1 0)), (3, .int v.2.1), (4, .int v.2.2)] → Iw D A (w_Cs g a0 v.1 ++ (w_Bs g a1 s1 ++ (rest))) H → va_S A s.heap H locs → k39 v = some out → W p l e (headSpec ws_Cs_readRequest { frames := 1, cells := 0, slots := 0, locals := 22 }).room s m args below meth c H locs 0 0 (MQ below (QcI D A g out.1 (fun (_ : Unit) => w_Cs g a0 out.2 ++ (w_Bs g a1 s1 ++ (rest)))) args s 0 0 A) (F0 m 39 ls [])) (hl : lv_has ls 7 [(0, .ref (a0 0)), (1, .ref (a1 0)), (3, .int x3), (4, .int x4), (5, .int x5), (6, .int x6)]) (hI : Iw D A (w_Cs g a0 s0 ++ (w_Bs g a1 s1 ++ (rest))) H) (hS : va_S A s.heap H locs) (h : B_Cs_readRequest_80 k39 s1 s0 x3 x4 x5 x6 = some out) : W p l e (headSpec ws_Cs_readRequest { frames := 1, cells := 0, slots := 0, locals := 22 }).room s m args below meth c H locs 0 0 (MQ below (QcI D A g out.1 (fun (_ : Unit) => w_Cs g a0 out.2 ++ (w_Bs g a1 s1 ++ (rest)))) args s 0 0 A) (F0 m 80 ls []) := by
  have X1 := X
  obtain ⟨hx, hb, hml, hown, hts, hr, hlocks, hKK⟩ := X1
  have ht : ∀ w ∈ TB, w.before args s = true := fun w h => hts w (List.mem_cons_of_mem _ h)
  have hK := hKK.1
  unfold B_Cs_readRequest_80 at h
  refine lv_aload_n hx hb d_Cs_readRequest_80 rfl (lv_at hl 0 rfl) ?_
  refine va_get (D := D) (ci := 1) (v := .ref (a0 1)) (C := R_Cs) (T := T_Cs) (N := 4) hx hb ht in_Cs hown hK hI.1 0 rfl rfl 0 (by decide) (ht _ m_62) (fun _ h9 => h9) rfl d_Cs_readRequest_81 ?_
  refine lv_iload hx hb d_Cs_readRequest_84 (lv_at hl 3 rfl) ?_
  refine lv_iload hx hb d_Cs_readRequest_86 (lv_at hl 5 rfl) ?_
  by_cases hc1 : (x4 < 0 ∨ 4 ≤ x4.toNatClampNeg)
  · exact no_s (it_t h hc1)
  have h := it_f h hc1
  refine va_iast hx hb hK hI.1 hI.2 hS 1 0 rfl rfl hc1 d_Cs_readRequest_88 (fun H locs hP hD hS => ?_)
  have hI : Iw D A (w_Cs g a0 (Cs_set_ids s0 (upd (Cs_ids s0) x4.toNatClampNeg x6)) ++ (w_Bs g a1 s1 ++ (rest))) H := ⟨hP, hD⟩
  refine lv_aload_n hx hb d_Cs_readRequest_89 rfl (lv_at hl 0 rfl) ?_
  refine va_get (D := D) (ci := 1) (v := .ref (a0 2)) (C := R_Cs) (T := T_Cs) (N := 4) hx hb ht in_Cs hown hK hI.1 0 rfl rfl 1 (by decide) (ht _ m_63) (fun _ h9 => h9) rfl d_Cs_readRequest_90 ?_
  refine lv_iload hx hb d_Cs_readRequest_93 (lv_at hl 3 rfl) ?_
  refine lv_aload_n hx hb d_Cs_readRequest_95 rfl (lv_at hl 1 rfl) ?_
  refine lv_iload hx hb d_Cs_readRequest_96 (lv_at hl 4 rfl) ?_
  refine lv_iconst (v := 1) hx hb d_Cs_readRequest_98 (by decide) ?_
  refine lv_iadd hx hb d_Cs_readRequest_99 ?_
  obtain ⟨o2, ho3, h⟩ := bd_s h
  refine cl_i (W1 := fun (_ : Unit) => w_Cs g a0 (Cs_set_ids s0 (upd (Cs_ids s0) x4.toNatClampNeg x6)) ++ (w_Bs g a1 s1 ++ (rest))) (va_runV (As := [.int (x5 + (1 : Int32))]) (rest := [.int x4, .ref (a0 2)]) ⟨hx, hb, hml, hown, ht⟩ (c_Bs_get (l := l) (D := D) (A := A) (g := g) (rest := w_Cs g a0 (Cs_set_ids s0 (upd (Cs_ids s0) x4.toNatClampNeg x6)) ++ (rest)) (a0 := a1) ho3) (cwV 1 ht (gd_V m_347 m_307 m_308 m_2 m_309) rfl rfl rfl (by decide +kernel) ⟨(Nat.le_of_ble_eq_true rfl), (Nat.le_of_ble_eq_true rfl)⟩) (prV (ci := 0) (q0 := 0) hKK hI (mv_1) rfl rfl rfl) rfl rfl hl.1 rfl (lv_room (Nat.le_of_ble_eq_true rfl)) d_Cs_readRequest_100 ⟨(Nat.le_of_ble_eq_true rfl), (Nat.le_of_ble_eq_true rfl)⟩) hS (fun _ => ((mv_1)).symm) (fun _ H locs hI hS => ?_)
  have hI : Iw D A (w_Cs g a0 (Cs_set_ids s0 (upd (Cs_ids s0) x4.toNatClampNeg x6)) ++ (w_Bs g a1 s1 ++ (rest))) H := hI
  by_cases hc4 : (x4 < 0 ∨ 4 ≤ x4.toNatClampNeg)
  · exact no_s (it_t h hc4)
  have h := it_f h hc4
  refine va_iast hx hb hK hI.1 hI.2 hS 2 0 rfl rfl hc4 d_Cs_readRequest_103 (fun H locs hP hD hS => ?_)
  have hI : Iw D A (w_Cs g a0 (Cs_set_services (Cs_set_ids s0 (upd (Cs_ids s0) x4.toNatClampNeg x6)) (upd (Cs_services (Cs_set_ids s0 (upd (Cs_ids s0) x4.toNatClampNeg x6))) x4.toNatClampNeg o2)) ++ (w_Bs g a1 s1 ++ (rest))) H := ⟨hP, hD⟩
  refine lv_aload_n hx hb d_Cs_readRequest_104 rfl (lv_at hl 0 rfl) ?_
  refine va_get (D := D) (ci := 1) (v := .ref (a0 3)) (C := R_Cs) (T := T_Cs) (N := 4) hx hb ht in_Cs hown hK hI.1 0 rfl rfl 2 (by decide) (ht _ m_64) (fun _ h9 => h9) rfl d_Cs_readRequest_105 ?_
  refine lv_iload hx hb d_Cs_readRequest_108 (lv_at hl 3 rfl) ?_
  refine lv_aload_n hx hb d_Cs_readRequest_110 rfl (lv_at hl 0 rfl) ?_
  refine va_get (D := D) (ci := 1) (v := .ref (a0 2)) (C := R_Cs) (T := T_Cs) (N := 4) hx hb ht in_Cs hown hK hI.1 0 rfl rfl 1 (by decide) (ht _ m_63) (fun _ h9 => h9) rfl d_Cs_readRequest_111 ?_
  refine lv_iload hx hb d_Cs_readRequest_114 (lv_at hl 3 rfl) ?_
  by_cases hc5 : (x4 < 0 ∨ 4 ≤ x4.toNatClampNeg)
  · exact no_s (it_t h hc5)
  have h := it_f h hc5
  refine va_iald hx hb hK hI.1 2 0 rfl rfl hc5 d_Cs_readRequest_116 ?_
  refine lv_aload_n hx hb d_Cs_readRequest_117 rfl (lv_at hl 1 rfl) ?_
  refine lv_iload hx hb d_Cs_readRequest_118 (lv_at hl 4 rfl) ?_
  refine lv_iconst (v := 2) hx hb d_Cs_readRequest_120 (by decide) ?_
  refine lv_iadd hx hb d_Cs_readRequest_121 ?_
  obtain ⟨o6, ho7, h⟩ := bd_s h
  refine cl_i (W1 := fun (_ : Unit) => w_Cs g a0 (Cs_set_services (Cs_set_ids s0 (upd (Cs_ids s0) x4.toNatClampNeg x6)) (upd (Cs_services (Cs_set_ids s0 (upd (Cs_ids s0) x4.toNatClampNeg x6))) x4.toNatClampNeg o2)) ++ (w_Bs g a1 s1 ++ (rest))) (va_runV (As := [.int (x5 + (2 : Int32))]) (rest := [.int ((Cs_services (Cs_set_services (Cs_set_ids s0 (upd (Cs_ids s0) x4.toNatClampNeg x6)) (upd (Cs_services (Cs_set_ids s0 (upd (Cs_ids s0) x4.toNatClampNeg x6))) x4.toNatClampNeg o2))) x4.toNatClampNeg), .int x4, .ref (a0 3)]) ⟨hx, hb, hml, hown, ht⟩ (c_Bs_get (l := l) (D := D) (A := A) (g := g) (rest := w_Cs g a0 (Cs_set_services (Cs_set_ids s0 (upd (Cs_ids s0) x4.toNatClampNeg x6)) (upd (Cs_services (Cs_set_ids s0 (upd (Cs_ids s0) x4.toNatClampNeg x6))) x4.toNatClampNeg o2)) ++ (rest)) (a0 := a1) ho7) (cwV 1 ht (gd_V m_347 m_307 m_308 m_2 m_309) rfl rfl rfl (by decide +kernel) ⟨(Nat.le_of_ble_eq_true rfl), (Nat.le_of_ble_eq_true rfl)⟩) (prV (ci := 0) (q0 := 0) hKK hI (mv_1) rfl rfl rfl) rfl rfl hl.1 rfl (lv_room (Nat.le_of_ble_eq_true rfl)) d_Cs_readRequest_122 ⟨(Nat.le_of_ble_eq_true rfl), (Nat.le_of_ble_eq_true rfl)⟩) hS (fun _ => ((mv_1)).symm) (fun _ H locs hI hS => ?_)
  have hI : Iw D A (w_Cs g a0 (Cs_set_services (Cs_set_ids s0 (upd (Cs_ids s0) x4.toNatClampNeg x6)) (upd (Cs_services (Cs_set_ids s0 (upd (Cs_ids s0) x4.toNatClampNeg x6))) x4.toNatClampNeg o2)) ++ (w_Bs g a1 s1 ++ (rest))) H := hI
  obtain ⟨o8, ho9, h⟩ := bd_s h
  refine cl_i (W1 := fun (_ : Unit) => w_Cs g a0 (Cs_set_services (Cs_set_ids s0 (upd (Cs_ids s0) x4.toNatClampNeg x6)) (upd (Cs_services (Cs_set_ids s0 (upd (Cs_ids s0) x4.toNatClampNeg x6))) x4.toNatClampNeg o2)) ++ (w_Bs g a1 s1 ++ (rest))) (va_runS (As := [.int ((Cs_services (Cs_set_services (Cs_set_ids s0 (upd (Cs_ids s0) x4.toNatClampNeg x6)) (upd (Cs_services (Cs_set_ids s0 (upd (Cs_ids s0) x4.toNatClampNeg x6))) x4.toNatClampNeg o2))) x4.toNatClampNeg), .int o6]) (rest := [.int x4, .ref (a0 3)]) ⟨hx, hb, hml, hown, ht⟩ (c_Cs_resultOf (l := l) (D := D) (A := A) (g := g) (rest := w_Cs g a0 (Cs_set_services (Cs_set_ids s0 (upd (Cs_ids s0) x4.toNatClampNeg x6)) (upd (Cs_services (Cs_set_ids s0 (upd (Cs_ids s0) x4.toNatClampNeg x6))) x4.toNatClampNeg o2)) ++ (w_Bs g a1 s1 ++ (rest)))  ho9) (va_cwS 2 ht (gd_S m_352 m_353 m_4 m_354) rfl rfl rfl (by decide +kernel) ⟨(Nat.le_of_ble_eq_true rfl), (Nat.le_of_ble_eq_true rfl)⟩) (prS hKK hI (List.Perm.refl _)) rfl rfl hl.1 rfl (lv_room (Nat.le_of_ble_eq_true rfl)) d_Cs_readRequest_125 ⟨(Nat.le_of_ble_eq_true rfl), (Nat.le_of_ble_eq_true rfl)⟩) hS (fun _ => ((List.Perm.refl _)).symm) (fun _ H locs hI hS => ?_)
  have hI : Iw D A (w_Cs g a0 (Cs_set_services (Cs_set_ids s0 (upd (Cs_ids s0) x4.toNatClampNeg x6)) (upd (Cs_services (Cs_set_ids s0 (upd (Cs_ids s0) x4.toNatClampNeg x6))) x4.toNatClampNeg o2)) ++ (w_Bs g a1 s1 ++ (rest))) H := hI
  by_cases hc10 : (x4 < 0 ∨ 4 ≤ x4.toNatClampNeg)
  · exact no_s (it_t h hc10)
  have h := it_f h hc10
  refine va_iast hx hb hK hI.1 hI.2 hS 3 0 rfl rfl hc10 d_Cs_readRequest_128 (fun H locs hP hD hS => ?_)
  have hI : Iw D A (w_Cs g a0 (Cs_set_results (Cs_set_services (Cs_set_ids s0 (upd (Cs_ids s0) x4.toNatClampNeg x6)) (upd (Cs_services (Cs_set_ids s0 (upd (Cs_ids s0) x4.toNatClampNeg x6))) x4.toNatClampNeg o2)) (upd (Cs_results (Cs_set_services (Cs_set_ids s0 (upd (Cs_ids s0) x4.toNatClampNeg x6)) (upd (Cs_services (Cs_set_ids s0 (upd (Cs_ids s0) x4.toNatClampNeg x6))) x4.toNatClampNeg o2))) x4.toNatClampNeg o8)) ++ (w_Bs g a1 s1 ++ (rest))) H := ⟨hP, hD⟩
  refine lv_aload_n hx hb d_Cs_readRequest_129 rfl (lv_at hl 0 rfl) ?_
  refine lv_dup hx hb d_Cs_readRequest_130 rfl ?_
  refine va_get (D := D) (ci := 1) (v := .int (Cs_count (Cs_set_results (Cs_set_services (Cs_set_ids s0 (upd (Cs_ids s0) x4.toNatClampNeg x6)) (upd (Cs_services (Cs_set_ids s0 (upd (Cs_ids s0) x4.toNatClampNeg x6))) x4.toNatClampNeg o2)) (upd (Cs_results (Cs_set_services (Cs_set_ids s0 (upd (Cs_ids s0) x4.toNatClampNeg x6)) (upd (Cs_services (Cs_set_ids s0 (upd (Cs_ids s0) x4.toNatClampNeg x6))) x4.toNatClampNeg o2))) x4.toNatClampNeg o8)))) (C := R_Cs) (T := T_Cs) (N := 4) hx hb ht in_Cs hown hK hI.1 0 rfl rfl 3 (by decide) (ht _ m_65) (fun _ h9 => h9) rfl d_Cs_readRequest_131 ?_
  refine lv_iconst (v := 1) hx hb d_Cs_readRequest_134 (by decide) ?_
  refine lv_iadd hx hb d_Cs_readRequest_135 ?_
  refine va_put (D := D) (ci := 1) (v := .int ((Cs_count (Cs_set_results (Cs_set_services (Cs_set_ids s0 (upd (Cs_ids s0) x4.toNatClampNeg x6)) (upd (Cs_services (Cs_set_ids s0 (upd (Cs_ids s0) x4.toNatClampNeg x6))) x4.toNatClampNeg o2)) (upd (Cs_results (Cs_set_services (Cs_set_ids s0 (upd (Cs_ids s0) x4.toNatClampNeg x6)) (upd (Cs_services (Cs_set_ids s0 (upd (Cs_ids s0) x4.toNatClampNeg x6))) x4.toNatClampNeg o2))) x4.toNatClampNeg o8))) + (1 : Int32))) (ty := .int) (C := R_Cs) (T := T_Cs) (N := 4) hx hb ht in_Cs ty_Cs tyok_Cs nm_Cs hown hK hI.1 hI.2 hS 0 rfl rfl 3 (by decide) (ht _ m_65) (fun _ h9 => h9) rfl (by decide +kernel) rfl rfl (Nat.le_of_ble_eq_true rfl) d_Cs_readRequest_136 (fun H locs hP hD hS => ?_)
  have hI : Iw D A (w_Cs g a0 (Cs_set_count (Cs_set_results (Cs_set_services (Cs_set_ids s0 (upd (Cs_ids s0) x4.toNatClampNeg x6)) (upd (Cs_services (Cs_set_ids s0 (upd (Cs_ids s0) x4.toNatClampNeg x6))) x4.toNatClampNeg o2)) (upd (Cs_results (Cs_set_services (Cs_set_ids s0 (upd (Cs_ids s0) x4.toNatClampNeg x6)) (upd (Cs_services (Cs_set_ids s0 (upd (Cs_ids s0) x4.toNatClampNeg x6))) x4.toNatClampNeg o2))) x4.toNatClampNeg o8)) ((Cs_count (Cs_set_results (Cs_set_services (Cs_set_ids s0 (upd (Cs_ids s0) x4.toNatClampNeg x6)) (upd (Cs_services (Cs_set_ids s0 (upd (Cs_ids s0) x4.toNatClampNeg x6))) x4.toNatClampNeg o2)) (upd (Cs_results (Cs_set_services (Cs_set_ids s0 (upd (Cs_ids s0) x4.toNatClampNeg x6)) (upd (Cs_services (Cs_set_ids s0 (upd (Cs_ids s0) x4.toNatClampNeg x6))) x4.toNatClampNeg o2))) x4.toNatClampNeg o8))) + (1 : Int32))) ++ (w_Bs g a1 s1 ++ (rest))) H := ⟨hP, hD⟩
  refine lv_iinc (k := 3) (v := (x4 + 1)) hx hb d_Cs_readRequest_139 hl rfl (congrArg (fun z => x4 + z) (by decide)) (Nat.le_of_ble_eq_true rfl) rfl (fun ls hl => ?_)
  have hl : lv_has ls 7 [(4, .int (x4 + 1)), (0, .ref (a0 0)), (1, .ref (a1 0)), (3, .int x3), (5, .int x5), (6, .int x6)] := hl
  refine lv_goto (tgt := 39) hx hb d_Cs_readRequest_142 (by decide) ?_
  exact hk39 ((Cs_set_count (Cs_set_results (Cs_set_services (Cs_set_ids s0 (upd (Cs_ids s0) x4.toNatClampNeg x6)) (upd (Cs_services (Cs_set_ids s0 (upd (Cs_ids s0) x4.toNatClampNeg x6))) x4.toNatClampNeg o2)) (upd (Cs_results (Cs_set_services (Cs_set_ids s0 (upd (Cs_ids s0) x4.toNatClampNeg x6)) (upd (Cs_services (Cs_set_ids s0 (upd (Cs_ids s0) x4.toNatClampNeg x6))) x4.toNatClampNeg o2))) x4.toNatClampNeg o8)) ((Cs_count (Cs_set_results (Cs_set_services (Cs_set_ids s0 (upd (Cs_ids s0) x4.toNatClampNeg x6)) (upd (Cs_services (Cs_set_ids s0 (upd (Cs_ids s0) x4.toNatClampNeg x6))) x4.toNatClampNeg o2)) (upd (Cs_results (Cs_set_services (Cs_set_ids s0 (upd (Cs_ids s0) x4.toNatClampNeg x6)) (upd (Cs_services (Cs_set_ids s0 (upd (Cs_ids s0) x4.toNatClampNeg x6))) x4.toNatClampNeg o2))) x4.toNatClampNeg o8))) + (1 : Int32))), x3, (x4 + 1)) _ _ _ (lv_sub hl [1, 2, 3, 0] rfl) hI hS h
set_option maxRecDepth 100000 in
set_option maxHeartbeats 4000000 in
theorem t_Cs_readRequest_68 {p : Program} {l : Launch} {e : Env} {s : State} {m : MethodId} {args : Array Value} {below : List Frame} {meth : Method} {c : Code} {D : va_G} {A : Nat → Prop} {g : Nat → ClassId} {rest : va_W} {a0 : Nat → Nat} {a1 : Nat → Nat} {ls : Array Slot} {H : Heap} {locs : List Loc} {k39 : S_Cs × Int32 × Int32 → Option (Int32 × S_Cs)} {s1 : S_Bs} {s0 : S_Cs} {x3 : Int32} {x4 : Int32} {x5 : Int32} {x6 : Int32} {out : Int32 × S_Cs} (X : Cx p s m args meth c prog_3_method_9_code 7 ws_Cs_readRequest R_Cs (some .boolean) D g) (hk39 : ∀ (v : S_Cs × Int32 × Int32) (ls : Array Slot) (H : Heap) (locs : List Loc), lv_has ls 7 [(0, .ref (a0 0)), (1, .ref (a1 0)), (3, .int v.2.1), (4, .int v.2.2)] → Iw D A (w_Cs g a0 v.1 ++ (w_Bs g a1 s1 ++ (rest))) H → va_S A s.heap H locs → k39 v = some out → W p l e (headSpec ws_Cs_readRequest { frames := 1, cells := 0, slots := 0, locals := 22 }).room s m args below meth c H locs 0 0 (MQ below (QcI D A g out.1 (fun (_ : Unit) => w_Cs g a0 out.2 ++ (w_Bs g a1 s1 ++ (rest)))) args s 0 0 A) (F0 m 39 ls [])) (hl : lv_has ls 7 [(0, .ref (a0 0)), (1, .ref (a1 0)), (3, .int x3), (4, .int x4), (5, .int x5), (6, .int x6)]) (hI : Iw D A (w_Cs g a0 s0 ++ (w_Bs g a1 s1 ++ (rest))) H) (hS : va_S A s.heap H locs) (h : B_Cs_readRequest_68 k39 s1 s0 x3 x4 x5 x6 = some out) : W p l e (headSpec ws_Cs_readRequest { frames := 1, cells := 0, slots := 0, locals := 22 }).room s m args below meth c H locs 0 0 (MQ below (QcI D A g out.1 (fun (_ : Unit) => w_Cs g a0 out.2 ++ (w_Bs g a1 s1 ++ (rest)))) args s 0 0 A) (F0 m 68 ls []) := by
  have X1 := X
  obtain ⟨hx, hb, hml, hown, hts, hr, hlocks, hKK⟩ := X1
  have ht : ∀ w ∈ TB, w.before args s = true := fun w h => hts w (List.mem_cons_of_mem _ h)
  have hK := hKK.1
  unfold B_Cs_readRequest_68 at h
  refine lv_aload_n hx hb d_Cs_readRequest_68 rfl (lv_at hl 0 rfl) ?_
  refine lv_iload hx hb d_Cs_readRequest_69 (lv_at hl 5 rfl) ?_
  obtain ⟨o1, ho2, h⟩ := bd_s h
  refine cl_i (W1 := fun (_ : Unit) => w_Cs g a0 s0 ++ (w_Bs g a1 s1 ++ (rest))) (va_runV (As := [.int x6]) (rest := []) ⟨hx, hb, hml, hown, ht⟩ (c_Cs_find (l := l) (D := D) (A := A) (g := g) (rest := w_Bs g a1 s1 ++ (rest)) (a0 := a0) ho2) (cwV 1 ht (gd_V m_348 m_349 m_350 m_4 m_351) rfl rfl rfl (by decide +kernel) ⟨(Nat.le_of_ble_eq_true rfl), (Nat.le_of_ble_eq_true rfl)⟩) (prV (ci := 1) (q0 := 0) hKK hI (List.Perm.refl _) rfl rfl rfl) rfl rfl hl.1 rfl (lv_room (Nat.le_of_ble_eq_true rfl)) d_Cs_readRequest_71 ⟨(Nat.le_of_ble_eq_true rfl), (Nat.le_of_ble_eq_true rfl)⟩) hS (fun _ => ((List.Perm.refl _)).symm) (fun _ H locs hI hS => ?_)
  have hI : Iw D A (w_Cs g a0 s0 ++ (w_Bs g a1 s1 ++ (rest))) H := hI
  refine lv_iconst (v := (-1)) hx hb d_Cs_readRequest_74 (by decide) ?_
  refine lv_icmp_eq (tgt := 80) hx hb d_Cs_readRequest_75 (by decide) (fun hc => ?_) (fun hc => ?_)
  · have h := it_t h hc
    exact t_Cs_readRequest_80 X hk39 (lv_sub hl [0, 1, 2, 3, 4, 5] rfl) hI hS h
  · have h := it_f h hc
    exact t_Cs_readRequest_78 X (lv_sub hl [] rfl) hI hS h
set_option maxRecDepth 100000 in
set_option maxHeartbeats 4000000 in
theorem t_Cs_readRequest_45 {p : Program} {l : Launch} {e : Env} {s : State} {m : MethodId} {args : Array Value} {below : List Frame} {meth : Method} {c : Code} {D : va_G} {A : Nat → Prop} {g : Nat → ClassId} {rest : va_W} {a0 : Nat → Nat} {a1 : Nat → Nat} {ls : Array Slot} {H : Heap} {locs : List Loc} {k39 : S_Cs × Int32 × Int32 → Option (Int32 × S_Cs)} {s1 : S_Bs} {s0 : S_Cs} {x3 : Int32} {x4 : Int32} {out : Int32 × S_Cs} (X : Cx p s m args meth c prog_3_method_9_code 7 ws_Cs_readRequest R_Cs (some .boolean) D g) (hk39 : ∀ (v : S_Cs × Int32 × Int32) (ls : Array Slot) (H : Heap) (locs : List Loc), lv_has ls 7 [(0, .ref (a0 0)), (1, .ref (a1 0)), (3, .int v.2.1), (4, .int v.2.2)] → Iw D A (w_Cs g a0 v.1 ++ (w_Bs g a1 s1 ++ (rest))) H → va_S A s.heap H locs → k39 v = some out → W p l e (headSpec ws_Cs_readRequest { frames := 1, cells := 0, slots := 0, locals := 22 }).room s m args below meth c H locs 0 0 (MQ below (QcI D A g out.1 (fun (_ : Unit) => w_Cs g a0 out.2 ++ (w_Bs g a1 s1 ++ (rest)))) args s 0 0 A) (F0 m 39 ls [])) (hl : lv_has ls 7 [(0, .ref (a0 0)), (1, .ref (a1 0)), (3, .int x3), (4, .int x4)]) (hI : Iw D A (w_Cs g a0 s0 ++ (w_Bs g a1 s1 ++ (rest))) H) (hS : va_S A s.heap H locs) (h : B_Cs_readRequest_45 k39 s1 s0 x3 x4 = some out) : W p l e (headSpec ws_Cs_readRequest { frames := 1, cells := 0, slots := 0, locals := 22 }).room s m args below meth c H locs 0 0 (MQ below (QcI D A g out.1 (fun (_ : Unit) => w_Cs g a0 out.2 ++ (w_Bs g a1 s1 ++ (rest)))) args s 0 0 A) (F0 m 45 ls []) := by
  have X1 := X
  obtain ⟨hx, hb, hml, hown, hts, hr, hlocks, hKK⟩ := X1
  have ht : ∀ w ∈ TB, w.before args s = true := fun w h => hts w (List.mem_cons_of_mem _ h)
  have hK := hKK.1
  unfold B_Cs_readRequest_45 at h
  refine lv_iconst (v := 4) hx hb d_Cs_readRequest_45 (by decide) ?_
  refine lv_iconst (v := 3) hx hb d_Cs_readRequest_46 (by decide) ?_
  refine lv_iload hx hb d_Cs_readRequest_47 (lv_at hl 3 rfl) ?_
  refine lv_imul hx hb d_Cs_readRequest_49 ?_
  refine lv_iadd hx hb d_Cs_readRequest_50 ?_
  refine lv_istore hx hb d_Cs_readRequest_51 hl (Nat.le_of_ble_eq_true rfl) rfl (fun ls hl => ?_)
  have hl : lv_has ls 7 [(5, .int ((4 : Int32) + ((3 : Int32) * x4))), (0, .ref (a0 0)), (1, .ref (a1 0)), (3, .int x3), (4, .int x4)] := hl
  refine lv_aload_n hx hb d_Cs_readRequest_53 rfl (lv_at hl 2 rfl) ?_
  refine lv_iload hx hb d_Cs_readRequest_54 (lv_at hl 0 rfl) ?_
  obtain ⟨o1, ho2, h⟩ := bd_s h
  refine cl_i (W1 := fun (_ : Unit) => w_Cs g a0 s0 ++ (w_Bs g a1 s1 ++ (rest))) (va_runV (As := [.int ((4 : Int32) + ((3 : Int32) * x4))]) (rest := []) ⟨hx, hb, hml, hown, ht⟩ (c_Bs_get (l := l) (D := D) (A := A) (g := g) (rest := w_Cs g a0 s0 ++ (rest)) (a0 := a1) ho2) (cwV 1 ht (gd_V m_347 m_307 m_308 m_2 m_309) rfl rfl rfl (by decide +kernel) ⟨(Nat.le_of_ble_eq_true rfl), (Nat.le_of_ble_eq_true rfl)⟩) (prV (ci := 0) (q0 := 0) hKK hI (mv_1) rfl rfl rfl) rfl rfl hl.1 rfl (lv_room (Nat.le_of_ble_eq_true rfl)) d_Cs_readRequest_56 ⟨(Nat.le_of_ble_eq_true rfl), (Nat.le_of_ble_eq_true rfl)⟩) hS (fun _ => ((mv_1)).symm) (fun _ H locs hI hS => ?_)
  have hI : Iw D A (w_Cs g a0 s0 ++ (w_Bs g a1 s1 ++ (rest))) H := hI
  refine lv_istore hx hb d_Cs_readRequest_59 hl (Nat.le_of_ble_eq_true rfl) rfl (fun ls hl => ?_)
  have hl : lv_has ls 7 [(6, .int o1), (5, .int ((4 : Int32) + ((3 : Int32) * x4))), (0, .ref (a0 0)), (1, .ref (a1 0)), (3, .int x3), (4, .int x4)] := hl
  refine lv_iload hx hb d_Cs_readRequest_61 (lv_at hl 0 rfl) ?_
  refine lv_iconst (v := 2) hx hb d_Cs_readRequest_63 (by decide) ?_
  refine lv_irem hx hb d_Cs_readRequest_64 (by decide) ?_
  refine lv_if_eq (tgt := 78) hx hb d_Cs_readRequest_65 (by decide) (fun hc => ?_) (fun hc => ?_)
  · have h := it_t h hc
    exact t_Cs_readRequest_78 X (lv_sub hl [] rfl) hI hS h
  · have h := it_f h hc
    exact t_Cs_readRequest_68 X hk39 (lv_sub hl [2, 3, 4, 5, 1, 0] rfl) hI hS h
set_option maxRecDepth 100000 in
set_option maxHeartbeats 4000000 in
theorem t_Cs_readRequest_39 {p : Program} {l : Launch} {e : Env} {s : State} {m : MethodId} {args : Array Value} {below : List Frame} {meth : Method} {c : Code} {D : va_G} {A : Nat → Prop} {g : Nat → ClassId} {rest : va_W} {a0 : Nat → Nat} {a1 : Nat → Nat} {ls : Array Slot} {H : Heap} {locs : List Loc} {k39 : S_Cs × Int32 × Int32 → Option (Int32 × S_Cs)} {s1 : S_Bs} {s0 : S_Cs} {x3 : Int32} {x4 : Int32} {out : Int32 × S_Cs} (X : Cx p s m args meth c prog_3_method_9_code 7 ws_Cs_readRequest R_Cs (some .boolean) D g) (hk39 : ∀ (v : S_Cs × Int32 × Int32) (ls : Array Slot) (H : Heap) (locs : List Loc), lv_has ls 7 [(0, .ref (a0 0)), (1, .ref (a1 0)), (3, .int v.2.1), (4, .int v.2.2)] → Iw D A (w_Cs g a0 v.1 ++ (w_Bs g a1 s1 ++ (rest))) H → va_S A s.heap H locs → k39 v = some out → W p l e (headSpec ws_Cs_readRequest { frames := 1, cells := 0, slots := 0, locals := 22 }).room s m args below meth c H locs 0 0 (MQ below (QcI D A g out.1 (fun (_ : Unit) => w_Cs g a0 out.2 ++ (w_Bs g a1 s1 ++ (rest)))) args s 0 0 A) (F0 m 39 ls [])) (hl : lv_has ls 7 [(0, .ref (a0 0)), (1, .ref (a1 0)), (3, .int x3), (4, .int x4)]) (hI : Iw D A (w_Cs g a0 s0 ++ (w_Bs g a1 s1 ++ (rest))) H) (hS : va_S A s.heap H locs) (h : B_Cs_readRequest_39 k39 s1 s0 x3 x4 = some out) : W p l e (headSpec ws_Cs_readRequest { frames := 1, cells := 0, slots := 0, locals := 22 }).room s m args below meth c H locs 0 0 (MQ below (QcI D A g out.1 (fun (_ : Unit) => w_Cs g a0 out.2 ++ (w_Bs g a1 s1 ++ (rest)))) args s 0 0 A) (F0 m 39 ls []) := by
  have X1 := X
  obtain ⟨hx, hb, hml, hown, hts, hr, hlocks, hKK⟩ := X1
  have ht : ∀ w ∈ TB, w.before args s = true := fun w h => hts w (List.mem_cons_of_mem _ h)
  have hK := hKK.1
  unfold B_Cs_readRequest_39 at h
  refine lv_iload hx hb d_Cs_readRequest_39 (lv_at hl 3 rfl) ?_
  refine lv_iload_n hx hb d_Cs_readRequest_41 rfl (lv_at hl 2 rfl) ?_
  refine lv_icmp_ge (tgt := 145) hx hb d_Cs_readRequest_42 (by decide) (fun hc => ?_) (fun hc => ?_)
  · have h := it_t h hc
    exact t_Cs_readRequest_145 X (lv_sub hl [] rfl) hI hS h
  · have h := it_f h hc
    exact t_Cs_readRequest_45 X hk39 (lv_sub hl [0, 1, 2, 3] rfl) hI hS h
set_option maxRecDepth 100000 in
set_option maxHeartbeats 4000000 in
theorem T_Cs_readRequest_39 {p : Program} {l : Launch} {e : Env} {s : State} {m : MethodId} {args : Array Value} {below : List Frame} {meth : Method} {c : Code} {D : va_G} {A : Nat → Prop} {g : Nat → ClassId} {rest : va_W} {a0 : Nat → Nat} {a1 : Nat → Nat} {ls : Array Slot} {H : Heap} {locs : List Loc} {s1 : S_Bs} {s0 : S_Cs} {x3 : Int32} {x4 : Int32} {out : Int32 × S_Cs} (X : Cx p s m args meth c prog_3_method_9_code 7 ws_Cs_readRequest R_Cs (some .boolean) D g) (hl : lv_has ls 7 [(0, .ref (a0 0)), (1, .ref (a1 0)), (3, .int x3), (4, .int x4)]) (hI : Iw D A (w_Cs g a0 s0 ++ (w_Bs g a1 s1 ++ (rest))) H) (hS : va_S A s.heap H locs) (h : L_Cs_readRequest_39  s1 (s0, x3, x4) = some out) : W p l e (headSpec ws_Cs_readRequest { frames := 1, cells := 0, slots := 0, locals := 22 }).room s m args below meth c H locs 0 0 (MQ below (QcI D A g out.1 (fun (_ : Unit) => w_Cs g a0 out.2 ++ (w_Bs g a1 s1 ++ (rest)))) args s 0 0 A) (F0 m 39 ls []) := by
  unfold L_Cs_readRequest_39 at h
  exact lp_ind (P := fun v => ∀ (ls : Array Slot) (H : Heap) (locs : List Loc), lv_has ls 7 [(0, .ref (a0 0)), (1, .ref (a1 0)), (3, .int v.2.1), (4, .int v.2.2)] → Iw D A (w_Cs g a0 v.1 ++ (w_Bs g a1 s1 ++ (rest))) H → va_S A s.heap H locs → W p l e (headSpec ws_Cs_readRequest { frames := 1, cells := 0, slots := 0, locals := 22 }).room s m args below meth c H locs 0 0 (MQ below (QcI D A g out.1 (fun (_ : Unit) => w_Cs g a0 out.2 ++ (w_Bs g a1 s1 ++ (rest)))) args s 0 0 A) (F0 m 39 ls [])) (fun k v ih hb ls H locs  hl hI hS => t_Cs_readRequest_39 X  (fun v' ls H locs  hl hI hS h' => ih v' h' ls H locs  hl hI hS) hl hI hS hb) FU _ h ls H locs  hl hI hS
set_option maxRecDepth 100000 in
set_option maxHeartbeats 4000000 in
theorem t_Cs_readRequest_36 {p : Program} {l : Launch} {e : Env} {s : State} {m : MethodId} {args : Array Value} {below : List Frame} {meth : Method} {c : Code} {D : va_G} {A : Nat → Prop} {g : Nat → ClassId} {rest : va_W} {a0 : Nat → Nat} {a1 : Nat → Nat} {ls : Array Slot} {H : Heap} {locs : List Loc} {s1 : S_Bs} {s0 : S_Cs} {x3 : Int32} {out : Int32 × S_Cs} (X : Cx p s m args meth c prog_3_method_9_code 7 ws_Cs_readRequest R_Cs (some .boolean) D g) (hl : lv_has ls 7 [(0, .ref (a0 0)), (1, .ref (a1 0)), (3, .int x3)]) (hI : Iw D A (w_Cs g a0 s0 ++ (w_Bs g a1 s1 ++ (rest))) H) (hS : va_S A s.heap H locs) (h : B_Cs_readRequest_36  s1 s0 x3 = some out) : W p l e (headSpec ws_Cs_readRequest { frames := 1, cells := 0, slots := 0, locals := 22 }).room s m args below meth c H locs 0 0 (MQ below (QcI D A g out.1 (fun (_ : Unit) => w_Cs g a0 out.2 ++ (w_Bs g a1 s1 ++ (rest)))) args s 0 0 A) (F0 m 36 ls []) := by
  have X1 := X
  obtain ⟨hx, hb, hml, hown, hts, hr, hlocks, hKK⟩ := X1
  have ht : ∀ w ∈ TB, w.before args s = true := fun w h => hts w (List.mem_cons_of_mem _ h)
  have hK := hKK.1
  unfold B_Cs_readRequest_36 at h
  refine lv_iconst (v := 0) hx hb d_Cs_readRequest_36 (by decide) ?_
  refine lv_istore hx hb d_Cs_readRequest_37 hl (Nat.le_of_ble_eq_true rfl) rfl (fun ls hl => ?_)
  have hl : lv_has ls 7 [(4, .int (0 : Int32)), (0, .ref (a0 0)), (1, .ref (a1 0)), (3, .int x3)] := hl
  exact T_Cs_readRequest_39 X (lv_sub hl [1, 2, 3, 0] rfl) hI hS h
set_option maxRecDepth 100000 in
set_option maxHeartbeats 4000000 in
theorem t_Cs_readRequest_29 {p : Program} {l : Launch} {e : Env} {s : State} {m : MethodId} {args : Array Value} {below : List Frame} {meth : Method} {c : Code} {D : va_G} {A : Nat → Prop} {g : Nat → ClassId} {rest : va_W} {a0 : Nat → Nat} {a1 : Nat → Nat} {ls : Array Slot} {H : Heap} {locs : List Loc} {s1 : S_Bs} {s0 : S_Cs} {x3 : Int32} {out : Int32 × S_Cs} (X : Cx p s m args meth c prog_3_method_9_code 7 ws_Cs_readRequest R_Cs (some .boolean) D g) (hl : lv_has ls 7 [(0, .ref (a0 0)), (1, .ref (a1 0)), (3, .int x3)]) (hI : Iw D A (w_Cs g a0 s0 ++ (w_Bs g a1 s1 ++ (rest))) H) (hS : va_S A s.heap H locs) (h : B_Cs_readRequest_29  s1 s0 x3 = some out) : W p l e (headSpec ws_Cs_readRequest { frames := 1, cells := 0, slots := 0, locals := 22 }).room s m args below meth c H locs 0 0 (MQ below (QcI D A g out.1 (fun (_ : Unit) => w_Cs g a0 out.2 ++ (w_Bs g a1 s1 ++ (rest)))) args s 0 0 A) (F0 m 29 ls []) := by
  have X1 := X
  obtain ⟨hx, hb, hml, hown, hts, hr, hlocks, hKK⟩ := X1
  have ht : ∀ w ∈ TB, w.before args s = true := fun w h => hts w (List.mem_cons_of_mem _ h)
  have hK := hKK.1
  unfold B_Cs_readRequest_29 at h
  refine lv_iload_n hx hb d_Cs_readRequest_29 rfl (lv_at hl 2 rfl) ?_
  refine lv_iconst (v := 4) hx hb d_Cs_readRequest_30 (by decide) ?_
  refine lv_icmp_le (tgt := 36) hx hb d_Cs_readRequest_31 (by decide) (fun hc => ?_) (fun hc => ?_)
  · have h := it_t h hc
    exact t_Cs_readRequest_36 X (lv_sub hl [0, 1, 2] rfl) hI hS h
  · have h := it_f h hc
    exact t_Cs_readRequest_34 X (lv_sub hl [] rfl) hI hS h
set_option maxRecDepth 100000 in
set_option maxHeartbeats 4000000 in
theorem t_Cs_readRequest_24 {p : Program} {l : Launch} {e : Env} {s : State} {m : MethodId} {args : Array Value} {below : List Frame} {meth : Method} {c : Code} {D : va_G} {A : Nat → Prop} {g : Nat → ClassId} {rest : va_W} {a0 : Nat → Nat} {a1 : Nat → Nat} {ls : Array Slot} {H : Heap} {locs : List Loc} {s1 : S_Bs} {s0 : S_Cs} {x3 : Int32} {out : Int32 × S_Cs} (X : Cx p s m args meth c prog_3_method_9_code 7 ws_Cs_readRequest R_Cs (some .boolean) D g) (hl : lv_has ls 7 [(0, .ref (a0 0)), (1, .ref (a1 0)), (3, .int x3)]) (hI : Iw D A (w_Cs g a0 s0 ++ (w_Bs g a1 s1 ++ (rest))) H) (hS : va_S A s.heap H locs) (h : B_Cs_readRequest_24  s1 s0 x3 = some out) : W p l e (headSpec ws_Cs_readRequest { frames := 1, cells := 0, slots := 0, locals := 22 }).room s m args below meth c H locs 0 0 (MQ below (QcI D A g out.1 (fun (_ : Unit) => w_Cs g a0 out.2 ++ (w_Bs g a1 s1 ++ (rest)))) args s 0 0 A) (F0 m 24 ls []) := by
  have X1 := X
  obtain ⟨hx, hb, hml, hown, hts, hr, hlocks, hKK⟩ := X1
  have ht : ∀ w ∈ TB, w.before args s = true := fun w h => hts w (List.mem_cons_of_mem _ h)
  have hK := hKK.1
  unfold B_Cs_readRequest_24 at h
  refine lv_iload_n hx hb d_Cs_readRequest_24 rfl (lv_at hl 2 rfl) ?_
  refine lv_iconst (v := 1) hx hb d_Cs_readRequest_25 (by decide) ?_
  refine lv_icmp_lt (tgt := 34) hx hb d_Cs_readRequest_26 (by decide) (fun hc => ?_) (fun hc => ?_)
  · have h := it_t h hc
    exact t_Cs_readRequest_34 X (lv_sub hl [] rfl) hI hS h
  · have h := it_f h hc
    exact t_Cs_readRequest_29 X (lv_sub hl [0, 1, 2] rfl) hI hS h
set_option maxRecDepth 100000 in
set_option maxHeartbeats 4000000 in
theorem t_Cs_readRequest_0 {p : Program} {l : Launch} {e : Env} {s : State} {m : MethodId} {args : Array Value} {below : List Frame} {meth : Method} {c : Code} {D : va_G} {A : Nat → Prop} {g : Nat → ClassId} {rest : va_W} {a0 : Nat → Nat} {a1 : Nat → Nat} {ls : Array Slot} {H : Heap} {locs : List Loc} {s1 : S_Bs} {s0 : S_Cs} {out : Int32 × S_Cs} (X : Cx p s m args meth c prog_3_method_9_code 7 ws_Cs_readRequest R_Cs (some .boolean) D g) (hl : lv_has ls 7 [(0, .ref (a0 0)), (1, .ref (a1 0))]) (hI : Iw D A (w_Cs g a0 s0 ++ (w_Bs g a1 s1 ++ (rest))) H) (hS : va_S A s.heap H locs) (h : B_Cs_readRequest_0  s1 s0 = some out) : W p l e (headSpec ws_Cs_readRequest { frames := 1, cells := 0, slots := 0, locals := 22 }).room s m args below meth c H locs 0 0 (MQ below (QcI D A g out.1 (fun (_ : Unit) => w_Cs g a0 out.2 ++ (w_Bs g a1 s1 ++ (rest)))) args s 0 0 A) (F0 m 0 ls []) := by
  have X1 := X
  obtain ⟨hx, hb, hml, hown, hts, hr, hlocks, hKK⟩ := X1
  have ht : ∀ w ∈ TB, w.before args s = true := fun w h => hts w (List.mem_cons_of_mem _ h)
  have hK := hKK.1
  unfold B_Cs_readRequest_0 at h
  refine lv_aload_n hx hb d_Cs_readRequest_0 rfl (lv_at hl 0 rfl) ?_
  refine lv_iconst (v := 0) hx hb d_Cs_readRequest_1 (by decide) ?_
  refine va_put (D := D) (ci := 1) (v := .int (0 : Int32)) (ty := .int) (C := R_Cs) (T := T_Cs) (N := 4) hx hb ht in_Cs ty_Cs tyok_Cs nm_Cs hown hK hI.1 hI.2 hS 0 rfl rfl 3 (by decide) (ht _ m_65) (fun _ h9 => h9) rfl (by decide +kernel) rfl rfl (Nat.le_of_ble_eq_true rfl) d_Cs_readRequest_2 (fun H locs hP hD hS => ?_)
  have hI : Iw D A (w_Cs g a0 (Cs_set_count s0 (0 : Int32)) ++ (w_Bs g a1 s1 ++ (rest))) H := ⟨hP, hD⟩
  refine lv_aload_n hx hb d_Cs_readRequest_5 rfl (lv_at hl 1 rfl) ?_
  obtain ⟨o1, ho2, h⟩ := bd_s h
  refine cl_i (W1 := fun (_ : Unit) => w_Cs g a0 (Cs_set_count s0 (0 : Int32)) ++ (w_Bs g a1 s1 ++ (rest))) (va_runV (As := []) (rest := []) ⟨hx, hb, hml, hown, ht⟩ (c_Bs_count (l := l) (D := D) (A := A) (g := g) (rest := w_Cs g a0 (Cs_set_count s0 (0 : Int32)) ++ (rest)) (a0 := a1) ho2) (cwV 0 ht (gd_V m_346 m_303 m_304 m_2 m_305) rfl rfl rfl (by decide +kernel) ⟨(Nat.le_of_ble_eq_true rfl), (Nat.le_of_ble_eq_true rfl)⟩) (prV (ci := 0) (q0 := 0) hKK hI (mv_1) rfl rfl rfl) rfl rfl hl.1 rfl (lv_room (Nat.le_of_ble_eq_true rfl)) d_Cs_readRequest_6 ⟨(Nat.le_of_ble_eq_true rfl), (Nat.le_of_ble_eq_true rfl)⟩) hS (fun _ => ((mv_1)).symm) (fun _ H locs hI hS => ?_)
  have hI : Iw D A (w_Cs g a0 (Cs_set_count s0 (0 : Int32)) ++ (w_Bs g a1 s1 ++ (rest))) H := hI
  refine lv_iconst (v := 2) hx hb d_Cs_readRequest_9 (by decide) ?_
  refine lv_isub hx hb d_Cs_readRequest_10 ?_
  refine lv_iconst (v := 2) hx hb d_Cs_readRequest_11 (by decide) ?_
  refine lv_isub hx hb d_Cs_readRequest_12 ?_
  refine lv_istore_n hx hb d_Cs_readRequest_13 rfl hl (Nat.le_of_ble_eq_true rfl) rfl (fun ls hl => ?_)
  have hl : lv_has ls 7 [(2, .int ((o1 - (2 : Int32)) - (2 : Int32))), (0, .ref (a0 0)), (1, .ref (a1 0))] := hl
  refine lv_iload_n hx hb d_Cs_readRequest_14 rfl (lv_at hl 0 rfl) ?_
  refine lv_iconst (v := 3) hx hb d_Cs_readRequest_15 (by decide) ?_
  refine lv_idiv hx hb d_Cs_readRequest_16 (by decide) ?_
  refine lv_istore_n hx hb d_Cs_readRequest_17 rfl hl (Nat.le_of_ble_eq_true rfl) rfl (fun ls hl => ?_)
  have hl : lv_has ls 7 [(3, .int (((o1 - (2 : Int32)) - (2 : Int32)) / (3 : Int32))), (2, .int ((o1 - (2 : Int32)) - (2 : Int32))), (0, .ref (a0 0)), (1, .ref (a1 0))] := hl
  refine lv_iload_n hx hb d_Cs_readRequest_18 rfl (lv_at hl 1 rfl) ?_
  refine lv_iconst (v := 3) hx hb d_Cs_readRequest_19 (by decide) ?_
  refine lv_irem hx hb d_Cs_readRequest_20 (by decide) ?_
  refine lv_if_ne (tgt := 34) hx hb d_Cs_readRequest_21 (by decide) (fun hc => ?_) (fun hc => ?_)
  · have h := it_f h hc
    exact t_Cs_readRequest_34 X (lv_sub hl [] rfl) hI hS h
  · have h := it_t h hc
    exact t_Cs_readRequest_24 X (lv_sub hl [2, 3, 0] rfl) hI hS h
set_option maxRecDepth 100000 in
set_option maxHeartbeats 4000000 in
theorem c_Cs_readRequest {l : Launch} {D : va_G} {A : Nat → Prop} {g : Nat → ClassId} {rest : va_W} {a0 : Nat → Nat} {a1 : Nat → Nat} {s0 : S_Cs} {s1 : S_Bs} {out : Int32 × S_Cs} (h : F_Cs_readRequest s0 s1 = some out) : Met l y_Cs_readRequest ws_Cs_readRequest { frames := 1, cells := 0, slots := 0, locals := 22 } (PcW D A g [.ref (a0 0), .ref (a1 0)] (w_Cs g a0 s0 ++ (w_Bs g a1 s1 ++ (rest)))) (QcI D A g out.1 (fun (_ : Unit) => w_Cs g a0 out.2 ++ (w_Bs g a1 s1 ++ (rest)))) 0 0 A := by
  refine Met.ofW (cc := prog_3_method_9_code) (maxL := 7) (ret := (some .boolean)) (by decide) rfl ?_
  intro p e s m args below meth c s₁ B hml hv
  obtain ⟨rfl, hI, hK⟩ := hv
  have hl := lv_entry [.ref (a0 0), .ref (a1 0)] (n := 7) (Nat.le_of_ble_eq_true rfl)
  rw [lg_entry_eq]
  generalize (lg_sl [.ref (a0 0), .ref (a1 0)] ++ List.replicate (7 - (lg_sl [.ref (a0 0), .ref (a1 0)]).length) Slot.unset).toArray = ls at hl ⊢
  have hl : lv_has ls 7 [(0, .ref (a0 0)), (1, .ref (a1 0))] := hl
  exact t_Cs_readRequest_0 ⟨B.exec, B.bytes, hml, findClass_of_methodNamed B.named, atoms_spec (ws := ws_Cs_readRequest) B.pre, B.returns, B.notSynchronized, hK⟩ (lv_sub hl [0, 1] rfl) hI va_S.rf h
def ws_Cs_count : List Cond := .code y_Cs_count prog_3_method_2_code 1 (some .int) :: TB
def B_Cs_count_0 (s0 : S_Cs) : Option Int32 :=
  some (Cs_count s0)
def F_Cs_count (s0 : S_Cs) : Option Int32 := B_Cs_count_0 s0
set_option maxRecDepth 100000 in
set_option maxHeartbeats 4000000 in
theorem t_Cs_count_0 {p : Program} {l : Launch} {e : Env} {s : State} {m : MethodId} {args : Array Value} {below : List Frame} {meth : Method} {c : Code} {D : va_G} {A : Nat → Prop} {g : Nat → ClassId} {rest : va_W} {a0 : Nat → Nat} {ls : Array Slot} {H : Heap} {locs : List Loc} {s0 : S_Cs} {out : Int32} (X : Cx p s m args meth c prog_3_method_2_code 1 ws_Cs_count R_Cs (some .int) D g) (hl : lv_has ls 1 [(0, .ref (a0 0))]) (hI : Iw D A (w_Cs g a0 s0 ++ (rest)) H) (hS : va_S A s.heap H locs) (h : B_Cs_count_0  s0 = some out) : W p l e (headSpec ws_Cs_count { frames := 0, cells := 0, slots := 0, locals := 0 }).room s m args below meth c H locs 0 0 (MQ below (QcI D A g out (fun (_ : Unit) => w_Cs g a0 s0 ++ (rest))) args s 0 0 A) (F0 m 0 ls []) := by
  have X1 := X
  obtain ⟨hx, hb, hml, hown, hts, hr, hlocks, hKK⟩ := X1
  have ht : ∀ w ∈ TB, w.before args s = true := fun w h => hts w (List.mem_cons_of_mem _ h)
  have hK := hKK.1
  unfold B_Cs_count_0 at h
  refine lv_aload_n hx hb d_Cs_count_0 rfl (lv_at hl 0 rfl) ?_
  refine va_get (D := D) (ci := 1) (v := .int (Cs_count s0)) (C := R_Cs) (T := T_Cs) (N := 4) hx hb ht in_Cs hown hK hI.1 0 rfl rfl 3 (by decide) (ht _ m_65) (fun _ h9 => h9) rfl d_Cs_count_1 ?_
  have h9 := Option.some.inj h
  subst h9
  exact W.iret (v := (Cs_count s0)) hx hb hr (fun t ht hW => ⟨⟨_, (), rfl, rfl, ⟨by rw [ht]; exact hI, hKK.moved hW⟩⟩, hS.F ht⟩) hS.2.2 d_Cs_count_4
set_option maxRecDepth 100000 in
set_option maxHeartbeats 4000000 in
theorem c_Cs_count {l : Launch} {D : va_G} {A : Nat → Prop} {g : Nat → ClassId} {rest : va_W} {a0 : Nat → Nat} {s0 : S_Cs} {out : Int32} (h : F_Cs_count s0 = some out) : Met l y_Cs_count ws_Cs_count { frames := 0, cells := 0, slots := 0, locals := 0 } (PcW D A g [.ref (a0 0)] (w_Cs g a0 s0 ++ (rest))) (QcI D A g out (fun (_ : Unit) => w_Cs g a0 s0 ++ (rest))) 0 0 A := by
  refine Met.ofW (cc := prog_3_method_2_code) (maxL := 1) (ret := (some .int)) (by decide) rfl ?_
  intro p e s m args below meth c s₁ B hml hv
  obtain ⟨rfl, hI, hK⟩ := hv
  have hl := lv_entry [.ref (a0 0)] (n := 1) (Nat.le_of_ble_eq_true rfl)
  rw [lg_entry_eq]
  generalize (lg_sl [.ref (a0 0)] ++ List.replicate (1 - (lg_sl [.ref (a0 0)]).length) Slot.unset).toArray = ls at hl ⊢
  have hl : lv_has ls 1 [(0, .ref (a0 0))] := hl
  exact t_Cs_count_0 ⟨B.exec, B.bytes, hml, findClass_of_methodNamed B.named, atoms_spec (ws := ws_Cs_count) B.pre, B.returns, B.notSynchronized, hK⟩ (lv_sub hl [0] rfl) hI va_S.rf h
def ws_Cs_has : List Cond := .code y_Cs_has prog_3_method_6_code 2 (some .boolean) :: TB
def B_Cs_has_17 (s0 : S_Cs) (y0 : Int32) : Option Int32 :=
  (if y0 = 0 ∨ y0 = 1 then some y0 else none)
def B_Cs_has_16 (s0 : S_Cs) : Option Int32 :=
  (B_Cs_has_17 s0 (0 : Int32))
def B_Cs_has_12 (s0 : S_Cs) : Option Int32 :=
  (B_Cs_has_17 s0 (1 : Int32))
def B_Cs_has_4 (s0 : S_Cs) (x1 : Int32) : Option Int32 :=
  (if (Cs_count s0) ≤ x1 then (B_Cs_has_16 s0) else (B_Cs_has_12 s0))
def B_Cs_has_0 (s0 : S_Cs) (x1 : Int32) : Option Int32 :=
  (if x1 < 0 then (B_Cs_has_16 s0) else (B_Cs_has_4 s0 x1))
def F_Cs_has (s0 : S_Cs) (x1 : Int32) : Option Int32 := B_Cs_has_0 s0 x1
set_option maxRecDepth 100000 in
set_option maxHeartbeats 4000000 in
theorem t_Cs_has_17 {p : Program} {l : Launch} {e : Env} {s : State} {m : MethodId} {args : Array Value} {below : List Frame} {meth : Method} {c : Code} {D : va_G} {A : Nat → Prop} {g : Nat → ClassId} {rest : va_W} {a0 : Nat → Nat} {ls : Array Slot} {H : Heap} {locs : List Loc} {s0 : S_Cs} {y0 : Int32} {out : Int32} (X : Cx p s m args meth c prog_3_method_6_code 2 ws_Cs_has R_Cs (some .boolean) D g) (hl : lv_has ls 2 []) (hI : Iw D A (w_Cs g a0 s0 ++ (rest)) H) (hS : va_S A s.heap H locs) (h : B_Cs_has_17  s0 y0 = some out) : W p l e (headSpec ws_Cs_has { frames := 0, cells := 0, slots := 0, locals := 0 }).room s m args below meth c H locs 0 0 (MQ below (QcI D A g out (fun (_ : Unit) => w_Cs g a0 s0 ++ (rest))) args s 0 0 A) (F0 m 17 ls [.int y0]) := by
  have X1 := X
  obtain ⟨hx, hb, hml, hown, hts, hr, hlocks, hKK⟩ := X1
  have ht : ∀ w ∈ TB, w.before args s = true := fun w h => hts w (List.mem_cons_of_mem _ h)
  have hK := hKK.1
  unfold B_Cs_has_17 at h
  have hc1 : y0 = 0 ∨ y0 = 1 := by
    by_cases z : y0 = 0 ∨ y0 = 1
    · exact z
    · exact no_s (it_f h z)
  have h := it_t h hc1
  have h9 := Option.some.inj h
  subst h9
  exact W.zret (v := y0) hx hb hr (by rcases hc1 with z | z <;> rw [z] <;> rfl) (fun t ht hW => ⟨⟨_, (), rfl, rfl, ⟨by rw [ht]; exact hI, hKK.moved hW⟩⟩, hS.F ht⟩) hS.2.2 d_Cs_has_17
set_option maxRecDepth 100000 in
set_option maxHeartbeats 4000000 in
theorem t_Cs_has_16 {p : Program} {l : Launch} {e : Env} {s : State} {m : MethodId} {args : Array Value} {below : List Frame} {meth : Method} {c : Code} {D : va_G} {A : Nat → Prop} {g : Nat → ClassId} {rest : va_W} {a0 : Nat → Nat} {ls : Array Slot} {H : Heap} {locs : List Loc} {s0 : S_Cs} {out : Int32} (X : Cx p s m args meth c prog_3_method_6_code 2 ws_Cs_has R_Cs (some .boolean) D g) (hl : lv_has ls 2 []) (hI : Iw D A (w_Cs g a0 s0 ++ (rest)) H) (hS : va_S A s.heap H locs) (h : B_Cs_has_16  s0 = some out) : W p l e (headSpec ws_Cs_has { frames := 0, cells := 0, slots := 0, locals := 0 }).room s m args below meth c H locs 0 0 (MQ below (QcI D A g out (fun (_ : Unit) => w_Cs g a0 s0 ++ (rest))) args s 0 0 A) (F0 m 16 ls []) := by
  have X1 := X
  obtain ⟨hx, hb, hml, hown, hts, hr, hlocks, hKK⟩ := X1
  have ht : ∀ w ∈ TB, w.before args s = true := fun w h => hts w (List.mem_cons_of_mem _ h)
  have hK := hKK.1
  unfold B_Cs_has_16 at h
  refine lv_iconst (v := 0) hx hb d_Cs_has_16 (by decide) ?_
  exact t_Cs_has_17 X (lv_sub hl [] rfl) hI hS h
set_option maxRecDepth 100000 in
set_option maxHeartbeats 4000000 in
theorem t_Cs_has_12 {p : Program} {l : Launch} {e : Env} {s : State} {m : MethodId} {args : Array Value} {below : List Frame} {meth : Method} {c : Code} {D : va_G} {A : Nat → Prop} {g : Nat → ClassId} {rest : va_W} {a0 : Nat → Nat} {ls : Array Slot} {H : Heap} {locs : List Loc} {s0 : S_Cs} {out : Int32} (X : Cx p s m args meth c prog_3_method_6_code 2 ws_Cs_has R_Cs (some .boolean) D g) (hl : lv_has ls 2 []) (hI : Iw D A (w_Cs g a0 s0 ++ (rest)) H) (hS : va_S A s.heap H locs) (h : B_Cs_has_12  s0 = some out) : W p l e (headSpec ws_Cs_has { frames := 0, cells := 0, slots := 0, locals := 0 }).room s m args below meth c H locs 0 0 (MQ below (QcI D A g out (fun (_ : Unit) => w_Cs g a0 s0 ++ (rest))) args s 0 0 A) (F0 m 12 ls []) := by
  have X1 := X
  obtain ⟨hx, hb, hml, hown, hts, hr, hlocks, hKK⟩ := X1
  have ht : ∀ w ∈ TB, w.before args s = true := fun w h => hts w (List.mem_cons_of_mem _ h)
  have hK := hKK.1
  unfold B_Cs_has_12 at h
  refine lv_iconst (v := 1) hx hb d_Cs_has_12 (by decide) ?_
  refine lv_goto (tgt := 17) hx hb d_Cs_has_13 (by decide) ?_
  exact t_Cs_has_17 X (lv_sub hl [] rfl) hI hS h
set_option maxRecDepth 100000 in
set_option maxHeartbeats 4000000 in
theorem t_Cs_has_4 {p : Program} {l : Launch} {e : Env} {s : State} {m : MethodId} {args : Array Value} {below : List Frame} {meth : Method} {c : Code} {D : va_G} {A : Nat → Prop} {g : Nat → ClassId} {rest : va_W} {a0 : Nat → Nat} {ls : Array Slot} {H : Heap} {locs : List Loc} {s0 : S_Cs} {x1 : Int32} {out : Int32} (X : Cx p s m args meth c prog_3_method_6_code 2 ws_Cs_has R_Cs (some .boolean) D g) (hl : lv_has ls 2 [(0, .ref (a0 0)), (1, .int x1)]) (hI : Iw D A (w_Cs g a0 s0 ++ (rest)) H) (hS : va_S A s.heap H locs) (h : B_Cs_has_4  s0 x1 = some out) : W p l e (headSpec ws_Cs_has { frames := 0, cells := 0, slots := 0, locals := 0 }).room s m args below meth c H locs 0 0 (MQ below (QcI D A g out (fun (_ : Unit) => w_Cs g a0 s0 ++ (rest))) args s 0 0 A) (F0 m 4 ls []) := by
  have X1 := X
  obtain ⟨hx, hb, hml, hown, hts, hr, hlocks, hKK⟩ := X1
  have ht : ∀ w ∈ TB, w.before args s = true := fun w h => hts w (List.mem_cons_of_mem _ h)
  have hK := hKK.1
  unfold B_Cs_has_4 at h
  refine lv_iload_n hx hb d_Cs_has_4 rfl (lv_at hl 1 rfl) ?_
  refine lv_aload_n hx hb d_Cs_has_5 rfl (lv_at hl 0 rfl) ?_
  refine va_get (D := D) (ci := 1) (v := .int (Cs_count s0)) (C := R_Cs) (T := T_Cs) (N := 4) hx hb ht in_Cs hown hK hI.1 0 rfl rfl 3 (by decide) (ht _ m_65) (fun _ h9 => h9) rfl d_Cs_has_6 ?_
  refine lv_icmp_ge (tgt := 16) hx hb d_Cs_has_9 (by decide) (fun hc => ?_) (fun hc => ?_)
  · have h := it_t h hc
    exact t_Cs_has_16 X (lv_sub hl [] rfl) hI hS h
  · have h := it_f h hc
    exact t_Cs_has_12 X (lv_sub hl [] rfl) hI hS h
set_option maxRecDepth 100000 in
set_option maxHeartbeats 4000000 in
theorem t_Cs_has_0 {p : Program} {l : Launch} {e : Env} {s : State} {m : MethodId} {args : Array Value} {below : List Frame} {meth : Method} {c : Code} {D : va_G} {A : Nat → Prop} {g : Nat → ClassId} {rest : va_W} {a0 : Nat → Nat} {ls : Array Slot} {H : Heap} {locs : List Loc} {s0 : S_Cs} {x1 : Int32} {out : Int32} (X : Cx p s m args meth c prog_3_method_6_code 2 ws_Cs_has R_Cs (some .boolean) D g) (hl : lv_has ls 2 [(0, .ref (a0 0)), (1, .int x1)]) (hI : Iw D A (w_Cs g a0 s0 ++ (rest)) H) (hS : va_S A s.heap H locs) (h : B_Cs_has_0  s0 x1 = some out) : W p l e (headSpec ws_Cs_has { frames := 0, cells := 0, slots := 0, locals := 0 }).room s m args below meth c H locs 0 0 (MQ below (QcI D A g out (fun (_ : Unit) => w_Cs g a0 s0 ++ (rest))) args s 0 0 A) (F0 m 0 ls []) := by
  have X1 := X
  obtain ⟨hx, hb, hml, hown, hts, hr, hlocks, hKK⟩ := X1
  have ht : ∀ w ∈ TB, w.before args s = true := fun w h => hts w (List.mem_cons_of_mem _ h)
  have hK := hKK.1
  unfold B_Cs_has_0 at h
  refine lv_iload_n hx hb d_Cs_has_0 rfl (lv_at hl 1 rfl) ?_
  refine lv_if_lt (tgt := 16) hx hb d_Cs_has_1 (by decide) (fun hc => ?_) (fun hc => ?_)
  · have h := it_t h hc
    exact t_Cs_has_16 X (lv_sub hl [] rfl) hI hS h
  · have h := it_f h hc
    exact t_Cs_has_4 X (lv_sub hl [0, 1] rfl) hI hS h
set_option maxRecDepth 100000 in
set_option maxHeartbeats 4000000 in
theorem c_Cs_has {l : Launch} {D : va_G} {A : Nat → Prop} {g : Nat → ClassId} {rest : va_W} {a0 : Nat → Nat} {s0 : S_Cs} {x1 : Int32} {out : Int32} (h : F_Cs_has s0 x1 = some out) : Met l y_Cs_has ws_Cs_has { frames := 0, cells := 0, slots := 0, locals := 0 } (PcW D A g [.ref (a0 0), .int x1] (w_Cs g a0 s0 ++ (rest))) (QcI D A g out (fun (_ : Unit) => w_Cs g a0 s0 ++ (rest))) 0 0 A := by
  refine Met.ofW (cc := prog_3_method_6_code) (maxL := 2) (ret := (some .boolean)) (by decide) rfl ?_
  intro p e s m args below meth c s₁ B hml hv
  obtain ⟨rfl, hI, hK⟩ := hv
  have hl := lv_entry [.ref (a0 0), .int x1] (n := 2) (Nat.le_of_ble_eq_true rfl)
  rw [lg_entry_eq]
  generalize (lg_sl [.ref (a0 0), .int x1] ++ List.replicate (2 - (lg_sl [.ref (a0 0), .int x1]).length) Slot.unset).toArray = ls at hl ⊢
  have hl : lv_has ls 2 [(0, .ref (a0 0)), (1, .int x1)] := hl
  exact t_Cs_has_0 ⟨B.exec, B.bytes, hml, findClass_of_methodNamed B.named, atoms_spec (ws := ws_Cs_has) B.pre, B.returns, B.notSynchronized, hK⟩ (lv_sub hl [0, 1] rfl) hI va_S.rf h
def ws_Cs_id : List Cond := .code y_Cs_id prog_3_method_3_code 2 (some .int) :: TB
def B_Cs_id_18 (s0 : S_Cs) (y0 : Int32) : Option Int32 :=
  some y0
def B_Cs_id_17 (s0 : S_Cs) : Option Int32 :=
  (B_Cs_id_18 s0 ((-1) : Int32))
def B_Cs_id_8 (s0 : S_Cs) (x1 : Int32) : Option Int32 :=
  (if (x1 < 0 ∨ 4 ≤ x1.toNatClampNeg) then none else (B_Cs_id_18 s0 ((Cs_ids s0) x1.toNatClampNeg)))
def B_Cs_id_0 (s0 : S_Cs) (x1 : Int32) : Option Int32 :=
  ((F_Cs_has s0 x1).bind fun o1 => (if o1 = 0 then (B_Cs_id_17 s0) else (B_Cs_id_8 s0 x1)))
def F_Cs_id (s0 : S_Cs) (x1 : Int32) : Option Int32 := B_Cs_id_0 s0 x1
set_option maxRecDepth 100000 in
set_option maxHeartbeats 4000000 in
theorem t_Cs_id_18 {p : Program} {l : Launch} {e : Env} {s : State} {m : MethodId} {args : Array Value} {below : List Frame} {meth : Method} {c : Code} {D : va_G} {A : Nat → Prop} {g : Nat → ClassId} {rest : va_W} {a0 : Nat → Nat} {ls : Array Slot} {H : Heap} {locs : List Loc} {s0 : S_Cs} {y0 : Int32} {out : Int32} (X : Cx p s m args meth c prog_3_method_3_code 2 ws_Cs_id R_Cs (some .int) D g) (hl : lv_has ls 2 []) (hI : Iw D A (w_Cs g a0 s0 ++ (rest)) H) (hS : va_S A s.heap H locs) (h : B_Cs_id_18  s0 y0 = some out) : W p l e (headSpec ws_Cs_id { frames := 1, cells := 0, slots := 0, locals := 21 }).room s m args below meth c H locs 0 0 (MQ below (QcI D A g out (fun (_ : Unit) => w_Cs g a0 s0 ++ (rest))) args s 0 0 A) (F0 m 18 ls [.int y0]) := by
  have X1 := X
  obtain ⟨hx, hb, hml, hown, hts, hr, hlocks, hKK⟩ := X1
  have ht : ∀ w ∈ TB, w.before args s = true := fun w h => hts w (List.mem_cons_of_mem _ h)
  have hK := hKK.1
  unfold B_Cs_id_18 at h
  have h9 := Option.some.inj h
  subst h9
  exact W.iret (v := y0) hx hb hr (fun t ht hW => ⟨⟨_, (), rfl, rfl, ⟨by rw [ht]; exact hI, hKK.moved hW⟩⟩, hS.F ht⟩) hS.2.2 d_Cs_id_18
set_option maxRecDepth 100000 in
set_option maxHeartbeats 4000000 in
theorem t_Cs_id_17 {p : Program} {l : Launch} {e : Env} {s : State} {m : MethodId} {args : Array Value} {below : List Frame} {meth : Method} {c : Code} {D : va_G} {A : Nat → Prop} {g : Nat → ClassId} {rest : va_W} {a0 : Nat → Nat} {ls : Array Slot} {H : Heap} {locs : List Loc} {s0 : S_Cs} {out : Int32} (X : Cx p s m args meth c prog_3_method_3_code 2 ws_Cs_id R_Cs (some .int) D g) (hl : lv_has ls 2 []) (hI : Iw D A (w_Cs g a0 s0 ++ (rest)) H) (hS : va_S A s.heap H locs) (h : B_Cs_id_17  s0 = some out) : W p l e (headSpec ws_Cs_id { frames := 1, cells := 0, slots := 0, locals := 21 }).room s m args below meth c H locs 0 0 (MQ below (QcI D A g out (fun (_ : Unit) => w_Cs g a0 s0 ++ (rest))) args s 0 0 A) (F0 m 17 ls []) := by
  have X1 := X
  obtain ⟨hx, hb, hml, hown, hts, hr, hlocks, hKK⟩ := X1
  have ht : ∀ w ∈ TB, w.before args s = true := fun w h => hts w (List.mem_cons_of_mem _ h)
  have hK := hKK.1
  unfold B_Cs_id_17 at h
  refine lv_iconst (v := (-1)) hx hb d_Cs_id_17 (by decide) ?_
  exact t_Cs_id_18 X (lv_sub hl [] rfl) hI hS h
set_option maxRecDepth 100000 in
set_option maxHeartbeats 4000000 in
theorem t_Cs_id_8 {p : Program} {l : Launch} {e : Env} {s : State} {m : MethodId} {args : Array Value} {below : List Frame} {meth : Method} {c : Code} {D : va_G} {A : Nat → Prop} {g : Nat → ClassId} {rest : va_W} {a0 : Nat → Nat} {ls : Array Slot} {H : Heap} {locs : List Loc} {s0 : S_Cs} {x1 : Int32} {out : Int32} (X : Cx p s m args meth c prog_3_method_3_code 2 ws_Cs_id R_Cs (some .int) D g) (hl : lv_has ls 2 [(0, .ref (a0 0)), (1, .int x1)]) (hI : Iw D A (w_Cs g a0 s0 ++ (rest)) H) (hS : va_S A s.heap H locs) (h : B_Cs_id_8  s0 x1 = some out) : W p l e (headSpec ws_Cs_id { frames := 1, cells := 0, slots := 0, locals := 21 }).room s m args below meth c H locs 0 0 (MQ below (QcI D A g out (fun (_ : Unit) => w_Cs g a0 s0 ++ (rest))) args s 0 0 A) (F0 m 8 ls []) := by
  have X1 := X
  obtain ⟨hx, hb, hml, hown, hts, hr, hlocks, hKK⟩ := X1
  have ht : ∀ w ∈ TB, w.before args s = true := fun w h => hts w (List.mem_cons_of_mem _ h)
  have hK := hKK.1
  unfold B_Cs_id_8 at h
  refine lv_aload_n hx hb d_Cs_id_8 rfl (lv_at hl 0 rfl) ?_
  refine va_get (D := D) (ci := 1) (v := .ref (a0 1)) (C := R_Cs) (T := T_Cs) (N := 4) hx hb ht in_Cs hown hK hI.1 0 rfl rfl 0 (by decide) (ht _ m_62) (fun _ h9 => h9) rfl d_Cs_id_9 ?_
  refine lv_iload_n hx hb d_Cs_id_12 rfl (lv_at hl 1 rfl) ?_
  by_cases hc1 : (x1 < 0 ∨ 4 ≤ x1.toNatClampNeg)
  · exact no_s (it_t h hc1)
  have h := it_f h hc1
  refine va_iald hx hb hK hI.1 1 0 rfl rfl hc1 d_Cs_id_13 ?_
  refine lv_goto (tgt := 18) hx hb d_Cs_id_14 (by decide) ?_
  exact t_Cs_id_18 X (lv_sub hl [] rfl) hI hS h
set_option maxRecDepth 100000 in
set_option maxHeartbeats 4000000 in
theorem t_Cs_id_0 {p : Program} {l : Launch} {e : Env} {s : State} {m : MethodId} {args : Array Value} {below : List Frame} {meth : Method} {c : Code} {D : va_G} {A : Nat → Prop} {g : Nat → ClassId} {rest : va_W} {a0 : Nat → Nat} {ls : Array Slot} {H : Heap} {locs : List Loc} {s0 : S_Cs} {x1 : Int32} {out : Int32} (X : Cx p s m args meth c prog_3_method_3_code 2 ws_Cs_id R_Cs (some .int) D g) (hl : lv_has ls 2 [(0, .ref (a0 0)), (1, .int x1)]) (hI : Iw D A (w_Cs g a0 s0 ++ (rest)) H) (hS : va_S A s.heap H locs) (h : B_Cs_id_0  s0 x1 = some out) : W p l e (headSpec ws_Cs_id { frames := 1, cells := 0, slots := 0, locals := 21 }).room s m args below meth c H locs 0 0 (MQ below (QcI D A g out (fun (_ : Unit) => w_Cs g a0 s0 ++ (rest))) args s 0 0 A) (F0 m 0 ls []) := by
  have X1 := X
  obtain ⟨hx, hb, hml, hown, hts, hr, hlocks, hKK⟩ := X1
  have ht : ∀ w ∈ TB, w.before args s = true := fun w h => hts w (List.mem_cons_of_mem _ h)
  have hK := hKK.1
  unfold B_Cs_id_0 at h
  refine lv_aload_n hx hb d_Cs_id_0 rfl (lv_at hl 0 rfl) ?_
  refine lv_iload_n hx hb d_Cs_id_1 rfl (lv_at hl 1 rfl) ?_
  obtain ⟨o1, ho2, h⟩ := bd_s h
  refine cl_i (W1 := fun (_ : Unit) => w_Cs g a0 s0 ++ (rest)) (va_runV (As := [.int x1]) (rest := []) ⟨hx, hb, hml, hown, ht⟩ (c_Cs_has (l := l) (D := D) (A := A) (g := g) (rest := rest) (a0 := a0) ho2) (cwV 1 ht (gd_V m_371 m_373 mp_10 m_4 m_374) rfl rfl rfl (by decide +kernel) ⟨(Nat.le_of_ble_eq_true rfl), (Nat.le_of_ble_eq_true rfl)⟩) (prV (ci := 1) (q0 := 0) hKK hI (List.Perm.refl _) rfl rfl rfl) rfl rfl hl.1 rfl (lv_room (Nat.le_of_ble_eq_true rfl)) d_Cs_id_2 ⟨(Nat.le_of_ble_eq_true rfl), (Nat.le_of_ble_eq_true rfl)⟩) hS (fun _ => ((List.Perm.refl _)).symm) (fun _ H locs hI hS => ?_)
  have hI : Iw D A (w_Cs g a0 s0 ++ (rest)) H := hI
  refine lv_if_eq (tgt := 17) hx hb d_Cs_id_5 (by decide) (fun hc => ?_) (fun hc => ?_)
  · have h := it_t h hc
    exact t_Cs_id_17 X (lv_sub hl [] rfl) hI hS h
  · have h := it_f h hc
    exact t_Cs_id_8 X (lv_sub hl [0, 1] rfl) hI hS h
set_option maxRecDepth 100000 in
set_option maxHeartbeats 4000000 in
theorem c_Cs_id {l : Launch} {D : va_G} {A : Nat → Prop} {g : Nat → ClassId} {rest : va_W} {a0 : Nat → Nat} {s0 : S_Cs} {x1 : Int32} {out : Int32} (h : F_Cs_id s0 x1 = some out) : Met l y_Cs_id ws_Cs_id { frames := 1, cells := 0, slots := 0, locals := 21 } (PcW D A g [.ref (a0 0), .int x1] (w_Cs g a0 s0 ++ (rest))) (QcI D A g out (fun (_ : Unit) => w_Cs g a0 s0 ++ (rest))) 0 0 A := by
  refine Met.ofW (cc := prog_3_method_3_code) (maxL := 2) (ret := (some .int)) (by decide) rfl ?_
  intro p e s m args below meth c s₁ B hml hv
  obtain ⟨rfl, hI, hK⟩ := hv
  have hl := lv_entry [.ref (a0 0), .int x1] (n := 2) (Nat.le_of_ble_eq_true rfl)
  rw [lg_entry_eq]
  generalize (lg_sl [.ref (a0 0), .int x1] ++ List.replicate (2 - (lg_sl [.ref (a0 0), .int x1]).length) Slot.unset).toArray = ls at hl ⊢
  have hl : lv_has ls 2 [(0, .ref (a0 0)), (1, .int x1)] := hl
  exact t_Cs_id_0 ⟨B.exec, B.bytes, hml, findClass_of_methodNamed B.named, atoms_spec (ws := ws_Cs_id) B.pre, B.returns, B.notSynchronized, hK⟩ (lv_sub hl [0, 1] rfl) hI va_S.rf h
def ws_Cs_result : List Cond := .code y_Cs_result prog_3_method_5_code 2 (some .int) :: TB
def B_Cs_result_18 (s0 : S_Cs) (y0 : Int32) : Option Int32 :=
  some y0
def B_Cs_result_17 (s0 : S_Cs) : Option Int32 :=
  (B_Cs_result_18 s0 ((-1) : Int32))
def B_Cs_result_8 (s0 : S_Cs) (x1 : Int32) : Option Int32 :=
  (if (x1 < 0 ∨ 4 ≤ x1.toNatClampNeg) then none else (B_Cs_result_18 s0 ((Cs_results s0) x1.toNatClampNeg)))
def B_Cs_result_0 (s0 : S_Cs) (x1 : Int32) : Option Int32 :=
  ((F_Cs_has s0 x1).bind fun o1 => (if o1 = 0 then (B_Cs_result_17 s0) else (B_Cs_result_8 s0 x1)))
def F_Cs_result (s0 : S_Cs) (x1 : Int32) : Option Int32 := B_Cs_result_0 s0 x1
set_option maxRecDepth 100000 in
set_option maxHeartbeats 4000000 in
theorem t_Cs_result_18 {p : Program} {l : Launch} {e : Env} {s : State} {m : MethodId} {args : Array Value} {below : List Frame} {meth : Method} {c : Code} {D : va_G} {A : Nat → Prop} {g : Nat → ClassId} {rest : va_W} {a0 : Nat → Nat} {ls : Array Slot} {H : Heap} {locs : List Loc} {s0 : S_Cs} {y0 : Int32} {out : Int32} (X : Cx p s m args meth c prog_3_method_5_code 2 ws_Cs_result R_Cs (some .int) D g) (hl : lv_has ls 2 []) (hI : Iw D A (w_Cs g a0 s0 ++ (rest)) H) (hS : va_S A s.heap H locs) (h : B_Cs_result_18  s0 y0 = some out) : W p l e (headSpec ws_Cs_result { frames := 1, cells := 0, slots := 0, locals := 21 }).room s m args below meth c H locs 0 0 (MQ below (QcI D A g out (fun (_ : Unit) => w_Cs g a0 s0 ++ (rest))) args s 0 0 A) (F0 m 18 ls [.int y0]) := by
  have X1 := X
  obtain ⟨hx, hb, hml, hown, hts, hr, hlocks, hKK⟩ := X1
  have ht : ∀ w ∈ TB, w.before args s = true := fun w h => hts w (List.mem_cons_of_mem _ h)
  have hK := hKK.1
  unfold B_Cs_result_18 at h
  have h9 := Option.some.inj h
  subst h9
  exact W.iret (v := y0) hx hb hr (fun t ht hW => ⟨⟨_, (), rfl, rfl, ⟨by rw [ht]; exact hI, hKK.moved hW⟩⟩, hS.F ht⟩) hS.2.2 d_Cs_result_18
set_option maxRecDepth 100000 in
set_option maxHeartbeats 4000000 in
theorem t_Cs_result_17 {p : Program} {l : Launch} {e : Env} {s : State} {m : MethodId} {args : Array Value} {below : List Frame} {meth : Method} {c : Code} {D : va_G} {A : Nat → Prop} {g : Nat → ClassId} {rest : va_W} {a0 : Nat → Nat} {ls : Array Slot} {H : Heap} {locs : List Loc} {s0 : S_Cs} {out : Int32} (X : Cx p s m args meth c prog_3_method_5_code 2 ws_Cs_result R_Cs (some .int) D g) (hl : lv_has ls 2 []) (hI : Iw D A (w_Cs g a0 s0 ++ (rest)) H) (hS : va_S A s.heap H locs) (h : B_Cs_result_17  s0 = some out) : W p l e (headSpec ws_Cs_result { frames := 1, cells := 0, slots := 0, locals := 21 }).room s m args below meth c H locs 0 0 (MQ below (QcI D A g out (fun (_ : Unit) => w_Cs g a0 s0 ++ (rest))) args s 0 0 A) (F0 m 17 ls []) := by
  have X1 := X
  obtain ⟨hx, hb, hml, hown, hts, hr, hlocks, hKK⟩ := X1
  have ht : ∀ w ∈ TB, w.before args s = true := fun w h => hts w (List.mem_cons_of_mem _ h)
  have hK := hKK.1
  unfold B_Cs_result_17 at h
  refine lv_iconst (v := (-1)) hx hb d_Cs_result_17 (by decide) ?_
  exact t_Cs_result_18 X (lv_sub hl [] rfl) hI hS h
set_option maxRecDepth 100000 in
set_option maxHeartbeats 4000000 in
theorem t_Cs_result_8 {p : Program} {l : Launch} {e : Env} {s : State} {m : MethodId} {args : Array Value} {below : List Frame} {meth : Method} {c : Code} {D : va_G} {A : Nat → Prop} {g : Nat → ClassId} {rest : va_W} {a0 : Nat → Nat} {ls : Array Slot} {H : Heap} {locs : List Loc} {s0 : S_Cs} {x1 : Int32} {out : Int32} (X : Cx p s m args meth c prog_3_method_5_code 2 ws_Cs_result R_Cs (some .int) D g) (hl : lv_has ls 2 [(0, .ref (a0 0)), (1, .int x1)]) (hI : Iw D A (w_Cs g a0 s0 ++ (rest)) H) (hS : va_S A s.heap H locs) (h : B_Cs_result_8  s0 x1 = some out) : W p l e (headSpec ws_Cs_result { frames := 1, cells := 0, slots := 0, locals := 21 }).room s m args below meth c H locs 0 0 (MQ below (QcI D A g out (fun (_ : Unit) => w_Cs g a0 s0 ++ (rest))) args s 0 0 A) (F0 m 8 ls []) := by
  have X1 := X
  obtain ⟨hx, hb, hml, hown, hts, hr, hlocks, hKK⟩ := X1
  have ht : ∀ w ∈ TB, w.before args s = true := fun w h => hts w (List.mem_cons_of_mem _ h)
  have hK := hKK.1
  unfold B_Cs_result_8 at h
  refine lv_aload_n hx hb d_Cs_result_8 rfl (lv_at hl 0 rfl) ?_
  refine va_get (D := D) (ci := 1) (v := .ref (a0 3)) (C := R_Cs) (T := T_Cs) (N := 4) hx hb ht in_Cs hown hK hI.1 0 rfl rfl 2 (by decide) (ht _ m_64) (fun _ h9 => h9) rfl d_Cs_result_9 ?_
  refine lv_iload_n hx hb d_Cs_result_12 rfl (lv_at hl 1 rfl) ?_
  by_cases hc1 : (x1 < 0 ∨ 4 ≤ x1.toNatClampNeg)
  · exact no_s (it_t h hc1)
  have h := it_f h hc1
  refine va_iald hx hb hK hI.1 3 0 rfl rfl hc1 d_Cs_result_13 ?_
  refine lv_goto (tgt := 18) hx hb d_Cs_result_14 (by decide) ?_
  exact t_Cs_result_18 X (lv_sub hl [] rfl) hI hS h
set_option maxRecDepth 100000 in
set_option maxHeartbeats 4000000 in
theorem t_Cs_result_0 {p : Program} {l : Launch} {e : Env} {s : State} {m : MethodId} {args : Array Value} {below : List Frame} {meth : Method} {c : Code} {D : va_G} {A : Nat → Prop} {g : Nat → ClassId} {rest : va_W} {a0 : Nat → Nat} {ls : Array Slot} {H : Heap} {locs : List Loc} {s0 : S_Cs} {x1 : Int32} {out : Int32} (X : Cx p s m args meth c prog_3_method_5_code 2 ws_Cs_result R_Cs (some .int) D g) (hl : lv_has ls 2 [(0, .ref (a0 0)), (1, .int x1)]) (hI : Iw D A (w_Cs g a0 s0 ++ (rest)) H) (hS : va_S A s.heap H locs) (h : B_Cs_result_0  s0 x1 = some out) : W p l e (headSpec ws_Cs_result { frames := 1, cells := 0, slots := 0, locals := 21 }).room s m args below meth c H locs 0 0 (MQ below (QcI D A g out (fun (_ : Unit) => w_Cs g a0 s0 ++ (rest))) args s 0 0 A) (F0 m 0 ls []) := by
  have X1 := X
  obtain ⟨hx, hb, hml, hown, hts, hr, hlocks, hKK⟩ := X1
  have ht : ∀ w ∈ TB, w.before args s = true := fun w h => hts w (List.mem_cons_of_mem _ h)
  have hK := hKK.1
  unfold B_Cs_result_0 at h
  refine lv_aload_n hx hb d_Cs_result_0 rfl (lv_at hl 0 rfl) ?_
  refine lv_iload_n hx hb d_Cs_result_1 rfl (lv_at hl 1 rfl) ?_
  obtain ⟨o1, ho2, h⟩ := bd_s h
  refine cl_i (W1 := fun (_ : Unit) => w_Cs g a0 s0 ++ (rest)) (va_runV (As := [.int x1]) (rest := []) ⟨hx, hb, hml, hown, ht⟩ (c_Cs_has (l := l) (D := D) (A := A) (g := g) (rest := rest) (a0 := a0) ho2) (cwV 1 ht (gd_V m_371 m_373 mp_10 m_4 m_374) rfl rfl rfl (by decide +kernel) ⟨(Nat.le_of_ble_eq_true rfl), (Nat.le_of_ble_eq_true rfl)⟩) (prV (ci := 1) (q0 := 0) hKK hI (List.Perm.refl _) rfl rfl rfl) rfl rfl hl.1 rfl (lv_room (Nat.le_of_ble_eq_true rfl)) d_Cs_result_2 ⟨(Nat.le_of_ble_eq_true rfl), (Nat.le_of_ble_eq_true rfl)⟩) hS (fun _ => ((List.Perm.refl _)).symm) (fun _ H locs hI hS => ?_)
  have hI : Iw D A (w_Cs g a0 s0 ++ (rest)) H := hI
  refine lv_if_eq (tgt := 17) hx hb d_Cs_result_5 (by decide) (fun hc => ?_) (fun hc => ?_)
  · have h := it_t h hc
    exact t_Cs_result_17 X (lv_sub hl [] rfl) hI hS h
  · have h := it_f h hc
    exact t_Cs_result_8 X (lv_sub hl [0, 1] rfl) hI hS h
set_option maxRecDepth 100000 in
set_option maxHeartbeats 4000000 in
theorem c_Cs_result {l : Launch} {D : va_G} {A : Nat → Prop} {g : Nat → ClassId} {rest : va_W} {a0 : Nat → Nat} {s0 : S_Cs} {x1 : Int32} {out : Int32} (h : F_Cs_result s0 x1 = some out) : Met l y_Cs_result ws_Cs_result { frames := 1, cells := 0, slots := 0, locals := 21 } (PcW D A g [.ref (a0 0), .int x1] (w_Cs g a0 s0 ++ (rest))) (QcI D A g out (fun (_ : Unit) => w_Cs g a0 s0 ++ (rest))) 0 0 A := by
  refine Met.ofW (cc := prog_3_method_5_code) (maxL := 2) (ret := (some .int)) (by decide) rfl ?_
  intro p e s m args below meth c s₁ B hml hv
  obtain ⟨rfl, hI, hK⟩ := hv
  have hl := lv_entry [.ref (a0 0), .int x1] (n := 2) (Nat.le_of_ble_eq_true rfl)
  rw [lg_entry_eq]
  generalize (lg_sl [.ref (a0 0), .int x1] ++ List.replicate (2 - (lg_sl [.ref (a0 0), .int x1]).length) Slot.unset).toArray = ls at hl ⊢
  have hl : lv_has ls 2 [(0, .ref (a0 0)), (1, .int x1)] := hl
  exact t_Cs_result_0 ⟨B.exec, B.bytes, hml, findClass_of_methodNamed B.named, atoms_spec (ws := ws_Cs_result) B.pre, B.returns, B.notSynchronized, hK⟩ (lv_sub hl [0, 1] rfl) hI va_S.rf h
def ws_Cs_isUsable : List Cond := .code y_Cs_isUsable prog_3_method_8_code 2 (some .boolean) :: TB
def B_Cs_isUsable_23 (s0 : S_Cs) (y0 : Int32) : Option Int32 :=
  (if y0 = 0 ∨ y0 = 1 then some y0 else none)
def B_Cs_isUsable_22 (s0 : S_Cs) : Option Int32 :=
  (B_Cs_isUsable_23 s0 (0 : Int32))
def B_Cs_isUsable_18 (s0 : S_Cs) : Option Int32 :=
  (B_Cs_isUsable_23 s0 (1 : Int32))
def B_Cs_isUsable_8 (s0 : S_Cs) (x1 : Int32) : Option Int32 :=
  (if (x1 < 0 ∨ 4 ≤ x1.toNatClampNeg) then none else (if (1 : Int32) < ((Cs_results s0) x1.toNatClampNeg) then (B_Cs_isUsable_22 s0) else (B_Cs_isUsable_18 s0)))
def B_Cs_isUsable_0 (s0 : S_Cs) (x1 : Int32) : Option Int32 :=
  ((F_Cs_has s0 x1).bind fun o1 => (if o1 = 0 then (B_Cs_isUsable_22 s0) else (B_Cs_isUsable_8 s0 x1)))
def F_Cs_isUsable (s0 : S_Cs) (x1 : Int32) : Option Int32 := B_Cs_isUsable_0 s0 x1
set_option maxRecDepth 100000 in
set_option maxHeartbeats 4000000 in
theorem t_Cs_isUsable_23 {p : Program} {l : Launch} {e : Env} {s : State} {m : MethodId} {args : Array Value} {below : List Frame} {meth : Method} {c : Code} {D : va_G} {A : Nat → Prop} {g : Nat → ClassId} {rest : va_W} {a0 : Nat → Nat} {ls : Array Slot} {H : Heap} {locs : List Loc} {s0 : S_Cs} {y0 : Int32} {out : Int32} (X : Cx p s m args meth c prog_3_method_8_code 2 ws_Cs_isUsable R_Cs (some .boolean) D g) (hl : lv_has ls 2 []) (hI : Iw D A (w_Cs g a0 s0 ++ (rest)) H) (hS : va_S A s.heap H locs) (h : B_Cs_isUsable_23  s0 y0 = some out) : W p l e (headSpec ws_Cs_isUsable { frames := 1, cells := 0, slots := 0, locals := 21 }).room s m args below meth c H locs 0 0 (MQ below (QcI D A g out (fun (_ : Unit) => w_Cs g a0 s0 ++ (rest))) args s 0 0 A) (F0 m 23 ls [.int y0]) := by
  have X1 := X
  obtain ⟨hx, hb, hml, hown, hts, hr, hlocks, hKK⟩ := X1
  have ht : ∀ w ∈ TB, w.before args s = true := fun w h => hts w (List.mem_cons_of_mem _ h)
  have hK := hKK.1
  unfold B_Cs_isUsable_23 at h
  have hc1 : y0 = 0 ∨ y0 = 1 := by
    by_cases z : y0 = 0 ∨ y0 = 1
    · exact z
    · exact no_s (it_f h z)
  have h := it_t h hc1
  have h9 := Option.some.inj h
  subst h9
  exact W.zret (v := y0) hx hb hr (by rcases hc1 with z | z <;> rw [z] <;> rfl) (fun t ht hW => ⟨⟨_, (), rfl, rfl, ⟨by rw [ht]; exact hI, hKK.moved hW⟩⟩, hS.F ht⟩) hS.2.2 d_Cs_isUsable_23
set_option maxRecDepth 100000 in
set_option maxHeartbeats 4000000 in
theorem t_Cs_isUsable_22 {p : Program} {l : Launch} {e : Env} {s : State} {m : MethodId} {args : Array Value} {below : List Frame} {meth : Method} {c : Code} {D : va_G} {A : Nat → Prop} {g : Nat → ClassId} {rest : va_W} {a0 : Nat → Nat} {ls : Array Slot} {H : Heap} {locs : List Loc} {s0 : S_Cs} {out : Int32} (X : Cx p s m args meth c prog_3_method_8_code 2 ws_Cs_isUsable R_Cs (some .boolean) D g) (hl : lv_has ls 2 []) (hI : Iw D A (w_Cs g a0 s0 ++ (rest)) H) (hS : va_S A s.heap H locs) (h : B_Cs_isUsable_22  s0 = some out) : W p l e (headSpec ws_Cs_isUsable { frames := 1, cells := 0, slots := 0, locals := 21 }).room s m args below meth c H locs 0 0 (MQ below (QcI D A g out (fun (_ : Unit) => w_Cs g a0 s0 ++ (rest))) args s 0 0 A) (F0 m 22 ls []) := by
  have X1 := X
  obtain ⟨hx, hb, hml, hown, hts, hr, hlocks, hKK⟩ := X1
  have ht : ∀ w ∈ TB, w.before args s = true := fun w h => hts w (List.mem_cons_of_mem _ h)
  have hK := hKK.1
  unfold B_Cs_isUsable_22 at h
  refine lv_iconst (v := 0) hx hb d_Cs_isUsable_22 (by decide) ?_
  exact t_Cs_isUsable_23 X (lv_sub hl [] rfl) hI hS h
set_option maxRecDepth 100000 in
set_option maxHeartbeats 4000000 in
theorem t_Cs_isUsable_18 {p : Program} {l : Launch} {e : Env} {s : State} {m : MethodId} {args : Array Value} {below : List Frame} {meth : Method} {c : Code} {D : va_G} {A : Nat → Prop} {g : Nat → ClassId} {rest : va_W} {a0 : Nat → Nat} {ls : Array Slot} {H : Heap} {locs : List Loc} {s0 : S_Cs} {out : Int32} (X : Cx p s m args meth c prog_3_method_8_code 2 ws_Cs_isUsable R_Cs (some .boolean) D g) (hl : lv_has ls 2 []) (hI : Iw D A (w_Cs g a0 s0 ++ (rest)) H) (hS : va_S A s.heap H locs) (h : B_Cs_isUsable_18  s0 = some out) : W p l e (headSpec ws_Cs_isUsable { frames := 1, cells := 0, slots := 0, locals := 21 }).room s m args below meth c H locs 0 0 (MQ below (QcI D A g out (fun (_ : Unit) => w_Cs g a0 s0 ++ (rest))) args s 0 0 A) (F0 m 18 ls []) := by
  have X1 := X
  obtain ⟨hx, hb, hml, hown, hts, hr, hlocks, hKK⟩ := X1
  have ht : ∀ w ∈ TB, w.before args s = true := fun w h => hts w (List.mem_cons_of_mem _ h)
  have hK := hKK.1
  unfold B_Cs_isUsable_18 at h
  refine lv_iconst (v := 1) hx hb d_Cs_isUsable_18 (by decide) ?_
  refine lv_goto (tgt := 23) hx hb d_Cs_isUsable_19 (by decide) ?_
  exact t_Cs_isUsable_23 X (lv_sub hl [] rfl) hI hS h
set_option maxRecDepth 100000 in
set_option maxHeartbeats 4000000 in
theorem t_Cs_isUsable_8 {p : Program} {l : Launch} {e : Env} {s : State} {m : MethodId} {args : Array Value} {below : List Frame} {meth : Method} {c : Code} {D : va_G} {A : Nat → Prop} {g : Nat → ClassId} {rest : va_W} {a0 : Nat → Nat} {ls : Array Slot} {H : Heap} {locs : List Loc} {s0 : S_Cs} {x1 : Int32} {out : Int32} (X : Cx p s m args meth c prog_3_method_8_code 2 ws_Cs_isUsable R_Cs (some .boolean) D g) (hl : lv_has ls 2 [(0, .ref (a0 0)), (1, .int x1)]) (hI : Iw D A (w_Cs g a0 s0 ++ (rest)) H) (hS : va_S A s.heap H locs) (h : B_Cs_isUsable_8  s0 x1 = some out) : W p l e (headSpec ws_Cs_isUsable { frames := 1, cells := 0, slots := 0, locals := 21 }).room s m args below meth c H locs 0 0 (MQ below (QcI D A g out (fun (_ : Unit) => w_Cs g a0 s0 ++ (rest))) args s 0 0 A) (F0 m 8 ls []) := by
  have X1 := X
  obtain ⟨hx, hb, hml, hown, hts, hr, hlocks, hKK⟩ := X1
  have ht : ∀ w ∈ TB, w.before args s = true := fun w h => hts w (List.mem_cons_of_mem _ h)
  have hK := hKK.1
  unfold B_Cs_isUsable_8 at h
  refine lv_aload_n hx hb d_Cs_isUsable_8 rfl (lv_at hl 0 rfl) ?_
  refine va_get (D := D) (ci := 1) (v := .ref (a0 3)) (C := R_Cs) (T := T_Cs) (N := 4) hx hb ht in_Cs hown hK hI.1 0 rfl rfl 2 (by decide) (ht _ m_64) (fun _ h9 => h9) rfl d_Cs_isUsable_9 ?_
  refine lv_iload_n hx hb d_Cs_isUsable_12 rfl (lv_at hl 1 rfl) ?_
  by_cases hc1 : (x1 < 0 ∨ 4 ≤ x1.toNatClampNeg)
  · exact no_s (it_t h hc1)
  have h := it_f h hc1
  refine va_iald hx hb hK hI.1 3 0 rfl rfl hc1 d_Cs_isUsable_13 ?_
  refine lv_iconst (v := 1) hx hb d_Cs_isUsable_14 (by decide) ?_
  refine lv_icmp_gt (tgt := 22) hx hb d_Cs_isUsable_15 (by decide) (fun hc => ?_) (fun hc => ?_)
  · have h := it_t h hc
    exact t_Cs_isUsable_22 X (lv_sub hl [] rfl) hI hS h
  · have h := it_f h hc
    exact t_Cs_isUsable_18 X (lv_sub hl [] rfl) hI hS h
set_option maxRecDepth 100000 in
set_option maxHeartbeats 4000000 in
theorem t_Cs_isUsable_0 {p : Program} {l : Launch} {e : Env} {s : State} {m : MethodId} {args : Array Value} {below : List Frame} {meth : Method} {c : Code} {D : va_G} {A : Nat → Prop} {g : Nat → ClassId} {rest : va_W} {a0 : Nat → Nat} {ls : Array Slot} {H : Heap} {locs : List Loc} {s0 : S_Cs} {x1 : Int32} {out : Int32} (X : Cx p s m args meth c prog_3_method_8_code 2 ws_Cs_isUsable R_Cs (some .boolean) D g) (hl : lv_has ls 2 [(0, .ref (a0 0)), (1, .int x1)]) (hI : Iw D A (w_Cs g a0 s0 ++ (rest)) H) (hS : va_S A s.heap H locs) (h : B_Cs_isUsable_0  s0 x1 = some out) : W p l e (headSpec ws_Cs_isUsable { frames := 1, cells := 0, slots := 0, locals := 21 }).room s m args below meth c H locs 0 0 (MQ below (QcI D A g out (fun (_ : Unit) => w_Cs g a0 s0 ++ (rest))) args s 0 0 A) (F0 m 0 ls []) := by
  have X1 := X
  obtain ⟨hx, hb, hml, hown, hts, hr, hlocks, hKK⟩ := X1
  have ht : ∀ w ∈ TB, w.before args s = true := fun w h => hts w (List.mem_cons_of_mem _ h)
  have hK := hKK.1
  unfold B_Cs_isUsable_0 at h
  refine lv_aload_n hx hb d_Cs_isUsable_0 rfl (lv_at hl 0 rfl) ?_
  refine lv_iload_n hx hb d_Cs_isUsable_1 rfl (lv_at hl 1 rfl) ?_
  obtain ⟨o1, ho2, h⟩ := bd_s h
  refine cl_i (W1 := fun (_ : Unit) => w_Cs g a0 s0 ++ (rest)) (va_runV (As := [.int x1]) (rest := []) ⟨hx, hb, hml, hown, ht⟩ (c_Cs_has (l := l) (D := D) (A := A) (g := g) (rest := rest) (a0 := a0) ho2) (cwV 1 ht (gd_V m_371 m_373 mp_10 m_4 m_374) rfl rfl rfl (by decide +kernel) ⟨(Nat.le_of_ble_eq_true rfl), (Nat.le_of_ble_eq_true rfl)⟩) (prV (ci := 1) (q0 := 0) hKK hI (List.Perm.refl _) rfl rfl rfl) rfl rfl hl.1 rfl (lv_room (Nat.le_of_ble_eq_true rfl)) d_Cs_isUsable_2 ⟨(Nat.le_of_ble_eq_true rfl), (Nat.le_of_ble_eq_true rfl)⟩) hS (fun _ => ((List.Perm.refl _)).symm) (fun _ H locs hI hS => ?_)
  have hI : Iw D A (w_Cs g a0 s0 ++ (rest)) H := hI
  refine lv_if_eq (tgt := 22) hx hb d_Cs_isUsable_5 (by decide) (fun hc => ?_) (fun hc => ?_)
  · have h := it_t h hc
    exact t_Cs_isUsable_22 X (lv_sub hl [] rfl) hI hS h
  · have h := it_f h hc
    exact t_Cs_isUsable_8 X (lv_sub hl [0, 1] rfl) hI hS h
set_option maxRecDepth 100000 in
set_option maxHeartbeats 4000000 in
theorem c_Cs_isUsable {l : Launch} {D : va_G} {A : Nat → Prop} {g : Nat → ClassId} {rest : va_W} {a0 : Nat → Nat} {s0 : S_Cs} {x1 : Int32} {out : Int32} (h : F_Cs_isUsable s0 x1 = some out) : Met l y_Cs_isUsable ws_Cs_isUsable { frames := 1, cells := 0, slots := 0, locals := 21 } (PcW D A g [.ref (a0 0), .int x1] (w_Cs g a0 s0 ++ (rest))) (QcI D A g out (fun (_ : Unit) => w_Cs g a0 s0 ++ (rest))) 0 0 A := by
  refine Met.ofW (cc := prog_3_method_8_code) (maxL := 2) (ret := (some .boolean)) (by decide) rfl ?_
  intro p e s m args below meth c s₁ B hml hv
  obtain ⟨rfl, hI, hK⟩ := hv
  have hl := lv_entry [.ref (a0 0), .int x1] (n := 2) (Nat.le_of_ble_eq_true rfl)
  rw [lg_entry_eq]
  generalize (lg_sl [.ref (a0 0), .int x1] ++ List.replicate (2 - (lg_sl [.ref (a0 0), .int x1]).length) Slot.unset).toArray = ls at hl ⊢
  have hl : lv_has ls 2 [(0, .ref (a0 0)), (1, .int x1)] := hl
  exact t_Cs_isUsable_0 ⟨B.exec, B.bytes, hml, findClass_of_methodNamed B.named, atoms_spec (ws := ws_Cs_isUsable) B.pre, B.returns, B.notSynchronized, hK⟩ (lv_sub hl [0, 1] rfl) hI va_S.rf h
def ws_Cs_service : List Cond := .code y_Cs_service prog_3_method_4_code 2 (some .int) :: TB
def B_Cs_service_18 (s0 : S_Cs) (y0 : Int32) : Option Int32 :=
  some y0
def B_Cs_service_17 (s0 : S_Cs) : Option Int32 :=
  (B_Cs_service_18 s0 ((-1) : Int32))
def B_Cs_service_8 (s0 : S_Cs) (x1 : Int32) : Option Int32 :=
  (if (x1 < 0 ∨ 4 ≤ x1.toNatClampNeg) then none else (B_Cs_service_18 s0 ((Cs_services s0) x1.toNatClampNeg)))
def B_Cs_service_0 (s0 : S_Cs) (x1 : Int32) : Option Int32 :=
  ((F_Cs_has s0 x1).bind fun o1 => (if o1 = 0 then (B_Cs_service_17 s0) else (B_Cs_service_8 s0 x1)))
def F_Cs_service (s0 : S_Cs) (x1 : Int32) : Option Int32 := B_Cs_service_0 s0 x1
set_option maxRecDepth 100000 in
set_option maxHeartbeats 4000000 in
theorem t_Cs_service_18 {p : Program} {l : Launch} {e : Env} {s : State} {m : MethodId} {args : Array Value} {below : List Frame} {meth : Method} {c : Code} {D : va_G} {A : Nat → Prop} {g : Nat → ClassId} {rest : va_W} {a0 : Nat → Nat} {ls : Array Slot} {H : Heap} {locs : List Loc} {s0 : S_Cs} {y0 : Int32} {out : Int32} (X : Cx p s m args meth c prog_3_method_4_code 2 ws_Cs_service R_Cs (some .int) D g) (hl : lv_has ls 2 []) (hI : Iw D A (w_Cs g a0 s0 ++ (rest)) H) (hS : va_S A s.heap H locs) (h : B_Cs_service_18  s0 y0 = some out) : W p l e (headSpec ws_Cs_service { frames := 1, cells := 0, slots := 0, locals := 21 }).room s m args below meth c H locs 0 0 (MQ below (QcI D A g out (fun (_ : Unit) => w_Cs g a0 s0 ++ (rest))) args s 0 0 A) (F0 m 18 ls [.int y0]) := by
  have X1 := X
  obtain ⟨hx, hb, hml, hown, hts, hr, hlocks, hKK⟩ := X1
  have ht : ∀ w ∈ TB, w.before args s = true := fun w h => hts w (List.mem_cons_of_mem _ h)
  have hK := hKK.1
  unfold B_Cs_service_18 at h
  have h9 := Option.some.inj h
  subst h9
  exact W.iret (v := y0) hx hb hr (fun t ht hW => ⟨⟨_, (), rfl, rfl, ⟨by rw [ht]; exact hI, hKK.moved hW⟩⟩, hS.F ht⟩) hS.2.2 d_Cs_service_18
set_option maxRecDepth 100000 in
set_option maxHeartbeats 4000000 in
theorem t_Cs_service_17 {p : Program} {l : Launch} {e : Env} {s : State} {m : MethodId} {args : Array Value} {below : List Frame} {meth : Method} {c : Code} {D : va_G} {A : Nat → Prop} {g : Nat → ClassId} {rest : va_W} {a0 : Nat → Nat} {ls : Array Slot} {H : Heap} {locs : List Loc} {s0 : S_Cs} {out : Int32} (X : Cx p s m args meth c prog_3_method_4_code 2 ws_Cs_service R_Cs (some .int) D g) (hl : lv_has ls 2 []) (hI : Iw D A (w_Cs g a0 s0 ++ (rest)) H) (hS : va_S A s.heap H locs) (h : B_Cs_service_17  s0 = some out) : W p l e (headSpec ws_Cs_service { frames := 1, cells := 0, slots := 0, locals := 21 }).room s m args below meth c H locs 0 0 (MQ below (QcI D A g out (fun (_ : Unit) => w_Cs g a0 s0 ++ (rest))) args s 0 0 A) (F0 m 17 ls []) := by
  have X1 := X
  obtain ⟨hx, hb, hml, hown, hts, hr, hlocks, hKK⟩ := X1
  have ht : ∀ w ∈ TB, w.before args s = true := fun w h => hts w (List.mem_cons_of_mem _ h)
  have hK := hKK.1
  unfold B_Cs_service_17 at h
  refine lv_iconst (v := (-1)) hx hb d_Cs_service_17 (by decide) ?_
  exact t_Cs_service_18 X (lv_sub hl [] rfl) hI hS h
set_option maxRecDepth 100000 in
set_option maxHeartbeats 4000000 in
theorem t_Cs_service_8 {p : Program} {l : Launch} {e : Env} {s : State} {m : MethodId} {args : Array Value} {below : List Frame} {meth : Method} {c : Code} {D : va_G} {A : Nat → Prop} {g : Nat → ClassId} {rest : va_W} {a0 : Nat → Nat} {ls : Array Slot} {H : Heap} {locs : List Loc} {s0 : S_Cs} {x1 : Int32} {out : Int32} (X : Cx p s m args meth c prog_3_method_4_code 2 ws_Cs_service R_Cs (some .int) D g) (hl : lv_has ls 2 [(0, .ref (a0 0)), (1, .int x1)]) (hI : Iw D A (w_Cs g a0 s0 ++ (rest)) H) (hS : va_S A s.heap H locs) (h : B_Cs_service_8  s0 x1 = some out) : W p l e (headSpec ws_Cs_service { frames := 1, cells := 0, slots := 0, locals := 21 }).room s m args below meth c H locs 0 0 (MQ below (QcI D A g out (fun (_ : Unit) => w_Cs g a0 s0 ++ (rest))) args s 0 0 A) (F0 m 8 ls []) := by
  have X1 := X
  obtain ⟨hx, hb, hml, hown, hts, hr, hlocks, hKK⟩ := X1
  have ht : ∀ w ∈ TB, w.before args s = true := fun w h => hts w (List.mem_cons_of_mem _ h)
  have hK := hKK.1
  unfold B_Cs_service_8 at h
  refine lv_aload_n hx hb d_Cs_service_8 rfl (lv_at hl 0 rfl) ?_
  refine va_get (D := D) (ci := 1) (v := .ref (a0 2)) (C := R_Cs) (T := T_Cs) (N := 4) hx hb ht in_Cs hown hK hI.1 0 rfl rfl 1 (by decide) (ht _ m_63) (fun _ h9 => h9) rfl d_Cs_service_9 ?_
  refine lv_iload_n hx hb d_Cs_service_12 rfl (lv_at hl 1 rfl) ?_
  by_cases hc1 : (x1 < 0 ∨ 4 ≤ x1.toNatClampNeg)
  · exact no_s (it_t h hc1)
  have h := it_f h hc1
  refine va_iald hx hb hK hI.1 2 0 rfl rfl hc1 d_Cs_service_13 ?_
  refine lv_goto (tgt := 18) hx hb d_Cs_service_14 (by decide) ?_
  exact t_Cs_service_18 X (lv_sub hl [] rfl) hI hS h
set_option maxRecDepth 100000 in
set_option maxHeartbeats 4000000 in
theorem t_Cs_service_0 {p : Program} {l : Launch} {e : Env} {s : State} {m : MethodId} {args : Array Value} {below : List Frame} {meth : Method} {c : Code} {D : va_G} {A : Nat → Prop} {g : Nat → ClassId} {rest : va_W} {a0 : Nat → Nat} {ls : Array Slot} {H : Heap} {locs : List Loc} {s0 : S_Cs} {x1 : Int32} {out : Int32} (X : Cx p s m args meth c prog_3_method_4_code 2 ws_Cs_service R_Cs (some .int) D g) (hl : lv_has ls 2 [(0, .ref (a0 0)), (1, .int x1)]) (hI : Iw D A (w_Cs g a0 s0 ++ (rest)) H) (hS : va_S A s.heap H locs) (h : B_Cs_service_0  s0 x1 = some out) : W p l e (headSpec ws_Cs_service { frames := 1, cells := 0, slots := 0, locals := 21 }).room s m args below meth c H locs 0 0 (MQ below (QcI D A g out (fun (_ : Unit) => w_Cs g a0 s0 ++ (rest))) args s 0 0 A) (F0 m 0 ls []) := by
  have X1 := X
  obtain ⟨hx, hb, hml, hown, hts, hr, hlocks, hKK⟩ := X1
  have ht : ∀ w ∈ TB, w.before args s = true := fun w h => hts w (List.mem_cons_of_mem _ h)
  have hK := hKK.1
  unfold B_Cs_service_0 at h
  refine lv_aload_n hx hb d_Cs_service_0 rfl (lv_at hl 0 rfl) ?_
  refine lv_iload_n hx hb d_Cs_service_1 rfl (lv_at hl 1 rfl) ?_
  obtain ⟨o1, ho2, h⟩ := bd_s h
  refine cl_i (W1 := fun (_ : Unit) => w_Cs g a0 s0 ++ (rest)) (va_runV (As := [.int x1]) (rest := []) ⟨hx, hb, hml, hown, ht⟩ (c_Cs_has (l := l) (D := D) (A := A) (g := g) (rest := rest) (a0 := a0) ho2) (cwV 1 ht (gd_V m_371 m_373 mp_10 m_4 m_374) rfl rfl rfl (by decide +kernel) ⟨(Nat.le_of_ble_eq_true rfl), (Nat.le_of_ble_eq_true rfl)⟩) (prV (ci := 1) (q0 := 0) hKK hI (List.Perm.refl _) rfl rfl rfl) rfl rfl hl.1 rfl (lv_room (Nat.le_of_ble_eq_true rfl)) d_Cs_service_2 ⟨(Nat.le_of_ble_eq_true rfl), (Nat.le_of_ble_eq_true rfl)⟩) hS (fun _ => ((List.Perm.refl _)).symm) (fun _ H locs hI hS => ?_)
  have hI : Iw D A (w_Cs g a0 s0 ++ (rest)) H := hI
  refine lv_if_eq (tgt := 17) hx hb d_Cs_service_5 (by decide) (fun hc => ?_) (fun hc => ?_)
  · have h := it_t h hc
    exact t_Cs_service_17 X (lv_sub hl [] rfl) hI hS h
  · have h := it_f h hc
    exact t_Cs_service_8 X (lv_sub hl [0, 1] rfl) hI hS h
set_option maxRecDepth 100000 in
set_option maxHeartbeats 4000000 in
theorem c_Cs_service {l : Launch} {D : va_G} {A : Nat → Prop} {g : Nat → ClassId} {rest : va_W} {a0 : Nat → Nat} {s0 : S_Cs} {x1 : Int32} {out : Int32} (h : F_Cs_service s0 x1 = some out) : Met l y_Cs_service ws_Cs_service { frames := 1, cells := 0, slots := 0, locals := 21 } (PcW D A g [.ref (a0 0), .int x1] (w_Cs g a0 s0 ++ (rest))) (QcI D A g out (fun (_ : Unit) => w_Cs g a0 s0 ++ (rest))) 0 0 A := by
  refine Met.ofW (cc := prog_3_method_4_code) (maxL := 2) (ret := (some .int)) (by decide) rfl ?_
  intro p e s m args below meth c s₁ B hml hv
  obtain ⟨rfl, hI, hK⟩ := hv
  have hl := lv_entry [.ref (a0 0), .int x1] (n := 2) (Nat.le_of_ble_eq_true rfl)
  rw [lg_entry_eq]
  generalize (lg_sl [.ref (a0 0), .int x1] ++ List.replicate (2 - (lg_sl [.ref (a0 0), .int x1]).length) Slot.unset).toArray = ls at hl ⊢
  have hl : lv_has ls 2 [(0, .ref (a0 0)), (1, .int x1)] := hl
  exact t_Cs_service_0 ⟨B.exec, B.bytes, hml, findClass_of_methodNamed B.named, atoms_spec (ws := ws_Cs_service) B.pre, B.returns, B.notSynchronized, hK⟩ (lv_sub hl [0, 1] rfl) hI va_S.rf h
def ws_Rs_count : List Cond := .code y_Rs_count prog_8_method_2_code 1 (some .int) :: TB
def B_Rs_count_0 (s0 : S_Rs) : Option Int32 :=
  some (Rs_count s0)
def F_Rs_count (s0 : S_Rs) : Option Int32 := B_Rs_count_0 s0
set_option maxRecDepth 100000 in
set_option maxHeartbeats 4000000 in
theorem t_Rs_count_0 {p : Program} {l : Launch} {e : Env} {s : State} {m : MethodId} {args : Array Value} {below : List Frame} {meth : Method} {c : Code} {D : va_G} {A : Nat → Prop} {g : Nat → ClassId} {rest : va_W} {a0 : Nat → Nat} {N : Nat → Nat → Nat} {B : Nat → Nat → Nat} {ls : Array Slot} {H : Heap} {locs : List Loc} {s0 : S_Rs} {out : Int32} (X : Cx p s m args meth c prog_8_method_2_code 1 ws_Rs_count R_Rs (some .int) D g) (hl : lv_has ls 1 [(0, .ref (a0 0))]) (hI : Iw D A (w_Rs g a0 N B s0 ++ (rest)) H) (hS : va_S A s.heap H locs) (h : B_Rs_count_0  s0 = some out) : W p l e (headSpec ws_Rs_count { frames := 0, cells := 0, slots := 0, locals := 0 }).room s m args below meth c H locs 0 0 (MQ below (QcI D A g out (fun (_ : Unit) => w_Rs g a0 N B s0 ++ (rest))) args s 0 0 A) (F0 m 0 ls []) := by
  have X1 := X
  obtain ⟨hx, hb, hml, hown, hts, hr, hlocks, hKK⟩ := X1
  have ht : ∀ w ∈ TB, w.before args s = true := fun w h => hts w (List.mem_cons_of_mem _ h)
  have hK := hKK.1
  unfold B_Rs_count_0 at h
  refine lv_aload_n hx hb d_Rs_count_0 rfl (lv_at hl 0 rfl) ?_
  refine va_get (D := D) (ci := 6) (v := .int (Rs_count s0)) (C := R_Rs) (T := T_Rs) (N := 3) hx hb ht in_Rs hown hK hI.1 0 rfl rfl 2 (by decide) (ht _ m_114) (fun _ h9 => h9) rfl d_Rs_count_1 ?_
  have h9 := Option.some.inj h
  subst h9
  exact W.iret (v := (Rs_count s0)) hx hb hr (fun t ht hW => ⟨⟨_, (), rfl, rfl, ⟨by rw [ht]; exact hI, hKK.moved hW⟩⟩, hS.F ht⟩) hS.2.2 d_Rs_count_4
set_option maxRecDepth 100000 in
set_option maxHeartbeats 4000000 in
theorem c_Rs_count {l : Launch} {D : va_G} {A : Nat → Prop} {g : Nat → ClassId} {rest : va_W} {a0 : Nat → Nat} {N : Nat → Nat → Nat} {B : Nat → Nat → Nat} {s0 : S_Rs} {out : Int32} (h : F_Rs_count s0 = some out) : Met l y_Rs_count ws_Rs_count { frames := 0, cells := 0, slots := 0, locals := 0 } (PcW D A g [.ref (a0 0)] (w_Rs g a0 N B s0 ++ (rest))) (QcI D A g out (fun (_ : Unit) => w_Rs g a0 N B s0 ++ (rest))) 0 0 A := by
  refine Met.ofW (cc := prog_8_method_2_code) (maxL := 1) (ret := (some .int)) (by decide) rfl ?_
  intro p e s m args below meth c s₁ B hml hv
  obtain ⟨rfl, hI, hK⟩ := hv
  have hl := lv_entry [.ref (a0 0)] (n := 1) (Nat.le_of_ble_eq_true rfl)
  rw [lg_entry_eq]
  generalize (lg_sl [.ref (a0 0)] ++ List.replicate (1 - (lg_sl [.ref (a0 0)]).length) Slot.unset).toArray = ls at hl ⊢
  have hl : lv_has ls 1 [(0, .ref (a0 0))] := hl
  exact t_Rs_count_0 ⟨B.exec, B.bytes, hml, findClass_of_methodNamed B.named, atoms_spec (ws := ws_Rs_count) B.pre, B.returns, B.notSynchronized, hK⟩ (lv_sub hl [0] rfl) hI va_S.rf h
def ws_Rs_bytes : List Cond := .code y_Rs_bytes prog_8_method_3_code 2 (some (.object "RecordNode$Bytes")) :: TB
def B_Rs_bytes_0 (s0 : S_Rs) (x1 : Int32) : Option Unit :=
  (if (x1 < 0 ∨ (Rs_n s0) ≤ x1.toNatClampNeg) then none else some ())
def F_Rs_bytes (s0 : S_Rs) (x1 : Int32) : Option Unit := B_Rs_bytes_0 s0 x1
set_option maxRecDepth 100000 in
set_option maxHeartbeats 4000000 in
theorem t_Rs_bytes_0 {p : Program} {l : Launch} {e : Env} {s : State} {m : MethodId} {args : Array Value} {below : List Frame} {meth : Method} {c : Code} {D : va_G} {A : Nat → Prop} {g : Nat → ClassId} {rest : va_W} {a0 : Nat → Nat} {N : Nat → Nat → Nat} {B : Nat → Nat → Nat} {ls : Array Slot} {H : Heap} {locs : List Loc} {s0 : S_Rs} {x1 : Int32} {out : Unit} (X : Cx p s m args meth c prog_8_method_3_code 2 ws_Rs_bytes R_Rs (some (.object "RecordNode$Bytes")) D g) (hl : lv_has ls 2 [(0, .ref (a0 0)), (1, .int x1)]) (hI : Iw D A (w_Rs g a0 N B s0 ++ (rest)) H) (hS : va_S A s.heap H locs) (h : B_Rs_bytes_0  s0 x1 = some out) : W p l e (headSpec ws_Rs_bytes { frames := 0, cells := 0, slots := 0, locals := 0 }).room s m args below meth c H locs 0 0 (MQ below (QcA D A g (B x1.toNatClampNeg 0) (fun (_ : Unit) => w_Rs g a0 N B s0 ++ (rest))) args s 0 0 A) (F0 m 0 ls []) := by
  have X1 := X
  obtain ⟨hx, hb, hml, hown, hts, hr, hlocks, hKK⟩ := X1
  have ht : ∀ w ∈ TB, w.before args s = true := fun w h => hts w (List.mem_cons_of_mem _ h)
  have hK := hKK.1
  unfold B_Rs_bytes_0 at h
  refine lv_aload_n hx hb d_Rs_bytes_0 rfl (lv_at hl 0 rfl) ?_
  refine va_get (D := D) (ci := 6) (v := .ref (a0 2)) (C := R_Rs) (T := T_Rs) (N := 3) hx hb ht in_Rs hown hK hI.1 0 rfl rfl 1 (by decide) (ht _ m_113) (fun _ h9 => h9) rfl d_Rs_bytes_1 ?_
  refine lv_iload_n hx hb d_Rs_bytes_4 rfl (lv_at hl 1 rfl) ?_
  by_cases hc1 : (x1 < 0 ∨ (Rs_n s0) ≤ x1.toNatClampNeg)
  · exact no_s (it_t h hc1)
  have h := it_f h hc1
  refine va_aldq hx hb hK hI.1 2 2 rfl rfl hc1 d_Rs_bytes_5 ?_
  refine W.eq (g2 := F0 m 6 ls [.ref (B x1.toNatClampNeg 0)]) rfl ?_
  have h9 := Option.some.inj h
  subst h9
  exact W.aret (v := .ref (B x1.toNatClampNeg 0)) hx hb hr (Or.inl ⟨_, rfl⟩) (Or.inr ⟨_, rfl⟩) (fun t ht hW => ⟨⟨(), _, rfl, trivial, rfl, by rw [ht]; exact hI, hKK.moved hW⟩, hS.F ht⟩) hS.2.2 d_Rs_bytes_6
set_option maxRecDepth 100000 in
set_option maxHeartbeats 4000000 in
theorem c_Rs_bytes {l : Launch} {D : va_G} {A : Nat → Prop} {g : Nat → ClassId} {rest : va_W} {a0 : Nat → Nat} {N : Nat → Nat → Nat} {B : Nat → Nat → Nat} {s0 : S_Rs} {x1 : Int32} {out : Unit} (h : F_Rs_bytes s0 x1 = some out) : Met l y_Rs_bytes ws_Rs_bytes { frames := 0, cells := 0, slots := 0, locals := 0 } (PcW D A g [.ref (a0 0), .int x1] (w_Rs g a0 N B s0 ++ (rest))) (QcA D A g (B x1.toNatClampNeg 0) (fun (_ : Unit) => w_Rs g a0 N B s0 ++ (rest))) 0 0 A := by
  refine Met.ofW (cc := prog_8_method_3_code) (maxL := 2) (ret := (some (.object "RecordNode$Bytes"))) (by decide) rfl ?_
  intro p e s m args below meth c s₁ B hml hv
  obtain ⟨rfl, hI, hK⟩ := hv
  have hl := lv_entry [.ref (a0 0), .int x1] (n := 2) (Nat.le_of_ble_eq_true rfl)
  rw [lg_entry_eq]
  generalize (lg_sl [.ref (a0 0), .int x1] ++ List.replicate (2 - (lg_sl [.ref (a0 0), .int x1]).length) Slot.unset).toArray = ls at hl ⊢
  have hl : lv_has ls 2 [(0, .ref (a0 0)), (1, .int x1)] := hl
  exact t_Rs_bytes_0 ⟨B.exec, B.bytes, hml, findClass_of_methodNamed B.named, atoms_spec (ws := ws_Rs_bytes) B.pre, B.returns, B.notSynchronized, hK⟩ (lv_sub hl [0, 1] rfl) hI va_S.rf h
def ws_Rs_keep : List Cond := .code y_Rs_keep prog_8_method_4_code 4 (some .boolean) :: TB
def B_Rs_keep_68 (s1 : S_Bs) (s2 : S_Bs) (s0 : S_Rs) (x3 : Int32) : Option (Int32 × S_Rs) :=
  (if (x3 < 0 ∨ (Rs_n s0) ≤ x3.toNatClampNeg) then none else (if x3.toNatClampNeg < (Rs_n s0) then ((F_Bs_become (Rs_bytes s0 x3.toNatClampNeg) s2).bind fun o3 => some ((1 : Int32), (Rs_putB s0 x3.toNatClampNeg o3))) else none))
def B_Rs_keep_48 (s1 : S_Bs) (s2 : S_Bs) (s0 : S_Rs) (x3 : Int32) : Option (Int32 × S_Rs) :=
  (if (x3 < 0 ∨ (Rs_n s0) ≤ x3.toNatClampNeg) then none else (if x3.toNatClampNeg < (Rs_n s0) then ((F_Bs_become (Rs_names s0 x3.toNatClampNeg) s1).bind fun o3 => (B_Rs_keep_68 s1 s2 (Rs_set_count (Rs_putN s0 x3.toNatClampNeg o3) ((Rs_count (Rs_putN s0 x3.toNatClampNeg o3)) + (1 : Int32))) x3)) else none))
def B_Rs_keep_40 (s1 : S_Bs) (s2 : S_Bs) (s0 : S_Rs) (x3 : Int32) : Option (Int32 × S_Rs) :=
  (if x3 = (Rs_count s0) then (B_Rs_keep_48 s1 s2 s0 x3) else (B_Rs_keep_68 s1 s2 s0 x3))
def B_Rs_keep_38 (s1 : S_Bs) (s2 : S_Bs) (s0 : S_Rs) : Option (Int32 × S_Rs) :=
  some ((0 : Int32), s0)
def B_Rs_keep_29 (s1 : S_Bs) (s2 : S_Bs) (s0 : S_Rs) (x3 : Int32) : Option (Int32 × S_Rs) :=
  (if x3 = (Int32.ofNat (Rs_n s0)) then (B_Rs_keep_38 s1 s2 s0) else (B_Rs_keep_40 s1 s2 s0 x3))
def B_Rs_keep_23 (k2 : S_Rs × Int32 → Option (Int32 × S_Rs)) (s1 : S_Bs) (s2 : S_Bs) (s0 : S_Rs) (x3 : Int32) : Option (Int32 × S_Rs) :=
  (k2 (s0, (x3 + 1)))
def B_Rs_keep_10 (k2 : S_Rs × Int32 → Option (Int32 × S_Rs)) (s1 : S_Bs) (s2 : S_Bs) (s0 : S_Rs) (x3 : Int32) : Option (Int32 × S_Rs) :=
  (if (x3 < 0 ∨ (Rs_n s0) ≤ x3.toNatClampNeg) then none else (if x3.toNatClampNeg < (Rs_n s0) then ((F_Bs_isSame (Rs_names s0 x3.toNatClampNeg) s1).bind fun o3 => (if o3 = 0 then (B_Rs_keep_23 k2 s1 s2 s0 x3) else (B_Rs_keep_29 s1 s2 s0 x3))) else none))
def B_Rs_keep_2 (k2 : S_Rs × Int32 → Option (Int32 × S_Rs)) (s1 : S_Bs) (s2 : S_Bs) (s0 : S_Rs) (x3 : Int32) : Option (Int32 × S_Rs) :=
  (if (Rs_count s0) ≤ x3 then (B_Rs_keep_29 s1 s2 s0 x3) else (B_Rs_keep_10 k2 s1 s2 s0 x3))
def L_Rs_keep_2 (s1 : S_Bs) (s2 : S_Bs) (v : S_Rs × Int32) : Option (Int32 × S_Rs) := lp (fun k2 v => B_Rs_keep_2  k2 s1 s2 v.1 v.2) FU v
def B_Rs_keep_0 (s1 : S_Bs) (s2 : S_Bs) (s0 : S_Rs) : Option (Int32 × S_Rs) :=
  (L_Rs_keep_2 s1 s2 (s0, (0 : Int32)))
def F_Rs_keep (s0 : S_Rs) (s1 : S_Bs) (s2 : S_Bs) : Option (Int32 × S_Rs) := B_Rs_keep_0 s1 s2 s0
set_option maxRecDepth 100000 in
set_option maxHeartbeats 4000000 in
theorem t_Rs_keep_68 {p : Program} {l : Launch} {e : Env} {s : State} {m : MethodId} {args : Array Value} {below : List Frame} {meth : Method} {c : Code} {D : va_G} {A : Nat → Prop} {g : Nat → ClassId} {rest : va_W} {a0 : Nat → Nat} {a1 : Nat → Nat} {a2 : Nat → Nat} {N : Nat → Nat → Nat} {B : Nat → Nat → Nat} {ls : Array Slot} {H : Heap} {locs : List Loc} {s1 : S_Bs} {s2 : S_Bs} {s0 : S_Rs} {x3 : Int32} {out : Int32 × S_Rs} (X : Cx p s m args meth c prog_8_method_4_code 4 ws_Rs_keep R_Rs (some .boolean) D g) (hl : lv_has ls 4 [(0, .ref (a0 0)), (2, .ref (a2 0)), (3, .int x3)]) (hI : Iw D A (w_Rs g a0 N B s0 ++ (w_Bs g a1 s1 ++ (w_Bs g a2 s2 ++ (rest)))) H) (hS : va_S A s.heap H locs) (h : B_Rs_keep_68  s1 s2 s0 x3 = some out) : W p l e (headSpec ws_Rs_keep { frames := 2, cells := 0, slots := 0, locals := 43 }).room s m args below meth c H locs 0 0 (MQ below (QcI D A g out.1 (fun (_ : Unit) => w_Rs g a0 N B out.2 ++ (w_Bs g a1 s1 ++ (w_Bs g a2 s2 ++ (rest))))) args s 0 0 A) (F0 m 68 ls []) := by
  have X1 := X
  obtain ⟨hx, hb, hml, hown, hts, hr, hlocks, hKK⟩ := X1
  have ht : ∀ w ∈ TB, w.before args s = true := fun w h => hts w (List.mem_cons_of_mem _ h)
  have hK := hKK.1
  unfold B_Rs_keep_68 at h
  refine lv_aload_n hx hb d_Rs_keep_68 rfl (lv_at hl 0 rfl) ?_
  refine va_get (D := D) (ci := 6) (v := .ref (a0 2)) (C := R_Rs) (T := T_Rs) (N := 3) hx hb ht in_Rs hown hK hI.1 0 rfl rfl 1 (by decide) (ht _ m_113) (fun _ h9 => h9) rfl d_Rs_keep_69 ?_
  refine lv_iload_n hx hb d_Rs_keep_72 rfl (lv_at hl 2 rfl) ?_
  by_cases hc1 : (x3 < 0 ∨ (Rs_n s0) ≤ x3.toNatClampNeg)
  · exact no_s (it_t h hc1)
  have h := it_f h hc1
  refine va_aldq hx hb hK hI.1 2 2 rfl rfl hc1 d_Rs_keep_73 ?_
  refine W.eq (g2 := F0 m 74 ls [.ref (B x3.toNatClampNeg 0)]) rfl ?_
  refine lv_aload_n hx hb d_Rs_keep_74 rfl (lv_at hl 1 rfl) ?_
  have hc2 : x3.toNatClampNeg < (Rs_n s0) := by
    by_cases z : x3.toNatClampNeg < (Rs_n s0)
    · exact z
    · exact no_s (it_f h z)
  have h := it_t h hc2
  obtain ⟨o3, ho4, h⟩ := bd_s h
  refine cl_v (W1 := fun (_ : Unit) => w_Rs g a0 N B (Rs_putB s0 x3.toNatClampNeg o3) ++ (w_Bs g a1 s1 ++ (w_Bs g a2 s2 ++ (rest)))) (va_runV (As := [.ref (a2 0)]) (rest := []) ⟨hx, hb, hml, hown, ht⟩ (c_Bs_become (l := l) (D := D) (A := A) (g := g) (rest := rem_B g a0 N B s0 x3.toNatClampNeg ++ (w_Bs g a1 s1 ++ (rest))) (a0 := B x3.toNatClampNeg) (a1 := a2) ho4) (cwV 1 ht (gd_V m_601 m_602 m_603 m_2 m_604) rfl rfl rfl (by decide +kernel) ⟨(Nat.le_of_ble_eq_true rfl), (Nat.le_of_ble_eq_true rfl)⟩) (prV (ci := 0) (q0 := 0) hKK hI ((fa (foc_B hc2)).trans ((mv_3).trans (mv_1))) rfl rfl rfl) rfl rfl hl.1 rfl (lv_room (Nat.le_of_ble_eq_true rfl)) d_Rs_keep_75 ⟨(Nat.le_of_ble_eq_true rfl), (Nat.le_of_ble_eq_true rfl)⟩) hS (fun _ => (((fa (fop_B hc2)).trans ((mv_3).trans (mv_1)))).symm) (fun _ H locs hI hS => ?_)
  have hI : Iw D A (w_Rs g a0 N B (Rs_putB s0 x3.toNatClampNeg o3) ++ (w_Bs g a1 s1 ++ (w_Bs g a2 s2 ++ (rest)))) H := hI
  refine lv_iconst (v := 1) hx hb d_Rs_keep_78 (by decide) ?_
  have h9 := Option.some.inj h
  subst h9
  exact W.zret (v := (1 : Int32)) hx hb hr rfl (fun t ht hW => ⟨⟨_, (), rfl, rfl, ⟨by rw [ht]; exact hI, hKK.moved hW⟩⟩, hS.F ht⟩) hS.2.2 d_Rs_keep_79
set_option maxRecDepth 100000 in
set_option maxHeartbeats 4000000 in
theorem t_Rs_keep_48 {p : Program} {l : Launch} {e : Env} {s : State} {m : MethodId} {args : Array Value} {below : List Frame} {meth : Method} {c : Code} {D : va_G} {A : Nat → Prop} {g : Nat → ClassId} {rest : va_W} {a0 : Nat → Nat} {a1 : Nat → Nat} {a2 : Nat → Nat} {N : Nat → Nat → Nat} {B : Nat → Nat → Nat} {ls : Array Slot} {H : Heap} {locs : List Loc} {s1 : S_Bs} {s2 : S_Bs} {s0 : S_Rs} {x3 : Int32} {out : Int32 × S_Rs} (X : Cx p s m args meth c prog_8_method_4_code 4 ws_Rs_keep R_Rs (some .boolean) D g) (hl : lv_has ls 4 [(0, .ref (a0 0)), (1, .ref (a1 0)), (2, .ref (a2 0)), (3, .int x3)]) (hI : Iw D A (w_Rs g a0 N B s0 ++ (w_Bs g a1 s1 ++ (w_Bs g a2 s2 ++ (rest)))) H) (hS : va_S A s.heap H locs) (h : B_Rs_keep_48  s1 s2 s0 x3 = some out) : W p l e (headSpec ws_Rs_keep { frames := 2, cells := 0, slots := 0, locals := 43 }).room s m args below meth c H locs 0 0 (MQ below (QcI D A g out.1 (fun (_ : Unit) => w_Rs g a0 N B out.2 ++ (w_Bs g a1 s1 ++ (w_Bs g a2 s2 ++ (rest))))) args s 0 0 A) (F0 m 48 ls []) := by
  have X1 := X
  obtain ⟨hx, hb, hml, hown, hts, hr, hlocks, hKK⟩ := X1
  have ht : ∀ w ∈ TB, w.before args s = true := fun w h => hts w (List.mem_cons_of_mem _ h)
  have hK := hKK.1
  unfold B_Rs_keep_48 at h
  refine lv_aload_n hx hb d_Rs_keep_48 rfl (lv_at hl 0 rfl) ?_
  refine va_get (D := D) (ci := 6) (v := .ref (a0 1)) (C := R_Rs) (T := T_Rs) (N := 3) hx hb ht in_Rs hown hK hI.1 0 rfl rfl 0 (by decide) (ht _ m_112) (fun _ h9 => h9) rfl d_Rs_keep_49 ?_
  refine lv_iload_n hx hb d_Rs_keep_52 rfl (lv_at hl 3 rfl) ?_
  by_cases hc1 : (x3 < 0 ∨ (Rs_n s0) ≤ x3.toNatClampNeg)
  · exact no_s (it_t h hc1)
  have h := it_f h hc1
  refine va_aldq hx hb hK hI.1 1 2 rfl rfl hc1 d_Rs_keep_53 ?_
  refine W.eq (g2 := F0 m 54 ls [.ref (N x3.toNatClampNeg 0)]) rfl ?_
  refine lv_aload_n hx hb d_Rs_keep_54 rfl (lv_at hl 1 rfl) ?_
  have hc2 : x3.toNatClampNeg < (Rs_n s0) := by
    by_cases z : x3.toNatClampNeg < (Rs_n s0)
    · exact z
    · exact no_s (it_f h z)
  have h := it_t h hc2
  obtain ⟨o3, ho4, h⟩ := bd_s h
  refine cl_v (W1 := fun (_ : Unit) => w_Rs g a0 N B (Rs_putN s0 x3.toNatClampNeg o3) ++ (w_Bs g a1 s1 ++ (w_Bs g a2 s2 ++ (rest)))) (va_runV (As := [.ref (a1 0)]) (rest := []) ⟨hx, hb, hml, hown, ht⟩ (c_Bs_become (l := l) (D := D) (A := A) (g := g) (rest := rem_N g a0 N B s0 x3.toNatClampNeg ++ (w_Bs g a2 s2 ++ (rest))) (a0 := N x3.toNatClampNeg) (a1 := a1) ho4) (cwV 1 ht (gd_V m_601 m_602 m_603 m_2 m_604) rfl rfl rfl (by decide +kernel) ⟨(Nat.le_of_ble_eq_true rfl), (Nat.le_of_ble_eq_true rfl)⟩) (prV (ci := 0) (q0 := 0) hKK hI ((fa (foc_N hc2)).trans ((mv_2).trans (mv_1))) rfl rfl rfl) rfl rfl hl.1 rfl (lv_room (Nat.le_of_ble_eq_true rfl)) d_Rs_keep_55 ⟨(Nat.le_of_ble_eq_true rfl), (Nat.le_of_ble_eq_true rfl)⟩) hS (fun _ => (((fa (fop_N hc2)).trans ((mv_2).trans (mv_1)))).symm) (fun _ H locs hI hS => ?_)
  have hI : Iw D A (w_Rs g a0 N B (Rs_putN s0 x3.toNatClampNeg o3) ++ (w_Bs g a1 s1 ++ (w_Bs g a2 s2 ++ (rest)))) H := hI
  refine lv_aload_n hx hb d_Rs_keep_58 rfl (lv_at hl 0 rfl) ?_
  refine lv_dup hx hb d_Rs_keep_59 rfl ?_
  refine va_get (D := D) (ci := 6) (v := .int (Rs_count (Rs_putN s0 x3.toNatClampNeg o3))) (C := R_Rs) (T := T_Rs) (N := 3) hx hb ht in_Rs hown hK hI.1 0 rfl rfl 2 (by decide) (ht _ m_114) (fun _ h9 => h9) rfl d_Rs_keep_60 ?_
  refine lv_iconst (v := 1) hx hb d_Rs_keep_63 (by decide) ?_
  refine lv_iadd hx hb d_Rs_keep_64 ?_
  refine va_put (D := D) (ci := 6) (v := .int ((Rs_count (Rs_putN s0 x3.toNatClampNeg o3)) + (1 : Int32))) (ty := .int) (C := R_Rs) (T := T_Rs) (N := 3) hx hb ht in_Rs ty_Rs tyok_Rs nm_Rs hown hK hI.1 hI.2 hS 0 rfl rfl 2 (by decide) (ht _ m_114) (fun _ h9 => h9) rfl (by decide +kernel) rfl rfl (Nat.le_of_ble_eq_true rfl) d_Rs_keep_65 (fun H locs hP hD hS => ?_)
  have hI : Iw D A (w_Rs g a0 N B (Rs_set_count (Rs_putN s0 x3.toNatClampNeg o3) ((Rs_count (Rs_putN s0 x3.toNatClampNeg o3)) + (1 : Int32))) ++ (w_Bs g a1 s1 ++ (w_Bs g a2 s2 ++ (rest)))) H := ⟨hP, hD⟩
  exact t_Rs_keep_68 X (lv_sub hl [0, 2, 3] rfl) hI hS h
set_option maxRecDepth 100000 in
set_option maxHeartbeats 4000000 in
theorem t_Rs_keep_40 {p : Program} {l : Launch} {e : Env} {s : State} {m : MethodId} {args : Array Value} {below : List Frame} {meth : Method} {c : Code} {D : va_G} {A : Nat → Prop} {g : Nat → ClassId} {rest : va_W} {a0 : Nat → Nat} {a1 : Nat → Nat} {a2 : Nat → Nat} {N : Nat → Nat → Nat} {B : Nat → Nat → Nat} {ls : Array Slot} {H : Heap} {locs : List Loc} {s1 : S_Bs} {s2 : S_Bs} {s0 : S_Rs} {x3 : Int32} {out : Int32 × S_Rs} (X : Cx p s m args meth c prog_8_method_4_code 4 ws_Rs_keep R_Rs (some .boolean) D g) (hl : lv_has ls 4 [(0, .ref (a0 0)), (1, .ref (a1 0)), (2, .ref (a2 0)), (3, .int x3)]) (hI : Iw D A (w_Rs g a0 N B s0 ++ (w_Bs g a1 s1 ++ (w_Bs g a2 s2 ++ (rest)))) H) (hS : va_S A s.heap H locs) (h : B_Rs_keep_40  s1 s2 s0 x3 = some out) : W p l e (headSpec ws_Rs_keep { frames := 2, cells := 0, slots := 0, locals := 43 }).room s m args below meth c H locs 0 0 (MQ below (QcI D A g out.1 (fun (_ : Unit) => w_Rs g a0 N B out.2 ++ (w_Bs g a1 s1 ++ (w_Bs g a2 s2 ++ (rest))))) args s 0 0 A) (F0 m 40 ls []) := by
  have X1 := X
  obtain ⟨hx, hb, hml, hown, hts, hr, hlocks, hKK⟩ := X1
  have ht : ∀ w ∈ TB, w.before args s = true := fun w h => hts w (List.mem_cons_of_mem _ h)
  have hK := hKK.1
  unfold B_Rs_keep_40 at h
  refine lv_iload_n hx hb d_Rs_keep_40 rfl (lv_at hl 3 rfl) ?_
  refine lv_aload_n hx hb d_Rs_keep_41 rfl (lv_at hl 0 rfl) ?_
  refine va_get (D := D) (ci := 6) (v := .int (Rs_count s0)) (C := R_Rs) (T := T_Rs) (N := 3) hx hb ht in_Rs hown hK hI.1 0 rfl rfl 2 (by decide) (ht _ m_114) (fun _ h9 => h9) rfl d_Rs_keep_42 ?_
  refine lv_icmp_ne (tgt := 68) hx hb d_Rs_keep_45 (by decide) (fun hc => ?_) (fun hc => ?_)
  · have h := it_f h hc
    exact t_Rs_keep_68 X (lv_sub hl [0, 2, 3] rfl) hI hS h
  · have h := it_t h hc
    exact t_Rs_keep_48 X (lv_sub hl [0, 1, 2, 3] rfl) hI hS h
set_option maxRecDepth 100000 in
set_option maxHeartbeats 4000000 in
theorem t_Rs_keep_38 {p : Program} {l : Launch} {e : Env} {s : State} {m : MethodId} {args : Array Value} {below : List Frame} {meth : Method} {c : Code} {D : va_G} {A : Nat → Prop} {g : Nat → ClassId} {rest : va_W} {a0 : Nat → Nat} {a1 : Nat → Nat} {a2 : Nat → Nat} {N : Nat → Nat → Nat} {B : Nat → Nat → Nat} {ls : Array Slot} {H : Heap} {locs : List Loc} {s1 : S_Bs} {s2 : S_Bs} {s0 : S_Rs} {out : Int32 × S_Rs} (X : Cx p s m args meth c prog_8_method_4_code 4 ws_Rs_keep R_Rs (some .boolean) D g) (hl : lv_has ls 4 []) (hI : Iw D A (w_Rs g a0 N B s0 ++ (w_Bs g a1 s1 ++ (w_Bs g a2 s2 ++ (rest)))) H) (hS : va_S A s.heap H locs) (h : B_Rs_keep_38  s1 s2 s0 = some out) : W p l e (headSpec ws_Rs_keep { frames := 2, cells := 0, slots := 0, locals := 43 }).room s m args below meth c H locs 0 0 (MQ below (QcI D A g out.1 (fun (_ : Unit) => w_Rs g a0 N B out.2 ++ (w_Bs g a1 s1 ++ (w_Bs g a2 s2 ++ (rest))))) args s 0 0 A) (F0 m 38 ls []) := by
  have X1 := X
  obtain ⟨hx, hb, hml, hown, hts, hr, hlocks, hKK⟩ := X1
  have ht : ∀ w ∈ TB, w.before args s = true := fun w h => hts w (List.mem_cons_of_mem _ h)
  have hK := hKK.1
  unfold B_Rs_keep_38 at h
  refine lv_iconst (v := 0) hx hb d_Rs_keep_38 (by decide) ?_
  have h9 := Option.some.inj h
  subst h9
  exact W.zret (v := (0 : Int32)) hx hb hr rfl (fun t ht hW => ⟨⟨_, (), rfl, rfl, ⟨by rw [ht]; exact hI, hKK.moved hW⟩⟩, hS.F ht⟩) hS.2.2 d_Rs_keep_39
set_option maxRecDepth 100000 in
set_option maxHeartbeats 4000000 in
theorem t_Rs_keep_29 {p : Program} {l : Launch} {e : Env} {s : State} {m : MethodId} {args : Array Value} {below : List Frame} {meth : Method} {c : Code} {D : va_G} {A : Nat → Prop} {g : Nat → ClassId} {rest : va_W} {a0 : Nat → Nat} {a1 : Nat → Nat} {a2 : Nat → Nat} {N : Nat → Nat → Nat} {B : Nat → Nat → Nat} {ls : Array Slot} {H : Heap} {locs : List Loc} {s1 : S_Bs} {s2 : S_Bs} {s0 : S_Rs} {x3 : Int32} {out : Int32 × S_Rs} (X : Cx p s m args meth c prog_8_method_4_code 4 ws_Rs_keep R_Rs (some .boolean) D g) (hl : lv_has ls 4 [(0, .ref (a0 0)), (1, .ref (a1 0)), (2, .ref (a2 0)), (3, .int x3)]) (hI : Iw D A (w_Rs g a0 N B s0 ++ (w_Bs g a1 s1 ++ (w_Bs g a2 s2 ++ (rest)))) H) (hS : va_S A s.heap H locs) (h : B_Rs_keep_29  s1 s2 s0 x3 = some out) : W p l e (headSpec ws_Rs_keep { frames := 2, cells := 0, slots := 0, locals := 43 }).room s m args below meth c H locs 0 0 (MQ below (QcI D A g out.1 (fun (_ : Unit) => w_Rs g a0 N B out.2 ++ (w_Bs g a1 s1 ++ (w_Bs g a2 s2 ++ (rest))))) args s 0 0 A) (F0 m 29 ls []) := by
  have X1 := X
  obtain ⟨hx, hb, hml, hown, hts, hr, hlocks, hKK⟩ := X1
  have ht : ∀ w ∈ TB, w.before args s = true := fun w h => hts w (List.mem_cons_of_mem _ h)
  have hK := hKK.1
  unfold B_Rs_keep_29 at h
  refine lv_iload_n hx hb d_Rs_keep_29 rfl (lv_at hl 3 rfl) ?_
  refine lv_aload_n hx hb d_Rs_keep_30 rfl (lv_at hl 0 rfl) ?_
  refine va_get (D := D) (ci := 6) (v := .ref (a0 1)) (C := R_Rs) (T := T_Rs) (N := 3) hx hb ht in_Rs hown hK hI.1 0 rfl rfl 0 (by decide) (ht _ m_112) (fun _ h9 => h9) rfl d_Rs_keep_31 ?_
  refine va_alen hx hb hK hI.1 1 2 rfl rfl rfl d_Rs_keep_34 ?_
  refine lv_icmp_ne (tgt := 40) hx hb d_Rs_keep_35 (by decide) (fun hc => ?_) (fun hc => ?_)
  · have h := it_f h hc
    exact t_Rs_keep_40 X (lv_sub hl [0, 1, 2, 3] rfl) hI hS h
  · have h := it_t h hc
    exact t_Rs_keep_38 X (lv_sub hl [] rfl) hI hS h
set_option maxRecDepth 100000 in
set_option maxHeartbeats 4000000 in
theorem t_Rs_keep_23 {p : Program} {l : Launch} {e : Env} {s : State} {m : MethodId} {args : Array Value} {below : List Frame} {meth : Method} {c : Code} {D : va_G} {A : Nat → Prop} {g : Nat → ClassId} {rest : va_W} {a0 : Nat → Nat} {a1 : Nat → Nat} {a2 : Nat → Nat} {N : Nat → Nat → Nat} {B : Nat → Nat → Nat} {ls : Array Slot} {H : Heap} {locs : List Loc} {k2 : S_Rs × Int32 → Option (Int32 × S_Rs)} {s1 : S_Bs} {s2 : S_Bs} {s0 : S_Rs} {x3 : Int32} {out : Int32 × S_Rs} (X : Cx p s m args meth c prog_8_method_4_code 4 ws_Rs_keep R_Rs (some .boolean) D g) (hk2 : ∀ (v : S_Rs × Int32) (ls : Array Slot) (H : Heap) (locs : List Loc), lv_has ls 4 [(0, .ref (a0 0)), (1, .ref (a1 0)), (2, .ref (a2 0)), (3, .int v.2)] → Iw D A (w_Rs g a0 N B v.1 ++ (w_Bs g a1 s1 ++ (w_Bs g a2 s2 ++ (rest)))) H → va_S A s.heap H locs → k2 v = some out → W p l e (headSpec ws_Rs_keep { frames := 2, cells := 0, slots := 0, locals := 43 }).room s m args below meth c H locs 0 0 (MQ below (QcI D A g out.1 (fun (_ : Unit) => w_Rs g a0 N B out.2 ++ (w_Bs g a1 s1 ++ (w_Bs g a2 s2 ++ (rest))))) args s 0 0 A) (F0 m 2 ls [])) (hl : lv_has ls 4 [(0, .ref (a0 0)), (1, .ref (a1 0)), (2, .ref (a2 0)), (3, .int x3)]) (hI : Iw D A (w_Rs g a0 N B s0 ++ (w_Bs g a1 s1 ++ (w_Bs g a2 s2 ++ (rest)))) H) (hS : va_S A s.heap H locs) (h : B_Rs_keep_23 k2 s1 s2 s0 x3 = some out) : W p l e (headSpec ws_Rs_keep { frames := 2, cells := 0, slots := 0, locals := 43 }).room s m args below meth c H locs 0 0 (MQ below (QcI D A g out.1 (fun (_ : Unit) => w_Rs g a0 N B out.2 ++ (w_Bs g a1 s1 ++ (w_Bs g a2 s2 ++ (rest))))) args s 0 0 A) (F0 m 23 ls []) := by
  have X1 := X
  obtain ⟨hx, hb, hml, hown, hts, hr, hlocks, hKK⟩ := X1
  have ht : ∀ w ∈ TB, w.before args s = true := fun w h => hts w (List.mem_cons_of_mem _ h)
  have hK := hKK.1
  unfold B_Rs_keep_23 at h
  refine lv_iinc (k := 3) (v := (x3 + 1)) hx hb d_Rs_keep_23 hl rfl (congrArg (fun z => x3 + z) (by decide)) (Nat.le_of_ble_eq_true rfl) rfl (fun ls hl => ?_)
  have hl : lv_has ls 4 [(3, .int (x3 + 1)), (0, .ref (a0 0)), (1, .ref (a1 0)), (2, .ref (a2 0))] := hl
  refine lv_goto (tgt := 2) hx hb d_Rs_keep_26 (by decide) ?_
  exact hk2 (s0, (x3 + 1)) _ _ _ (lv_sub hl [1, 2, 3, 0] rfl) hI hS h
set_option maxRecDepth 100000 in
set_option maxHeartbeats 4000000 in
theorem t_Rs_keep_10 {p : Program} {l : Launch} {e : Env} {s : State} {m : MethodId} {args : Array Value} {below : List Frame} {meth : Method} {c : Code} {D : va_G} {A : Nat → Prop} {g : Nat → ClassId} {rest : va_W} {a0 : Nat → Nat} {a1 : Nat → Nat} {a2 : Nat → Nat} {N : Nat → Nat → Nat} {B : Nat → Nat → Nat} {ls : Array Slot} {H : Heap} {locs : List Loc} {k2 : S_Rs × Int32 → Option (Int32 × S_Rs)} {s1 : S_Bs} {s2 : S_Bs} {s0 : S_Rs} {x3 : Int32} {out : Int32 × S_Rs} (X : Cx p s m args meth c prog_8_method_4_code 4 ws_Rs_keep R_Rs (some .boolean) D g) (hk2 : ∀ (v : S_Rs × Int32) (ls : Array Slot) (H : Heap) (locs : List Loc), lv_has ls 4 [(0, .ref (a0 0)), (1, .ref (a1 0)), (2, .ref (a2 0)), (3, .int v.2)] → Iw D A (w_Rs g a0 N B v.1 ++ (w_Bs g a1 s1 ++ (w_Bs g a2 s2 ++ (rest)))) H → va_S A s.heap H locs → k2 v = some out → W p l e (headSpec ws_Rs_keep { frames := 2, cells := 0, slots := 0, locals := 43 }).room s m args below meth c H locs 0 0 (MQ below (QcI D A g out.1 (fun (_ : Unit) => w_Rs g a0 N B out.2 ++ (w_Bs g a1 s1 ++ (w_Bs g a2 s2 ++ (rest))))) args s 0 0 A) (F0 m 2 ls [])) (hl : lv_has ls 4 [(0, .ref (a0 0)), (1, .ref (a1 0)), (2, .ref (a2 0)), (3, .int x3)]) (hI : Iw D A (w_Rs g a0 N B s0 ++ (w_Bs g a1 s1 ++ (w_Bs g a2 s2 ++ (rest)))) H) (hS : va_S A s.heap H locs) (h : B_Rs_keep_10 k2 s1 s2 s0 x3 = some out) : W p l e (headSpec ws_Rs_keep { frames := 2, cells := 0, slots := 0, locals := 43 }).room s m args below meth c H locs 0 0 (MQ below (QcI D A g out.1 (fun (_ : Unit) => w_Rs g a0 N B out.2 ++ (w_Bs g a1 s1 ++ (w_Bs g a2 s2 ++ (rest))))) args s 0 0 A) (F0 m 10 ls []) := by
  have X1 := X
  obtain ⟨hx, hb, hml, hown, hts, hr, hlocks, hKK⟩ := X1
  have ht : ∀ w ∈ TB, w.before args s = true := fun w h => hts w (List.mem_cons_of_mem _ h)
  have hK := hKK.1
  unfold B_Rs_keep_10 at h
  refine lv_aload_n hx hb d_Rs_keep_10 rfl (lv_at hl 0 rfl) ?_
  refine va_get (D := D) (ci := 6) (v := .ref (a0 1)) (C := R_Rs) (T := T_Rs) (N := 3) hx hb ht in_Rs hown hK hI.1 0 rfl rfl 0 (by decide) (ht _ m_112) (fun _ h9 => h9) rfl d_Rs_keep_11 ?_
  refine lv_iload_n hx hb d_Rs_keep_14 rfl (lv_at hl 3 rfl) ?_
  by_cases hc1 : (x3 < 0 ∨ (Rs_n s0) ≤ x3.toNatClampNeg)
  · exact no_s (it_t h hc1)
  have h := it_f h hc1
  refine va_aldq hx hb hK hI.1 1 2 rfl rfl hc1 d_Rs_keep_15 ?_
  refine W.eq (g2 := F0 m 16 ls [.ref (N x3.toNatClampNeg 0)]) rfl ?_
  refine lv_aload_n hx hb d_Rs_keep_16 rfl (lv_at hl 1 rfl) ?_
  have hc2 : x3.toNatClampNeg < (Rs_n s0) := by
    by_cases z : x3.toNatClampNeg < (Rs_n s0)
    · exact z
    · exact no_s (it_f h z)
  have h := it_t h hc2
  obtain ⟨o3, ho4, h⟩ := bd_s h
  refine cl_i (W1 := fun (_ : Unit) => w_Rs g a0 N B s0 ++ (w_Bs g a1 s1 ++ (w_Bs g a2 s2 ++ (rest)))) (va_runV (As := [.ref (a1 0)]) (rest := []) ⟨hx, hb, hml, hown, ht⟩ (c_Bs_isSame (l := l) (D := D) (A := A) (g := g) (rest := rem_N g a0 N B s0 x3.toNatClampNeg ++ (w_Bs g a2 s2 ++ (rest))) (a0 := N x3.toNatClampNeg) (a1 := a1) ho4) (cwV 1 ht (gd_V m_597 m_598 m_599 m_2 m_600) rfl rfl rfl (by decide +kernel) ⟨(Nat.le_of_ble_eq_true rfl), (Nat.le_of_ble_eq_true rfl)⟩) (prV (ci := 0) (q0 := 0) hKK hI ((fa (foc_N hc2)).trans ((mv_2).trans (mv_1))) rfl rfl rfl) rfl rfl hl.1 rfl (lv_room (Nat.le_of_ble_eq_true rfl)) d_Rs_keep_17 ⟨(Nat.le_of_ble_eq_true rfl), (Nat.le_of_ble_eq_true rfl)⟩) hS (fun _ => (((fa (foc_N hc2)).trans ((mv_2).trans (mv_1)))).symm) (fun _ H locs hI hS => ?_)
  have hI : Iw D A (w_Rs g a0 N B s0 ++ (w_Bs g a1 s1 ++ (w_Bs g a2 s2 ++ (rest)))) H := hI
  refine lv_if_ne (tgt := 29) hx hb d_Rs_keep_20 (by decide) (fun hc => ?_) (fun hc => ?_)
  · have h := it_f h hc
    exact t_Rs_keep_29 X (lv_sub hl [0, 1, 2, 3] rfl) hI hS h
  · have h := it_t h hc
    exact t_Rs_keep_23 X hk2 (lv_sub hl [0, 1, 2, 3] rfl) hI hS h
set_option maxRecDepth 100000 in
set_option maxHeartbeats 4000000 in
theorem t_Rs_keep_2 {p : Program} {l : Launch} {e : Env} {s : State} {m : MethodId} {args : Array Value} {below : List Frame} {meth : Method} {c : Code} {D : va_G} {A : Nat → Prop} {g : Nat → ClassId} {rest : va_W} {a0 : Nat → Nat} {a1 : Nat → Nat} {a2 : Nat → Nat} {N : Nat → Nat → Nat} {B : Nat → Nat → Nat} {ls : Array Slot} {H : Heap} {locs : List Loc} {k2 : S_Rs × Int32 → Option (Int32 × S_Rs)} {s1 : S_Bs} {s2 : S_Bs} {s0 : S_Rs} {x3 : Int32} {out : Int32 × S_Rs} (X : Cx p s m args meth c prog_8_method_4_code 4 ws_Rs_keep R_Rs (some .boolean) D g) (hk2 : ∀ (v : S_Rs × Int32) (ls : Array Slot) (H : Heap) (locs : List Loc), lv_has ls 4 [(0, .ref (a0 0)), (1, .ref (a1 0)), (2, .ref (a2 0)), (3, .int v.2)] → Iw D A (w_Rs g a0 N B v.1 ++ (w_Bs g a1 s1 ++ (w_Bs g a2 s2 ++ (rest)))) H → va_S A s.heap H locs → k2 v = some out → W p l e (headSpec ws_Rs_keep { frames := 2, cells := 0, slots := 0, locals := 43 }).room s m args below meth c H locs 0 0 (MQ below (QcI D A g out.1 (fun (_ : Unit) => w_Rs g a0 N B out.2 ++ (w_Bs g a1 s1 ++ (w_Bs g a2 s2 ++ (rest))))) args s 0 0 A) (F0 m 2 ls [])) (hl : lv_has ls 4 [(0, .ref (a0 0)), (1, .ref (a1 0)), (2, .ref (a2 0)), (3, .int x3)]) (hI : Iw D A (w_Rs g a0 N B s0 ++ (w_Bs g a1 s1 ++ (w_Bs g a2 s2 ++ (rest)))) H) (hS : va_S A s.heap H locs) (h : B_Rs_keep_2 k2 s1 s2 s0 x3 = some out) : W p l e (headSpec ws_Rs_keep { frames := 2, cells := 0, slots := 0, locals := 43 }).room s m args below meth c H locs 0 0 (MQ below (QcI D A g out.1 (fun (_ : Unit) => w_Rs g a0 N B out.2 ++ (w_Bs g a1 s1 ++ (w_Bs g a2 s2 ++ (rest))))) args s 0 0 A) (F0 m 2 ls []) := by
  have X1 := X
  obtain ⟨hx, hb, hml, hown, hts, hr, hlocks, hKK⟩ := X1
  have ht : ∀ w ∈ TB, w.before args s = true := fun w h => hts w (List.mem_cons_of_mem _ h)
  have hK := hKK.1
  unfold B_Rs_keep_2 at h
  refine lv_iload_n hx hb d_Rs_keep_2 rfl (lv_at hl 3 rfl) ?_
  refine lv_aload_n hx hb d_Rs_keep_3 rfl (lv_at hl 0 rfl) ?_
  refine va_get (D := D) (ci := 6) (v := .int (Rs_count s0)) (C := R_Rs) (T := T_Rs) (N := 3) hx hb ht in_Rs hown hK hI.1 0 rfl rfl 2 (by decide) (ht _ m_114) (fun _ h9 => h9) rfl d_Rs_keep_4 ?_
  refine lv_icmp_ge (tgt := 29) hx hb d_Rs_keep_7 (by decide) (fun hc => ?_) (fun hc => ?_)
  · have h := it_t h hc
    exact t_Rs_keep_29 X (lv_sub hl [0, 1, 2, 3] rfl) hI hS h
  · have h := it_f h hc
    exact t_Rs_keep_10 X hk2 (lv_sub hl [0, 1, 2, 3] rfl) hI hS h
set_option maxRecDepth 100000 in
set_option maxHeartbeats 4000000 in
theorem T_Rs_keep_2 {p : Program} {l : Launch} {e : Env} {s : State} {m : MethodId} {args : Array Value} {below : List Frame} {meth : Method} {c : Code} {D : va_G} {A : Nat → Prop} {g : Nat → ClassId} {rest : va_W} {a0 : Nat → Nat} {a1 : Nat → Nat} {a2 : Nat → Nat} {N : Nat → Nat → Nat} {B : Nat → Nat → Nat} {ls : Array Slot} {H : Heap} {locs : List Loc} {s1 : S_Bs} {s2 : S_Bs} {s0 : S_Rs} {x3 : Int32} {out : Int32 × S_Rs} (X : Cx p s m args meth c prog_8_method_4_code 4 ws_Rs_keep R_Rs (some .boolean) D g) (hl : lv_has ls 4 [(0, .ref (a0 0)), (1, .ref (a1 0)), (2, .ref (a2 0)), (3, .int x3)]) (hI : Iw D A (w_Rs g a0 N B s0 ++ (w_Bs g a1 s1 ++ (w_Bs g a2 s2 ++ (rest)))) H) (hS : va_S A s.heap H locs) (h : L_Rs_keep_2  s1 s2 (s0, x3) = some out) : W p l e (headSpec ws_Rs_keep { frames := 2, cells := 0, slots := 0, locals := 43 }).room s m args below meth c H locs 0 0 (MQ below (QcI D A g out.1 (fun (_ : Unit) => w_Rs g a0 N B out.2 ++ (w_Bs g a1 s1 ++ (w_Bs g a2 s2 ++ (rest))))) args s 0 0 A) (F0 m 2 ls []) := by
  unfold L_Rs_keep_2 at h
  exact lp_ind (P := fun v => ∀ (ls : Array Slot) (H : Heap) (locs : List Loc), lv_has ls 4 [(0, .ref (a0 0)), (1, .ref (a1 0)), (2, .ref (a2 0)), (3, .int v.2)] → Iw D A (w_Rs g a0 N B v.1 ++ (w_Bs g a1 s1 ++ (w_Bs g a2 s2 ++ (rest)))) H → va_S A s.heap H locs → W p l e (headSpec ws_Rs_keep { frames := 2, cells := 0, slots := 0, locals := 43 }).room s m args below meth c H locs 0 0 (MQ below (QcI D A g out.1 (fun (_ : Unit) => w_Rs g a0 N B out.2 ++ (w_Bs g a1 s1 ++ (w_Bs g a2 s2 ++ (rest))))) args s 0 0 A) (F0 m 2 ls [])) (fun k v ih hb ls H locs  hl hI hS => t_Rs_keep_2 X  (fun v' ls H locs  hl hI hS h' => ih v' h' ls H locs  hl hI hS) hl hI hS hb) FU _ h ls H locs  hl hI hS
set_option maxRecDepth 100000 in
set_option maxHeartbeats 4000000 in
theorem t_Rs_keep_0 {p : Program} {l : Launch} {e : Env} {s : State} {m : MethodId} {args : Array Value} {below : List Frame} {meth : Method} {c : Code} {D : va_G} {A : Nat → Prop} {g : Nat → ClassId} {rest : va_W} {a0 : Nat → Nat} {a1 : Nat → Nat} {a2 : Nat → Nat} {N : Nat → Nat → Nat} {B : Nat → Nat → Nat} {ls : Array Slot} {H : Heap} {locs : List Loc} {s1 : S_Bs} {s2 : S_Bs} {s0 : S_Rs} {out : Int32 × S_Rs} (X : Cx p s m args meth c prog_8_method_4_code 4 ws_Rs_keep R_Rs (some .boolean) D g) (hl : lv_has ls 4 [(0, .ref (a0 0)), (1, .ref (a1 0)), (2, .ref (a2 0))]) (hI : Iw D A (w_Rs g a0 N B s0 ++ (w_Bs g a1 s1 ++ (w_Bs g a2 s2 ++ (rest)))) H) (hS : va_S A s.heap H locs) (h : B_Rs_keep_0  s1 s2 s0 = some out) : W p l e (headSpec ws_Rs_keep { frames := 2, cells := 0, slots := 0, locals := 43 }).room s m args below meth c H locs 0 0 (MQ below (QcI D A g out.1 (fun (_ : Unit) => w_Rs g a0 N B out.2 ++ (w_Bs g a1 s1 ++ (w_Bs g a2 s2 ++ (rest))))) args s 0 0 A) (F0 m 0 ls []) := by
  have X1 := X
  obtain ⟨hx, hb, hml, hown, hts, hr, hlocks, hKK⟩ := X1
  have ht : ∀ w ∈ TB, w.before args s = true := fun w h => hts w (List.mem_cons_of_mem _ h)
  have hK := hKK.1
  unfold B_Rs_keep_0 at h
  refine lv_iconst (v := 0) hx hb d_Rs_keep_0 (by decide) ?_
  refine lv_istore_n hx hb d_Rs_keep_1 rfl hl (Nat.le_of_ble_eq_true rfl) rfl (fun ls hl => ?_)
  have hl : lv_has ls 4 [(3, .int (0 : Int32)), (0, .ref (a0 0)), (1, .ref (a1 0)), (2, .ref (a2 0))] := hl
  exact T_Rs_keep_2 X (lv_sub hl [1, 2, 3, 0] rfl) hI hS h
set_option maxRecDepth 100000 in
set_option maxHeartbeats 4000000 in
theorem c_Rs_keep {l : Launch} {D : va_G} {A : Nat → Prop} {g : Nat → ClassId} {rest : va_W} {a0 : Nat → Nat} {a1 : Nat → Nat} {a2 : Nat → Nat} {N : Nat → Nat → Nat} {B : Nat → Nat → Nat} {s0 : S_Rs} {s1 : S_Bs} {s2 : S_Bs} {out : Int32 × S_Rs} (h : F_Rs_keep s0 s1 s2 = some out) : Met l y_Rs_keep ws_Rs_keep { frames := 2, cells := 0, slots := 0, locals := 43 } (PcW D A g [.ref (a0 0), .ref (a1 0), .ref (a2 0)] (w_Rs g a0 N B s0 ++ (w_Bs g a1 s1 ++ (w_Bs g a2 s2 ++ (rest))))) (QcI D A g out.1 (fun (_ : Unit) => w_Rs g a0 N B out.2 ++ (w_Bs g a1 s1 ++ (w_Bs g a2 s2 ++ (rest))))) 0 0 A := by
  refine Met.ofW (cc := prog_8_method_4_code) (maxL := 4) (ret := (some .boolean)) (by decide) rfl ?_
  intro p e s m args below meth c s₁ B hml hv
  obtain ⟨rfl, hI, hK⟩ := hv
  have hl := lv_entry [.ref (a0 0), .ref (a1 0), .ref (a2 0)] (n := 4) (Nat.le_of_ble_eq_true rfl)
  rw [lg_entry_eq]
  generalize (lg_sl [.ref (a0 0), .ref (a1 0), .ref (a2 0)] ++ List.replicate (4 - (lg_sl [.ref (a0 0), .ref (a1 0), .ref (a2 0)]).length) Slot.unset).toArray = ls at hl ⊢
  have hl : lv_has ls 4 [(0, .ref (a0 0)), (1, .ref (a1 0)), (2, .ref (a2 0))] := hl
  exact t_Rs_keep_0 ⟨B.exec, B.bytes, hml, findClass_of_methodNamed B.named, atoms_spec (ws := ws_Rs_keep) B.pre, B.returns, B.notSynchronized, hK⟩ (lv_sub hl [0, 1, 2] rfl) hI va_S.rf h
