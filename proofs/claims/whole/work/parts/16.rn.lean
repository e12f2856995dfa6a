theorem d_Rn_lookAtCommand_0 : decode prog_1_method_32_code 0 = .ok (.aload_n 0, 1) := by decide +kernel
theorem d_Rn_lookAtCommand_1 : decode prog_1_method_32_code 1 = .ok (.getfield 64, 3) := by decide +kernel
theorem d_Rn_lookAtCommand_4 : decode prog_1_method_32_code 4 = .ok (.aload_n 0, 1) := by decide +kernel
theorem d_Rn_lookAtCommand_5 : decode prog_1_method_32_code 5 = .ok (.getfield 27, 3) := by decide +kernel
theorem d_Rn_lookAtCommand_8 : decode prog_1_method_32_code 8 = .ok (.iconst 1, 1) := by decide +kernel
theorem d_Rn_lookAtCommand_9 : decode prog_1_method_32_code 9 = .ok (.invokevirtual 111, 3) := by decide +kernel
theorem d_Rn_lookAtCommand_12 : decode prog_1_method_32_code 12 = .ok (.ifCond .ne 24, 3) := by decide +kernel
theorem d_Rn_lookAtCommand_15 : decode prog_1_method_32_code 15 = .ok (.aload_n 0, 1) := by decide +kernel
theorem d_Rn_lookAtCommand_16 : decode prog_1_method_32_code 16 = .ok (.getfield 50, 3) := by decide +kernel
theorem d_Rn_lookAtCommand_19 : decode prog_1_method_32_code 19 = .ok (.aload_n 0, 1) := by decide +kernel
theorem d_Rn_lookAtCommand_20 : decode prog_1_method_32_code 20 = .ok (.getfield 64, 3) := by decide +kernel
theorem d_Rn_lookAtCommand_23 : decode prog_1_method_32_code 23 = .ok (.invokevirtual 115, 3) := by decide +kernel
theorem d_Rn_lookAtCommand_26 : decode prog_1_method_32_code 26 = .ok (.invokevirtual 234, 3) := by decide +kernel
theorem d_Rn_lookAtCommand_29 : decode prog_1_method_32_code 29 = .ok (.ifCond .eq 7, 3) := by decide +kernel
theorem d_Rn_lookAtCommand_32 : decode prog_1_method_32_code 32 = .ok (.iconst 1, 1) := by decide +kernel
theorem d_Rn_lookAtCommand_33 : decode prog_1_method_32_code 33 = .ok (.goto 4, 3) := by decide +kernel
theorem d_Rn_lookAtCommand_36 : decode prog_1_method_32_code 36 = .ok (.iconst 0, 1) := by decide +kernel
theorem d_Rn_lookAtCommand_37 : decode prog_1_method_32_code 37 = .ok (.istore_n 1, 1) := by decide +kernel
theorem d_Rn_lookAtCommand_38 : decode prog_1_method_32_code 38 = .ok (.aload_n 0, 1) := by decide +kernel
theorem d_Rn_lookAtCommand_39 : decode prog_1_method_32_code 39 = .ok (.getfield 27, 3) := by decide +kernel
theorem d_Rn_lookAtCommand_42 : decode prog_1_method_32_code 42 = .ok (.invokevirtual 102, 3) := by decide +kernel
theorem d_Rn_lookAtCommand_45 : decode prog_1_method_32_code 45 = .ok (.iload_n 1, 1) := by decide +kernel
theorem d_Rn_lookAtCommand_46 : decode prog_1_method_32_code 46 = .ok (.ifCond .ne 14, 3) := by decide +kernel
theorem d_Rn_lookAtCommand_49 : decode prog_1_method_32_code 49 = .ok (.aload_n 0, 1) := by decide +kernel
theorem d_Rn_lookAtCommand_50 : decode prog_1_method_32_code 50 = .ok (.getfield 50, 3) := by decide +kernel
theorem d_Rn_lookAtCommand_53 : decode prog_1_method_32_code 53 = .ok (.invokevirtual 171, 3) := by decide +kernel
theorem d_Rn_lookAtCommand_56 : decode prog_1_method_32_code 56 = .ok (.aload_n 0, 1) := by decide +kernel
theorem d_Rn_lookAtCommand_57 : decode prog_1_method_32_code 57 = .ok (.invokevirtual 197, 3) := by decide +kernel
theorem d_Rn_lookAtCommand_60 : decode prog_1_method_32_code 60 = .ok (.return_, 1) := by decide +kernel
theorem d_Rn_startData_0 : decode prog_1_method_35_code 0 = .ok (.aload_n 0, 1) := by decide +kernel
theorem d_Rn_startData_1 : decode prog_1_method_35_code 1 = .ok (.getfield 30, 3) := by decide +kernel
theorem d_Rn_startData_4 : decode prog_1_method_35_code 4 = .ok (.invokevirtual 102, 3) := by decide +kernel
theorem d_Rn_startData_7 : decode prog_1_method_35_code 7 = .ok (.aload_n 0, 1) := by decide +kernel
theorem d_Rn_startData_8 : decode prog_1_method_35_code 8 = .ok (.getfield 30, 3) := by decide +kernel
theorem d_Rn_startData_11 : decode prog_1_method_35_code 11 = .ok (.aload_n 0, 1) := by decide +kernel
theorem d_Rn_startData_12 : decode prog_1_method_35_code 12 = .ok (.getfield 43, 3) := by decide +kernel
theorem d_Rn_startData_15 : decode prog_1_method_35_code 15 = .ok (.aload_n 0, 1) := by decide +kernel
theorem d_Rn_startData_16 : decode prog_1_method_35_code 16 = .ok (.getfield 50, 3) := by decide +kernel
theorem d_Rn_startData_19 : decode prog_1_method_35_code 19 = .ok (.invokevirtual 238, 3) := by decide +kernel
theorem d_Rn_startData_22 : decode prog_1_method_35_code 22 = .ok (.invokevirtual 220, 3) := by decide +kernel
theorem d_Rn_startData_25 : decode prog_1_method_35_code 25 = .ok (.invokevirtual 99, 3) := by decide +kernel
theorem d_Rn_startData_28 : decode prog_1_method_35_code 28 = .ok (.aload_n 0, 1) := by decide +kernel
theorem d_Rn_startData_29 : decode prog_1_method_35_code 29 = .ok (.getfield 30, 3) := by decide +kernel
theorem d_Rn_startData_32 : decode prog_1_method_35_code 32 = .ok (.iload_n 1, 1) := by decide +kernel
theorem d_Rn_startData_33 : decode prog_1_method_35_code 33 = .ok (.invokevirtual 99, 3) := by decide +kernel
theorem d_Rn_startData_36 : decode prog_1_method_35_code 36 = .ok (.return_, 1) := by decide +kernel
theorem d_Rn_reply_0 : decode prog_1_method_34_code 0 = .ok (.aload_n 0, 1) := by decide +kernel
theorem d_Rn_reply_1 : decode prog_1_method_34_code 1 = .ok (.iconst 3, 1) := by decide +kernel
theorem d_Rn_reply_2 : decode prog_1_method_34_code 2 = .ok (.invokevirtual 258, 3) := by decide +kernel
theorem d_Rn_reply_5 : decode prog_1_method_34_code 5 = .ok (.iconst 1, 1) := by decide +kernel
theorem d_Rn_reply_6 : decode prog_1_method_34_code 6 = .ok (.aload_n 0, 1) := by decide +kernel
theorem d_Rn_reply_7 : decode prog_1_method_34_code 7 = .ok (.getfield 50, 3) := by decide +kernel
theorem d_Rn_reply_10 : decode prog_1_method_34_code 10 = .ok (.invokevirtual 241, 3) := by decide +kernel
theorem d_Rn_reply_13 : decode prog_1_method_34_code 13 = .ok (.bipush 16, 2) := by decide +kernel
theorem d_Rn_reply_15 : decode prog_1_method_34_code 15 = .ok (.iadd, 1) := by decide +kernel
theorem d_Rn_reply_16 : decode prog_1_method_34_code 16 = .ok (.iconst 1, 1) := by decide +kernel
theorem d_Rn_reply_17 : decode prog_1_method_34_code 17 = .ok (.aload_n 0, 1) := by decide +kernel
theorem d_Rn_reply_18 : decode prog_1_method_34_code 18 = .ok (.getfield 30, 3) := by decide +kernel
theorem d_Rn_reply_21 : decode prog_1_method_34_code 21 = .ok (.invokestatic 261, 3) := by decide +kernel
theorem d_Rn_reply_24 : decode prog_1_method_34_code 24 = .ok (.iconst 2, 1) := by decide +kernel
theorem d_Rn_reply_25 : decode prog_1_method_34_code 25 = .ok (.aload_n 0, 1) := by decide +kernel
theorem d_Rn_reply_26 : decode prog_1_method_34_code 26 = .ok (.getfield 50, 3) := by decide +kernel
theorem d_Rn_reply_29 : decode prog_1_method_34_code 29 = .ok (.invokevirtual 265, 3) := by decide +kernel
theorem d_Rn_reply_32 : decode prog_1_method_34_code 32 = .ok (.iconst 1, 1) := by decide +kernel
theorem d_Rn_reply_33 : decode prog_1_method_34_code 33 = .ok (.aload_n 0, 1) := by decide +kernel
theorem d_Rn_reply_34 : decode prog_1_method_34_code 34 = .ok (.getfield 30, 3) := by decide +kernel
theorem d_Rn_reply_37 : decode prog_1_method_34_code 37 = .ok (.invokestatic 261, 3) := by decide +kernel
theorem d_Rn_reply_40 : decode prog_1_method_34_code 40 = .ok (.iconst 3, 1) := by decide +kernel
theorem d_Rn_reply_41 : decode prog_1_method_34_code 41 = .ok (.iload_n 2, 1) := by decide +kernel
theorem d_Rn_reply_42 : decode prog_1_method_34_code 42 = .ok (.ifCond .eq 7, 3) := by decide +kernel
theorem d_Rn_reply_45 : decode prog_1_method_34_code 45 = .ok (.iconst 1, 1) := by decide +kernel
theorem d_Rn_reply_46 : decode prog_1_method_34_code 46 = .ok (.goto 4, 3) := by decide +kernel
theorem d_Rn_reply_49 : decode prog_1_method_34_code 49 = .ok (.iconst 0, 1) := by decide +kernel
theorem d_Rn_reply_50 : decode prog_1_method_34_code 50 = .ok (.iconst 1, 1) := by decide +kernel
theorem d_Rn_reply_51 : decode prog_1_method_34_code 51 = .ok (.aload_n 0, 1) := by decide +kernel
theorem d_Rn_reply_52 : decode prog_1_method_34_code 52 = .ok (.getfield 30, 3) := by decide +kernel
theorem d_Rn_reply_55 : decode prog_1_method_34_code 55 = .ok (.invokestatic 261, 3) := by decide +kernel
theorem d_Rn_reply_58 : decode prog_1_method_34_code 58 = .ok (.iconst 4, 1) := by decide +kernel
theorem d_Rn_reply_59 : decode prog_1_method_34_code 59 = .ok (.iload_n 1, 1) := by decide +kernel
theorem d_Rn_reply_60 : decode prog_1_method_34_code 60 = .ok (.iconst 1, 1) := by decide +kernel
theorem d_Rn_reply_61 : decode prog_1_method_34_code 61 = .ok (.aload_n 0, 1) := by decide +kernel
theorem d_Rn_reply_62 : decode prog_1_method_34_code 62 = .ok (.getfield 30, 3) := by decide +kernel
theorem d_Rn_reply_65 : decode prog_1_method_34_code 65 = .ok (.invokestatic 261, 3) := by decide +kernel
theorem d_Rn_reply_68 : decode prog_1_method_34_code 68 = .ok (.aload_n 0, 1) := by decide +kernel
theorem d_Rn_reply_69 : decode prog_1_method_34_code 69 = .ok (.iconst 4, 1) := by decide +kernel
theorem d_Rn_reply_70 : decode prog_1_method_34_code 70 = .ok (.invokevirtual 172, 3) := by decide +kernel
theorem d_Rn_reply_73 : decode prog_1_method_34_code 73 = .ok (.pop, 1) := by decide +kernel
theorem d_Rn_reply_74 : decode prog_1_method_34_code 74 = .ok (.return_, 1) := by decide +kernel
theorem d_Rn_tick_0 : decode prog_1_method_11_code 0 = .ok (.aload_n 0, 1) := by decide +kernel
theorem d_Rn_tick_1 : decode prog_1_method_11_code 1 = .ok (.getfield 82, 3) := by decide +kernel
theorem d_Rn_tick_4 : decode prog_1_method_11_code 4 = .ok (.ifCond .le 24, 3) := by decide +kernel
theorem d_Rn_tick_7 : decode prog_1_method_11_code 7 = .ok (.aload_n 0, 1) := by decide +kernel
theorem d_Rn_tick_8 : decode prog_1_method_11_code 8 = .ok (.dup, 1) := by decide +kernel
theorem d_Rn_tick_9 : decode prog_1_method_11_code 9 = .ok (.getfield 82, 3) := by decide +kernel
theorem d_Rn_tick_12 : decode prog_1_method_11_code 12 = .ok (.iconst 1, 1) := by decide +kernel
theorem d_Rn_tick_13 : decode prog_1_method_11_code 13 = .ok (.isub, 1) := by decide +kernel
theorem d_Rn_tick_14 : decode prog_1_method_11_code 14 = .ok (.putfield 82, 3) := by decide +kernel
theorem d_Rn_tick_17 : decode prog_1_method_11_code 17 = .ok (.aload_n 0, 1) := by decide +kernel
theorem d_Rn_tick_18 : decode prog_1_method_11_code 18 = .ok (.getfield 82, 3) := by decide +kernel
theorem d_Rn_tick_21 : decode prog_1_method_11_code 21 = .ok (.ifCond .ne 7, 3) := by decide +kernel
theorem d_Rn_tick_24 : decode prog_1_method_11_code 24 = .ok (.aload_n 0, 1) := by decide +kernel
theorem d_Rn_tick_25 : decode prog_1_method_11_code 25 = .ok (.invokevirtual 146, 3) := by decide +kernel
theorem d_Rn_tick_28 : decode prog_1_method_11_code 28 = .ok (.aload_n 0, 1) := by decide +kernel
theorem d_Rn_tick_29 : decode prog_1_method_11_code 29 = .ok (.getfield 82, 3) := by decide +kernel
theorem d_Rn_tick_32 : decode prog_1_method_11_code 32 = .ok (.ireturn, 1) := by decide +kernel
theorem d_Rn_state_0 : decode prog_1_method_13_code 0 = .ok (.iload_n 1, 1) := by decide +kernel
theorem d_Rn_state_1 : decode prog_1_method_13_code 1 = .ok (.tableswitch 130 0 7 #[47, 52, 57, 65, 73, 97, 117, 125], 47) := by decide +kernel
theorem d_Rn_state_48 : decode prog_1_method_13_code 48 = .ok (.aload_n 0, 1) := by decide +kernel
theorem d_Rn_state_49 : decode prog_1_method_13_code 49 = .ok (.getfield 78, 3) := by decide +kernel
theorem d_Rn_state_52 : decode prog_1_method_13_code 52 = .ok (.ireturn, 1) := by decide +kernel
theorem d_Rn_state_53 : decode prog_1_method_13_code 53 = .ok (.aload_n 0, 1) := by decide +kernel
theorem d_Rn_state_54 : decode prog_1_method_13_code 54 = .ok (.getfield 82, 3) := by decide +kernel
theorem d_Rn_state_57 : decode prog_1_method_13_code 57 = .ok (.ireturn, 1) := by decide +kernel
theorem d_Rn_state_58 : decode prog_1_method_13_code 58 = .ok (.aload_n 0, 1) := by decide +kernel
theorem d_Rn_state_59 : decode prog_1_method_13_code 59 = .ok (.getfield 36, 3) := by decide +kernel
theorem d_Rn_state_62 : decode prog_1_method_13_code 62 = .ok (.invokevirtual 152, 3) := by decide +kernel
theorem d_Rn_state_65 : decode prog_1_method_13_code 65 = .ok (.ireturn, 1) := by decide +kernel
theorem d_Rn_state_66 : decode prog_1_method_13_code 66 = .ok (.aload_n 0, 1) := by decide +kernel
theorem d_Rn_state_67 : decode prog_1_method_13_code 67 = .ok (.getfield 24, 3) := by decide +kernel
theorem d_Rn_state_70 : decode prog_1_method_13_code 70 = .ok (.invokevirtual 125, 3) := by decide +kernel
theorem d_Rn_state_73 : decode prog_1_method_13_code 73 = .ok (.ireturn, 1) := by decide +kernel
theorem d_Rn_state_74 : decode prog_1_method_13_code 74 = .ok (.aload_n 0, 1) := by decide +kernel
theorem d_Rn_state_75 : decode prog_1_method_13_code 75 = .ok (.getfield 78, 3) := by decide +kernel
theorem d_Rn_state_78 : decode prog_1_method_13_code 78 = .ok (.iconst 2, 1) := by decide +kernel
theorem d_Rn_state_79 : decode prog_1_method_13_code 79 = .ok (.if_icmp .ne 17, 3) := by decide +kernel
theorem d_Rn_state_82 : decode prog_1_method_13_code 82 = .ok (.aload_n 0, 1) := by decide +kernel
theorem d_Rn_state_83 : decode prog_1_method_13_code 83 = .ok (.getfield 50, 3) := by decide +kernel
theorem d_Rn_state_86 : decode prog_1_method_13_code 86 = .ok (.invokevirtual 156, 3) := by decide +kernel
theorem d_Rn_state_89 : decode prog_1_method_13_code 89 = .ok (.ifCond .eq 7, 3) := by decide +kernel
theorem d_Rn_state_92 : decode prog_1_method_13_code 92 = .ok (.iconst 1, 1) := by decide +kernel
theorem d_Rn_state_93 : decode prog_1_method_13_code 93 = .ok (.goto 4, 3) := by decide +kernel
theorem d_Rn_state_96 : decode prog_1_method_13_code 96 = .ok (.iconst 0, 1) := by decide +kernel
theorem d_Rn_state_97 : decode prog_1_method_13_code 97 = .ok (.ireturn, 1) := by decide +kernel
theorem d_Rn_state_98 : decode prog_1_method_13_code 98 = .ok (.aload_n 0, 1) := by decide +kernel
theorem d_Rn_state_99 : decode prog_1_method_13_code 99 = .ok (.getfield 78, 3) := by decide +kernel
theorem d_Rn_state_102 : decode prog_1_method_13_code 102 = .ok (.iconst 2, 1) := by decide +kernel
theorem d_Rn_state_103 : decode prog_1_method_13_code 103 = .ok (.if_icmp .ne 13, 3) := by decide +kernel
theorem d_Rn_state_106 : decode prog_1_method_13_code 106 = .ok (.aload_n 0, 1) := by decide +kernel
theorem d_Rn_state_107 : decode prog_1_method_13_code 107 = .ok (.getfield 27, 3) := by decide +kernel
theorem d_Rn_state_110 : decode prog_1_method_13_code 110 = .ok (.invokevirtual 125, 3) := by decide +kernel
theorem d_Rn_state_113 : decode prog_1_method_13_code 113 = .ok (.goto 4, 3) := by decide +kernel
theorem d_Rn_state_116 : decode prog_1_method_13_code 116 = .ok (.iconst 0, 1) := by decide +kernel
theorem d_Rn_state_117 : decode prog_1_method_13_code 117 = .ok (.ireturn, 1) := by decide +kernel
theorem d_Rn_state_118 : decode prog_1_method_13_code 118 = .ok (.aload_n 0, 1) := by decide +kernel
theorem d_Rn_state_119 : decode prog_1_method_13_code 119 = .ok (.getfield 57, 3) := by decide +kernel
theorem d_Rn_state_122 : decode prog_1_method_13_code 122 = .ok (.invokevirtual 160, 3) := by decide +kernel
theorem d_Rn_state_125 : decode prog_1_method_13_code 125 = .ok (.ireturn, 1) := by decide +kernel
theorem d_Rn_state_126 : decode prog_1_method_13_code 126 = .ok (.aload_n 0, 1) := by decide +kernel
theorem d_Rn_state_127 : decode prog_1_method_13_code 127 = .ok (.getfield 85, 3) := by decide +kernel
theorem d_Rn_state_130 : decode prog_1_method_13_code 130 = .ok (.ireturn, 1) := by decide +kernel
theorem d_Rn_state_131 : decode prog_1_method_13_code 131 = .ok (.iconst (-1), 1) := by decide +kernel
theorem d_Rn_state_132 : decode prog_1_method_13_code 132 = .ok (.ireturn, 1) := by decide +kernel
theorem d_Rn_context_0 : decode prog_1_method_14_code 0 = .ok (.aload_n 0, 1) := by decide +kernel
theorem d_Rn_context_1 : decode prog_1_method_14_code 1 = .ok (.getfield 78, 3) := by decide +kernel
theorem d_Rn_context_4 : decode prog_1_method_14_code 4 = .ok (.iconst 2, 1) := by decide +kernel
theorem d_Rn_context_5 : decode prog_1_method_14_code 5 = .ok (.if_icmp .ne 21, 3) := by decide +kernel
theorem d_Rn_context_8 : decode prog_1_method_14_code 8 = .ok (.aload_n 0, 1) := by decide +kernel
theorem d_Rn_context_9 : decode prog_1_method_14_code 9 = .ok (.getfield 43, 3) := by decide +kernel
theorem d_Rn_context_12 : decode prog_1_method_14_code 12 = .ok (.aload_n 0, 1) := by decide +kernel
theorem d_Rn_context_13 : decode prog_1_method_14_code 13 = .ok (.getfield 43, 3) := by decide +kernel
theorem d_Rn_context_16 : decode prog_1_method_14_code 16 = .ok (.iload_n 1, 1) := by decide +kernel
theorem d_Rn_context_17 : decode prog_1_method_14_code 17 = .ok (.invokevirtual 161, 3) := by decide +kernel
theorem d_Rn_context_20 : decode prog_1_method_14_code 20 = .ok (.invokevirtual 164, 3) := by decide +kernel
theorem d_Rn_context_23 : decode prog_1_method_14_code 23 = .ok (.goto 4, 3) := by decide +kernel
theorem d_Rn_context_26 : decode prog_1_method_14_code 26 = .ok (.iconst (-1), 1) := by decide +kernel
theorem d_Rn_context_27 : decode prog_1_method_14_code 27 = .ok (.ireturn, 1) := by decide +kernel
theorem d_Rn_check_0 : decode prog_1_method_4_code 0 = .ok (.iload_n 1, 1) := by decide +kernel
theorem d_Rn_check_1 : decode prog_1_method_4_code 1 = .ok (.invokestatic 105, 3) := by decide +kernel
theorem d_Rn_check_4 : decode prog_1_method_4_code 4 = .ok (.ifCond .ne 11, 3) := by decide +kernel
theorem d_Rn_check_7 : decode prog_1_method_4_code 7 = .ok (.new 108, 3) := by decide +kernel
theorem d_Rn_check_10 : decode prog_1_method_4_code 10 = .ok (.dup, 1) := by decide +kernel
theorem d_Rn_check_11 : decode prog_1_method_4_code 11 = .ok (.invokespecial 110, 3) := by decide +kernel
theorem d_Rn_check_14 : decode prog_1_method_4_code 14 = .ok (.athrow, 1) := by decide +kernel
theorem d_Rn_check_15 : decode prog_1_method_4_code 15 = .ok (.aload_n 0, 1) := by decide +kernel
theorem d_Rn_check_16 : decode prog_1_method_4_code 16 = .ok (.getfield 64, 3) := by decide +kernel
theorem d_Rn_check_19 : decode prog_1_method_4_code 19 = .ok (.aload_n 0, 1) := by decide +kernel
theorem d_Rn_check_20 : decode prog_1_method_4_code 20 = .ok (.getfield 14, 3) := by decide +kernel
theorem d_Rn_check_23 : decode prog_1_method_4_code 23 = .ok (.iload_n 1, 1) := by decide +kernel
theorem d_Rn_check_24 : decode prog_1_method_4_code 24 = .ok (.invokevirtual 111, 3) := by decide +kernel
theorem d_Rn_check_27 : decode prog_1_method_4_code 27 = .ok (.ireturn, 1) := by decide +kernel
theorem d_Rn_convert_0 : decode prog_1_method_5_code 0 = .ok (.iload_n 1, 1) := by decide +kernel
theorem d_Rn_convert_1 : decode prog_1_method_5_code 1 = .ok (.invokestatic 105, 3) := by decide +kernel
theorem d_Rn_convert_4 : decode prog_1_method_5_code 4 = .ok (.ifCond .eq 10, 3) := by decide +kernel
theorem d_Rn_convert_7 : decode prog_1_method_5_code 7 = .ok (.iload_n 2, 1) := by decide +kernel
theorem d_Rn_convert_8 : decode prog_1_method_5_code 8 = .ok (.invokestatic 105, 3) := by decide +kernel
theorem d_Rn_convert_11 : decode prog_1_method_5_code 11 = .ok (.ifCond .ne 11, 3) := by decide +kernel
theorem d_Rn_convert_14 : decode prog_1_method_5_code 14 = .ok (.new 108, 3) := by decide +kernel
theorem d_Rn_convert_17 : decode prog_1_method_5_code 17 = .ok (.dup, 1) := by decide +kernel
theorem d_Rn_convert_18 : decode prog_1_method_5_code 18 = .ok (.invokespecial 110, 3) := by decide +kernel
theorem d_Rn_convert_21 : decode prog_1_method_5_code 21 = .ok (.athrow, 1) := by decide +kernel
theorem d_Rn_convert_22 : decode prog_1_method_5_code 22 = .ok (.aload_n 0, 1) := by decide +kernel
theorem d_Rn_convert_23 : decode prog_1_method_5_code 23 = .ok (.getfield 64, 3) := by decide +kernel
theorem d_Rn_convert_26 : decode prog_1_method_5_code 26 = .ok (.aload_n 0, 1) := by decide +kernel
theorem d_Rn_convert_27 : decode prog_1_method_5_code 27 = .ok (.getfield 14, 3) := by decide +kernel
theorem d_Rn_convert_30 : decode prog_1_method_5_code 30 = .ok (.iload_n 1, 1) := by decide +kernel
theorem d_Rn_convert_31 : decode prog_1_method_5_code 31 = .ok (.invokevirtual 111, 3) := by decide +kernel
theorem d_Rn_convert_34 : decode prog_1_method_5_code 34 = .ok (.ifCond .ne 25, 3) := by decide +kernel
theorem d_Rn_convert_37 : decode prog_1_method_5_code 37 = .ok (.aload_n 0, 1) := by decide +kernel
theorem d_Rn_convert_38 : decode prog_1_method_5_code 38 = .ok (.getfield 64, 3) := by decide +kernel
theorem d_Rn_convert_41 : decode prog_1_method_5_code 41 = .ok (.invokevirtual 115, 3) := by decide +kernel
theorem d_Rn_convert_44 : decode prog_1_method_5_code 44 = .ok (.iload_n 2, 1) := by decide +kernel
theorem d_Rn_convert_45 : decode prog_1_method_5_code 45 = .ok (.aload_n 0, 1) := by decide +kernel
theorem d_Rn_convert_46 : decode prog_1_method_5_code 46 = .ok (.getfield 18, 3) := by decide +kernel
theorem d_Rn_convert_49 : decode prog_1_method_5_code 49 = .ok (.invokevirtual 119, 3) := by decide +kernel
theorem d_Rn_convert_52 : decode prog_1_method_5_code 52 = .ok (.ifCond .eq 7, 3) := by decide +kernel
theorem d_Rn_convert_55 : decode prog_1_method_5_code 55 = .ok (.iconst 1, 1) := by decide +kernel
theorem d_Rn_convert_56 : decode prog_1_method_5_code 56 = .ok (.goto 4, 3) := by decide +kernel
theorem d_Rn_convert_59 : decode prog_1_method_5_code 59 = .ok (.iconst 0, 1) := by decide +kernel
theorem d_Rn_convert_60 : decode prog_1_method_5_code 60 = .ok (.istore_n 3, 1) := by decide +kernel
theorem d_Rn_convert_61 : decode prog_1_method_5_code 61 = .ok (.iload_n 3, 1) := by decide +kernel
theorem d_Rn_convert_62 : decode prog_1_method_5_code 62 = .ok (.ifCond .eq 15, 3) := by decide +kernel
theorem d_Rn_convert_65 : decode prog_1_method_5_code 65 = .ok (.aload_n 0, 1) := by decide +kernel
theorem d_Rn_convert_66 : decode prog_1_method_5_code 66 = .ok (.getfield 18, 3) := by decide +kernel
theorem d_Rn_convert_69 : decode prog_1_method_5_code 69 = .ok (.invokevirtual 125, 3) := by decide +kernel
theorem d_Rn_convert_72 : decode prog_1_method_5_code 72 = .ok (.bipush 120, 2) := by decide +kernel
theorem d_Rn_convert_74 : decode prog_1_method_5_code 74 = .ok (.if_icmp .le 11, 3) := by decide +kernel
theorem d_Rn_convert_77 : decode prog_1_method_5_code 77 = .ok (.new 129, 3) := by decide +kernel
theorem d_Rn_convert_80 : decode prog_1_method_5_code 80 = .ok (.dup, 1) := by decide +kernel
theorem d_Rn_convert_81 : decode prog_1_method_5_code 81 = .ok (.invokespecial 131, 3) := by decide +kernel
theorem d_Rn_convert_84 : decode prog_1_method_5_code 84 = .ok (.athrow, 1) := by decide +kernel
theorem d_Rn_convert_85 : decode prog_1_method_5_code 85 = .ok (.aload_n 0, 1) := by decide +kernel
theorem d_Rn_convert_86 : decode prog_1_method_5_code 86 = .ok (.getfield 14, 3) := by decide +kernel
theorem d_Rn_convert_89 : decode prog_1_method_5_code 89 = .ok (.aload_n 0, 1) := by decide +kernel
theorem d_Rn_convert_90 : decode prog_1_method_5_code 90 = .ok (.getfield 18, 3) := by decide +kernel
theorem d_Rn_convert_93 : decode prog_1_method_5_code 93 = .ok (.invokevirtual 132, 3) := by decide +kernel
theorem d_Rn_convert_96 : decode prog_1_method_5_code 96 = .ok (.aload_n 0, 1) := by decide +kernel
theorem d_Rn_convert_97 : decode prog_1_method_5_code 97 = .ok (.getfield 14, 3) := by decide +kernel
theorem d_Rn_convert_100 : decode prog_1_method_5_code 100 = .ok (.invokevirtual 125, 3) := by decide +kernel
theorem d_Rn_convert_103 : decode prog_1_method_5_code 103 = .ok (.ireturn, 1) := by decide +kernel
theorem d_Rn_at_0 : decode prog_1_method_6_code 0 = .ok (.iload_n 1, 1) := by decide +kernel
theorem d_Rn_at_1 : decode prog_1_method_6_code 1 = .ok (.iconst (-1), 1) := by decide +kernel
theorem d_Rn_at_2 : decode prog_1_method_6_code 2 = .ok (.if_icmp .lt 14, 3) := by decide +kernel
theorem d_Rn_at_5 : decode prog_1_method_6_code 5 = .ok (.iload_n 1, 1) := by decide +kernel
theorem d_Rn_at_6 : decode prog_1_method_6_code 6 = .ok (.aload_n 0, 1) := by decide +kernel
theorem d_Rn_at_7 : decode prog_1_method_6_code 7 = .ok (.getfield 14, 3) := by decide +kernel
theorem d_Rn_at_10 : decode prog_1_method_6_code 10 = .ok (.invokevirtual 125, 3) := by decide +kernel
theorem d_Rn_at_13 : decode prog_1_method_6_code 13 = .ok (.if_icmp .lt 11, 3) := by decide +kernel
theorem d_Rn_at_16 : decode prog_1_method_6_code 16 = .ok (.new 136, 3) := by decide +kernel
theorem d_Rn_at_19 : decode prog_1_method_6_code 19 = .ok (.dup, 1) := by decide +kernel
theorem d_Rn_at_20 : decode prog_1_method_6_code 20 = .ok (.invokespecial 138, 3) := by decide +kernel
theorem d_Rn_at_23 : decode prog_1_method_6_code 23 = .ok (.athrow, 1) := by decide +kernel
theorem d_Rn_at_24 : decode prog_1_method_6_code 24 = .ok (.iload_n 1, 1) := by decide +kernel
theorem d_Rn_at_25 : decode prog_1_method_6_code 25 = .ok (.iconst (-1), 1) := by decide +kernel
theorem d_Rn_at_26 : decode prog_1_method_6_code 26 = .ok (.if_icmp .ne 13, 3) := by decide +kernel
theorem d_Rn_at_29 : decode prog_1_method_6_code 29 = .ok (.aload_n 0, 1) := by decide +kernel
theorem d_Rn_at_30 : decode prog_1_method_6_code 30 = .ok (.getfield 14, 3) := by decide +kernel
theorem d_Rn_at_33 : decode prog_1_method_6_code 33 = .ok (.invokevirtual 125, 3) := by decide +kernel
theorem d_Rn_at_36 : decode prog_1_method_6_code 36 = .ok (.goto 11, 3) := by decide +kernel
theorem d_Rn_at_39 : decode prog_1_method_6_code 39 = .ok (.aload_n 0, 1) := by decide +kernel
theorem d_Rn_at_40 : decode prog_1_method_6_code 40 = .ok (.getfield 14, 3) := by decide +kernel
theorem d_Rn_at_43 : decode prog_1_method_6_code 43 = .ok (.iload_n 1, 1) := by decide +kernel
theorem d_Rn_at_44 : decode prog_1_method_6_code 44 = .ok (.invokevirtual 139, 3) := by decide +kernel
theorem d_Rn_at_47 : decode prog_1_method_6_code 47 = .ok (.ireturn, 1) := by decide +kernel
theorem d_Rn_take_0 : decode prog_1_method_12_code 0 = .ok (.aload_n 0, 1) := by decide +kernel
theorem d_Rn_take_1 : decode prog_1_method_12_code 1 = .ok (.getfield 36, 3) := by decide +kernel
theorem d_Rn_take_4 : decode prog_1_method_12_code 4 = .ok (.invokevirtual 152, 3) := by decide +kernel
theorem d_Rn_take_7 : decode prog_1_method_12_code 7 = .ok (.ifCond .ne 11, 3) := by decide +kernel
theorem d_Rn_take_10 : decode prog_1_method_12_code 10 = .ok (.new 136, 3) := by decide +kernel
theorem d_Rn_take_13 : decode prog_1_method_12_code 13 = .ok (.dup, 1) := by decide +kernel
theorem d_Rn_take_14 : decode prog_1_method_12_code 14 = .ok (.invokespecial 138, 3) := by decide +kernel
theorem d_Rn_take_17 : decode prog_1_method_12_code 17 = .ok (.athrow, 1) := by decide +kernel
theorem d_Rn_take_18 : decode prog_1_method_12_code 18 = .ok (.aload_n 0, 1) := by decide +kernel
theorem d_Rn_take_19 : decode prog_1_method_12_code 19 = .ok (.getfield 36, 3) := by decide +kernel
theorem d_Rn_take_22 : decode prog_1_method_12_code 22 = .ok (.invokevirtual 153, 3) := by decide +kernel
theorem d_Rn_take_25 : decode prog_1_method_12_code 25 = .ok (.ireturn, 1) := by decide +kernel
def ws_Rn_lookAtCommand : List Cond := .code y_Rn_lookAtCommand prog_1_method_32_code 2 none :: TB
def B_Rn_lookAtCommand_60 (s0 : S_Rn) (s1 : S_Bs) (s2 : S_Bs) (s3 : S_Mg) (s4 : S_Ou) (s5 : S_Bs) (s6 : S_Rd) (s7 : S_Tr) : Option (S_Rn × S_Bs × S_Bs × S_Mg × S_Ou × S_Bs × S_Rd × S_Tr) :=
  some (s0, s1, s2, s3, s4, s5, s6, s7)
def B_Rn_lookAtCommand_49 (s0 : S_Rn) (s1 : S_Bs) (s2 : S_Bs) (s3 : S_Mg) (s4 : S_Ou) (s5 : S_Bs) (s6 : S_Rd) (s7 : S_Tr) : Option (S_Rn × S_Bs × S_Bs × S_Mg × S_Ou × S_Bs × S_Rd × S_Tr) :=
  ((F_Mg_reset s3).bind fun o1 => ((F_Rn_breakOff s0 s1 s2 o1 s4 s5).bind fun o3 => (B_Rn_lookAtCommand_60 o3.1 o3.2.1 o3.2.2.1 o3.2.2.2.1 o3.2.2.2.2.1 o3.2.2.2.2.2 s6 s7)))
def B_Rn_lookAtCommand_37 (s0 : S_Rn) (s1 : S_Bs) (s2 : S_Bs) (s3 : S_Mg) (s4 : S_Ou) (s5 : S_Bs) (s6 : S_Rd) (s7 : S_Tr) (y0 : Int32) : Option (S_Rn × S_Bs × S_Bs × S_Mg × S_Ou × S_Bs × S_Rd × S_Tr) :=
  ((F_Bs_reset s5).bind fun o1 => (if y0 = 0 then (B_Rn_lookAtCommand_49 s0 s1 s2 s3 s4 o1 s6 s7) else (B_Rn_lookAtCommand_60 s0 s1 s2 s3 s4 o1 s6 s7)))
def B_Rn_lookAtCommand_36 (s0 : S_Rn) (s1 : S_Bs) (s2 : S_Bs) (s3 : S_Mg) (s4 : S_Ou) (s5 : S_Bs) (s6 : S_Rd) (s7 : S_Tr) : Option (S_Rn × S_Bs × S_Bs × S_Mg × S_Ou × S_Bs × S_Rd × S_Tr) :=
  (B_Rn_lookAtCommand_37 s0 s1 s2 s3 s4 s5 s6 s7 (0 : Int32))
def B_Rn_lookAtCommand_32 (s0 : S_Rn) (s1 : S_Bs) (s2 : S_Bs) (s3 : S_Mg) (s4 : S_Ou) (s5 : S_Bs) (s6 : S_Rd) (s7 : S_Tr) : Option (S_Rn × S_Bs × S_Bs × S_Mg × S_Ou × S_Bs × S_Rd × S_Tr) :=
  (B_Rn_lookAtCommand_37 s0 s1 s2 s3 s4 s5 s6 s7 (1 : Int32))
def B_Rn_lookAtCommand_15 (s0 : S_Rn) (s1 : S_Bs) (s2 : S_Bs) (s3 : S_Mg) (s4 : S_Ou) (s5 : S_Bs) (s6 : S_Rd) (s7 : S_Tr) : Option (S_Rn × S_Bs × S_Bs × S_Mg × S_Ou × S_Bs × S_Rd × S_Tr) :=
  ((F_Rd_tree s6).bind fun o1 => ((F_Mg_understand s3 s7).bind fun o3 => (if o3.1 = 0 then (B_Rn_lookAtCommand_36 s0 s1 s2 o3.2 s4 s5 s6 s7) else (B_Rn_lookAtCommand_32 s0 s1 s2 o3.2 s4 s5 s6 s7))))
def B_Rn_lookAtCommand_0 (s0 : S_Rn) (s1 : S_Bs) (s2 : S_Bs) (s3 : S_Mg) (s4 : S_Ou) (s5 : S_Bs) (s6 : S_Rd) (s7 : S_Tr) : Option (S_Rn × S_Bs × S_Bs × S_Mg × S_Ou × S_Bs × S_Rd × S_Tr) :=
  ((F_Rd_read s6 s7 s5 (1 : Int32)).bind fun o1 => (if o1.1 = 0 then (B_Rn_lookAtCommand_15 s0 s1 s2 s3 s4 s5 o1.2.1 o1.2.2) else (B_Rn_lookAtCommand_36 s0 s1 s2 s3 s4 s5 o1.2.1 o1.2.2)))
def F_Rn_lookAtCommand (s0 : S_Rn) (s1 : S_Bs) (s2 : S_Bs) (s3 : S_Mg) (s4 : S_Ou) (s5 : S_Bs) (s6 : S_Rd) (s7 : S_Tr) : Option (S_Rn × S_Bs × S_Bs × S_Mg × S_Ou × S_Bs × S_Rd × S_Tr) := B_Rn_lookAtCommand_0 s0 s1 s2 s3 s4 s5 s6 s7
set_option maxRecDepth 100000 in
set_option maxHeartbeats 4000000 in
theorem t_Rn_lookAtCommand_60 {p : Program} {l : Launch} {e : Env} {s : State} {m : MethodId} {args : Array Value} {below : List Frame} {meth : Method} {c : Code} {D : va_G} {A : Nat → Prop} {g : Nat → ClassId} {rest : va_W} {K : Nat → Nat → Nat} {g1 : Nat} {ls : Array Slot} {H : Heap} {locs : List Loc} {s0 : S_Rn} {s1 : S_Bs} {s2 : S_Bs} {s3 : S_Mg} {s4 : S_Ou} {s5 : S_Bs} {s6 : S_Rd} {s7 : S_Tr} {out : S_Rn × S_Bs × S_Bs × S_Mg × S_Ou × S_Bs × S_Rd × S_Tr} (X : Cx p s m args meth c prog_1_method_32_code 2 ws_Rn_lookAtCommand R_Rn none D g) (hl : lv_has ls 2 []) (hI : Iw D A (w_Rn g (K 0) (fun j => K (j + 1) 0) s0 ++ (w_Bs g (K 6) s1 ++ (w_Bs g (K 4) s2 ++ (w_Mg g (K 9) s3 ++ (w_Ou g (K 7) s4 ++ (w_Bs g (K 5) s5 ++ (w_Rd g (K 11) (tw (K 14 0) g1) s6 ++ (w_Tr g (K 14) s7 ++ (rest))))))))) H) (hS : va_S A s.heap H locs) (h : B_Rn_lookAtCommand_60  s0 s1 s2 s3 s4 s5 s6 s7 = some out) : W p l e (headSpec ws_Rn_lookAtCommand { frames := 4, cells := 0, slots := 0, locals := 96 }).room s m args below meth c H locs 0 0 (MQ below (QcV D A g (fun (u : Nat) => w_Rn g (K 0) (fun j => K (j + 1) 0) out.1 ++ (w_Bs g (K 6) out.2.1 ++ (w_Bs g (K 4) out.2.2.1 ++ (w_Mg g (K 9) out.2.2.2.1 ++ (w_Ou g (K 7) out.2.2.2.2.1 ++ (w_Bs g (K 5) out.2.2.2.2.2.1 ++ (w_Rd g (K 11) (tw (K 14 0) u) out.2.2.2.2.2.2.1 ++ (w_Tr g (K 14) out.2.2.2.2.2.2.2 ++ (rest)))))))))) args s 0 0 A) (F0 m 60 ls []) := by
  have X1 := X
  obtain ⟨hx, hb, hml, hown, hts, hr, hlocks, hKK⟩ := X1
  have ht : ∀ w ∈ TB, w.before args s = true := fun w h => hts w (List.mem_cons_of_mem _ h)
  have hK := hKK.1
  unfold B_Rn_lookAtCommand_60 at h
  have h9 := Option.some.inj h
  subst h9
  exact W.vret hx hb hr (fun t ht hW => ⟨⟨g1, rfl, trivial, ⟨by rw [ht]; exact hI, hKK.moved hW⟩⟩, hS.F ht⟩) hS.2.2 d_Rn_lookAtCommand_60
set_option maxRecDepth 100000 in
set_option maxHeartbeats 4000000 in
theorem t_Rn_lookAtCommand_49 {p : Program} {l : Launch} {e : Env} {s : State} {m : MethodId} {args : Array Value} {below : List Frame} {meth : Method} {c : Code} {D : va_G} {A : Nat → Prop} {g : Nat → ClassId} {rest : va_W} {K : Nat → Nat → Nat} {g1 : Nat} {ls : Array Slot} {H : Heap} {locs : List Loc} {s0 : S_Rn} {s1 : S_Bs} {s2 : S_Bs} {s3 : S_Mg} {s4 : S_Ou} {s5 : S_Bs} {s6 : S_Rd} {s7 : S_Tr} {out : S_Rn × S_Bs × S_Bs × S_Mg × S_Ou × S_Bs × S_Rd × S_Tr} (X : Cx p s m args meth c prog_1_method_32_code 2 ws_Rn_lookAtCommand R_Rn none D g) (hl : lv_has ls 2 [(0, .ref (K 0 0))]) (hI : Iw D A (w_Rn g (K 0) (fun j => K (j + 1) 0) s0 ++ (w_Bs g (K 6) s1 ++ (w_Bs g (K 4) s2 ++ (w_Mg g (K 9) s3 ++ (w_Ou g (K 7) s4 ++ (w_Bs g (K 5) s5 ++ (w_Rd g (K 11) (tw (K 14 0) g1) s6 ++ (w_Tr g (K 14) s7 ++ (rest))))))))) H) (hS : va_S A s.heap H locs) (h : B_Rn_lookAtCommand_49  s0 s1 s2 s3 s4 s5 s6 s7 = some out) : W p l e (headSpec ws_Rn_lookAtCommand { frames := 4, cells := 0, slots := 0, locals := 96 }).room s m args below meth c H locs 0 0 (MQ below (QcV D A g (fun (u : Nat) => w_Rn g (K 0) (fun j => K (j + 1) 0) out.1 ++ (w_Bs g (K 6) out.2.1 ++ (w_Bs g (K 4) out.2.2.1 ++ (w_Mg g (K 9) out.2.2.2.1 ++ (w_Ou g (K 7) out.2.2.2.2.1 ++ (w_Bs g (K 5) out.2.2.2.2.2.1 ++ (w_Rd g (K 11) (tw (K 14 0) u) out.2.2.2.2.2.2.1 ++ (w_Tr g (K 14) out.2.2.2.2.2.2.2 ++ (rest)))))))))) args s 0 0 A) (F0 m 49 ls []) := by
  have X1 := X
  obtain ⟨hx, hb, hml, hown, hts, hr, hlocks, hKK⟩ := X1
  have ht : ∀ w ∈ TB, w.before args s = true := fun w h => hts w (List.mem_cons_of_mem _ h)
  have hK := hKK.1
  unfold B_Rn_lookAtCommand_49 at h
  refine lv_aload_n hx hb d_Rn_lookAtCommand_49 rfl (lv_at hl 0 rfl) ?_
  refine va_get (D := D) (ci := 8) (v := .ref (K 9 0)) (C := R_Rn) (T := T_Rn) (N := 16) hx hb ht in_Rn hown hK hI.1 0 rfl rfl 8 (by decide) (ht _ m_211) (fun _ h9 => h9) rfl d_Rn_lookAtCommand_50 ?_
  obtain ⟨o1, ho2, h⟩ := bd_s h
  refine cl_v (W1 := fun (_ : Unit) => w_Rn g (K 0) (fun j => K (j + 1) 0) s0 ++ (w_Bs g (K 6) s1 ++ (w_Bs g (K 4) s2 ++ (w_Mg g (K 9) o1 ++ (w_Ou g (K 7) s4 ++ (w_Bs g (K 5) s5 ++ (w_Rd g (K 11) (tw (K 14 0) g1) s6 ++ (w_Tr g (K 14) s7 ++ (rest))))))))) (va_runV (As := []) (rest := []) ⟨hx, hb, hml, hown, ht⟩ (c_Mg_reset (l := l) (D := D) (A := A) (g := g) (rest := w_Rn g (K 0) (fun j => K (j + 1) 0) s0 ++ (w_Bs g (K 6) s1 ++ (w_Bs g (K 4) s2 ++ (w_Ou g (K 7) s4 ++ (w_Bs g (K 5) s5 ++ (w_Rd g (K 11) (tw (K 14 0) g1) s6 ++ (w_Tr g (K 14) s7 ++ (rest)))))))) (a0 := K 9) ho2) (cwV 0 ht (gd_V m_294 m_295 m_296 m_5 m_297) rfl rfl rfl (by decide +kernel) ⟨(Nat.le_of_ble_eq_true rfl), (Nat.le_of_ble_eq_true rfl)⟩) (prV (ci := 3) (q0 := 0) hKK hI (mv_3) rfl rfl rfl) rfl rfl hl.1 rfl (lv_room (Nat.le_of_ble_eq_true rfl)) d_Rn_lookAtCommand_53 ⟨(Nat.le_of_ble_eq_true rfl), (Nat.le_of_ble_eq_true rfl)⟩) hS (fun _ => ((mv_3)).symm) (fun _ H locs hI hS => ?_)
  have hI : Iw D A (w_Rn g (K 0) (fun j => K (j + 1) 0) s0 ++ (w_Bs g (K 6) s1 ++ (w_Bs g (K 4) s2 ++ (w_Mg g (K 9) o1 ++ (w_Ou g (K 7) s4 ++ (w_Bs g (K 5) s5 ++ (w_Rd g (K 11) (tw (K 14 0) g1) s6 ++ (w_Tr g (K 14) s7 ++ (rest))))))))) H := hI
  refine lv_aload_n hx hb d_Rn_lookAtCommand_56 rfl (lv_at hl 0 rfl) ?_
  obtain ⟨o3, ho4, h⟩ := bd_s h
  refine cl_v (W1 := fun (_ : Unit) => w_Rn g (K 0) (fun j => K (j + 1) 0) o3.1 ++ (w_Bs g (K 6) o3.2.1 ++ (w_Bs g (K 4) o3.2.2.1 ++ (w_Mg g (K 9) o3.2.2.2.1 ++ (w_Ou g (K 7) o3.2.2.2.2.1 ++ (w_Bs g (K 5) o3.2.2.2.2.2 ++ (w_Rd g (K 11) (tw (K 14 0) g1) s6 ++ (w_Tr g (K 14) s7 ++ (rest))))))))) (va_runV (As := []) (rest := []) ⟨hx, hb, hml, hown, ht⟩ (c_Rn_breakOff (l := l) (D := D) (A := A) (g := g) (rest := w_Rd g (K 11) (tw (K 14 0) g1) s6 ++ (w_Tr g (K 14) s7 ++ (rest))) (K := K) ho4) (cwV 0 ht (gd_V m_318 m_320 mp_4 m_1 m_321) rfl rfl rfl (by decide +kernel) ⟨(Nat.le_of_ble_eq_true rfl), (Nat.le_of_ble_eq_true rfl)⟩) (prV (ci := 8) (q0 := 0) hKK hI ((mv_5).trans ((mv_5).trans ((mv_5).trans ((mv_5).trans ((mv_5).trans (mv_5)))))) rfl rfl rfl) rfl rfl hl.1 rfl (lv_room (Nat.le_of_ble_eq_true rfl)) d_Rn_lookAtCommand_57 ⟨(Nat.le_of_ble_eq_true rfl), (Nat.le_of_ble_eq_true rfl)⟩) hS (fun _ => (((mv_5).trans ((mv_5).trans ((mv_5).trans ((mv_5).trans ((mv_5).trans (mv_5))))))).symm) (fun _ H locs hI hS => ?_)
  have hI : Iw D A (w_Rn g (K 0) (fun j => K (j + 1) 0) o3.1 ++ (w_Bs g (K 6) o3.2.1 ++ (w_Bs g (K 4) o3.2.2.1 ++ (w_Mg g (K 9) o3.2.2.2.1 ++ (w_Ou g (K 7) o3.2.2.2.2.1 ++ (w_Bs g (K 5) o3.2.2.2.2.2 ++ (w_Rd g (K 11) (tw (K 14 0) g1) s6 ++ (w_Tr g (K 14) s7 ++ (rest))))))))) H := hI
  exact t_Rn_lookAtCommand_60 X (lv_sub hl [] rfl) hI hS h
set_option maxRecDepth 100000 in
set_option maxHeartbeats 4000000 in
theorem t_Rn_lookAtCommand_37 {p : Program} {l : Launch} {e : Env} {s : State} {m : MethodId} {args : Array Value} {below : List Frame} {meth : Method} {c : Code} {D : va_G} {A : Nat → Prop} {g : Nat → ClassId} {rest : va_W} {K : Nat → Nat → Nat} {g1 : Nat} {ls : Array Slot} {H : Heap} {locs : List Loc} {s0 : S_Rn} {s1 : S_Bs} {s2 : S_Bs} {s3 : S_Mg} {s4 : S_Ou} {s5 : S_Bs} {s6 : S_Rd} {s7 : S_Tr} {y0 : Int32} {out : S_Rn × S_Bs × S_Bs × S_Mg × S_Ou × S_Bs × S_Rd × S_Tr} (X : Cx p s m args meth c prog_1_method_32_code 2 ws_Rn_lookAtCommand R_Rn none D g) (hl : lv_has ls 2 [(0, .ref (K 0 0))]) (hI : Iw D A (w_Rn g (K 0) (fun j => K (j + 1) 0) s0 ++ (w_Bs g (K 6) s1 ++ (w_Bs g (K 4) s2 ++ (w_Mg g (K 9) s3 ++ (w_Ou g (K 7) s4 ++ (w_Bs g (K 5) s5 ++ (w_Rd g (K 11) (tw (K 14 0) g1) s6 ++ (w_Tr g (K 14) s7 ++ (rest))))))))) H) (hS : va_S A s.heap H locs) (h : B_Rn_lookAtCommand_37  s0 s1 s2 s3 s4 s5 s6 s7 y0 = some out) : W p l e (headSpec ws_Rn_lookAtCommand { frames := 4, cells := 0, slots := 0, locals := 96 }).room s m args below meth c H locs 0 0 (MQ below (QcV D A g (fun (u : Nat) => w_Rn g (K 0) (fun j => K (j + 1) 0) out.1 ++ (w_Bs g (K 6) out.2.1 ++ (w_Bs g (K 4) out.2.2.1 ++ (w_Mg g (K 9) out.2.2.2.1 ++ (w_Ou g (K 7) out.2.2.2.2.1 ++ (w_Bs g (K 5) out.2.2.2.2.2.1 ++ (w_Rd g (K 11) (tw (K 14 0) u) out.2.2.2.2.2.2.1 ++ (w_Tr g (K 14) out.2.2.2.2.2.2.2 ++ (rest)))))))))) args s 0 0 A) (F0 m 37 ls [.int y0]) := by
  have X1 := X
  obtain ⟨hx, hb, hml, hown, hts, hr, hlocks, hKK⟩ := X1
  have ht : ∀ w ∈ TB, w.before args s = true := fun w h => hts w (List.mem_cons_of_mem _ h)
  have hK := hKK.1
  unfold B_Rn_lookAtCommand_37 at h
  refine lv_istore_n hx hb d_Rn_lookAtCommand_37 rfl hl (Nat.le_of_ble_eq_true rfl) rfl (fun ls hl => ?_)
  have hl : lv_has ls 2 [(1, .int y0), (0, .ref (K 0 0))] := hl
  refine lv_aload_n hx hb d_Rn_lookAtCommand_38 rfl (lv_at hl 1 rfl) ?_
  refine va_get (D := D) (ci := 8) (v := .ref (K 5 0)) (C := R_Rn) (T := T_Rn) (N := 16) hx hb ht in_Rn hown hK hI.1 0 rfl rfl 4 (by decide) (ht _ m_207) (fun _ h9 => h9) rfl d_Rn_lookAtCommand_39 ?_
  obtain ⟨o1, ho2, h⟩ := bd_s h
  refine cl_v (W1 := fun (_ : Unit) => w_Rn g (K 0) (fun j => K (j + 1) 0) s0 ++ (w_Bs g (K 6) s1 ++ (w_Bs g (K 4) s2 ++ (w_Mg g (K 9) s3 ++ (w_Ou g (K 7) s4 ++ (w_Bs g (K 5) o1 ++ (w_Rd g (K 11) (tw (K 14 0) g1) s6 ++ (w_Tr g (K 14) s7 ++ (rest))))))))) (va_runV (As := []) (rest := []) ⟨hx, hb, hml, hown, ht⟩ (c_Bs_reset (l := l) (D := D) (A := A) (g := g) (rest := w_Rn g (K 0) (fun j => K (j + 1) 0) s0 ++ (w_Bs g (K 6) s1 ++ (w_Bs g (K 4) s2 ++ (w_Mg g (K 9) s3 ++ (w_Ou g (K 7) s4 ++ (w_Rd g (K 11) (tw (K 14 0) g1) s6 ++ (w_Tr g (K 14) s7 ++ (rest)))))))) (a0 := K 5) ho2) (cwV 0 ht (gd_V m_274 m_275 m_276 m_2 m_277) rfl rfl rfl (by decide +kernel) ⟨(Nat.le_of_ble_eq_true rfl), (Nat.le_of_ble_eq_true rfl)⟩) (prV (ci := 0) (q0 := 0) hKK hI (mv_5) rfl rfl rfl) rfl rfl hl.1 rfl (lv_room (Nat.le_of_ble_eq_true rfl)) d_Rn_lookAtCommand_42 ⟨(Nat.le_of_ble_eq_true rfl), (Nat.le_of_ble_eq_true rfl)⟩) hS (fun _ => ((mv_5)).symm) (fun _ H locs hI hS => ?_)
  have hI : Iw D A (w_Rn g (K 0) (fun j => K (j + 1) 0) s0 ++ (w_Bs g (K 6) s1 ++ (w_Bs g (K 4) s2 ++ (w_Mg g (K 9) s3 ++ (w_Ou g (K 7) s4 ++ (w_Bs g (K 5) o1 ++ (w_Rd g (K 11) (tw (K 14 0) g1) s6 ++ (w_Tr g (K 14) s7 ++ (rest))))))))) H := hI
  refine lv_iload_n hx hb d_Rn_lookAtCommand_45 rfl (lv_at hl 0 rfl) ?_
  refine lv_if_ne (tgt := 60) hx hb d_Rn_lookAtCommand_46 (by decide) (fun hc => ?_) (fun hc => ?_)
  · have h := it_f h hc
    exact t_Rn_lookAtCommand_60 X (lv_sub hl [] rfl) hI hS h
  · have h := it_t h hc
    exact t_Rn_lookAtCommand_49 X (lv_sub hl [1] rfl) hI hS h
set_option maxRecDepth 100000 in
set_option maxHeartbeats 4000000 in
theorem t_Rn_lookAtCommand_36 {p : Program} {l : Launch} {e : Env} {s : State} {m : MethodId} {args : Array Value} {below : List Frame} {meth : Method} {c : Code} {D : va_G} {A : Nat → Prop} {g : Nat → ClassId} {rest : va_W} {K : Nat → Nat → Nat} {g1 : Nat} {ls : Array Slot} {H : Heap} {locs : List Loc} {s0 : S_Rn} {s1 : S_Bs} {s2 : S_Bs} {s3 : S_Mg} {s4 : S_Ou} {s5 : S_Bs} {s6 : S_Rd} {s7 : S_Tr} {out : S_Rn × S_Bs × S_Bs × S_Mg × S_Ou × S_Bs × S_Rd × S_Tr} (X : Cx p s m args meth c prog_1_method_32_code 2 ws_Rn_lookAtCommand R_Rn none D g) (hl : lv_has ls 2 [(0, .ref (K 0 0))]) (hI : Iw D A (w_Rn g (K 0) (fun j => K (j + 1) 0) s0 ++ (w_Bs g (K 6) s1 ++ (w_Bs g (K 4) s2 ++ (w_Mg g (K 9) s3 ++ (w_Ou g (K 7) s4 ++ (w_Bs g (K 5) s5 ++ (w_Rd g (K 11) (tw (K 14 0) g1) s6 ++ (w_Tr g (K 14) s7 ++ (rest))))))))) H) (hS : va_S A s.heap H locs) (h : B_Rn_lookAtCommand_36  s0 s1 s2 s3 s4 s5 s6 s7 = some out) : W p l e (headSpec ws_Rn_lookAtCommand { frames := 4, cells := 0, slots := 0, locals := 96 }).room s m args below meth c H locs 0 0 (MQ below (QcV D A g (fun (u : Nat) => w_Rn g (K 0) (fun j => K (j + 1) 0) out.1 ++ (w_Bs g (K 6) out.2.1 ++ (w_Bs g (K 4) out.2.2.1 ++ (w_Mg g (K 9) out.2.2.2.1 ++ (w_Ou g (K 7) out.2.2.2.2.1 ++ (w_Bs g (K 5) out.2.2.2.2.2.1 ++ (w_Rd g (K 11) (tw (K 14 0) u) out.2.2.2.2.2.2.1 ++ (w_Tr g (K 14) out.2.2.2.2.2.2.2 ++ (rest)))))))))) args s 0 0 A) (F0 m 36 ls []) := by
  have X1 := X
  obtain ⟨hx, hb, hml, hown, hts, hr, hlocks, hKK⟩ := X1
  have ht : ∀ w ∈ TB, w.before args s = true := fun w h => hts w (List.mem_cons_of_mem _ h)
  have hK := hKK.1
  unfold B_Rn_lookAtCommand_36 at h
  refine lv_iconst (v := 0) hx hb d_Rn_lookAtCommand_36 (by decide) ?_
  exact t_Rn_lookAtCommand_37 X (lv_sub hl [0] rfl) hI hS h
set_option maxRecDepth 100000 in
set_option maxHeartbeats 4000000 in
theorem t_Rn_lookAtCommand_32 {p : Program} {l : Launch} {e : Env} {s : State} {m : MethodId} {args : Array Value} {below : List Frame} {meth : Method} {c : Code} {D : va_G} {A : Nat → Prop} {g : Nat → ClassId} {rest : va_W} {K : Nat → Nat → Nat} {g1 : Nat} {ls : Array Slot} {H : Heap} {locs : List Loc} {s0 : S_Rn} {s1 : S_Bs} {s2 : S_Bs} {s3 : S_Mg} {s4 : S_Ou} {s5 : S_Bs} {s6 : S_Rd} {s7 : S_Tr} {out : S_Rn × S_Bs × S_Bs × S_Mg × S_Ou × S_Bs × S_Rd × S_Tr} (X : Cx p s m args meth c prog_1_method_32_code 2 ws_Rn_lookAtCommand R_Rn none D g) (hl : lv_has ls 2 [(0, .ref (K 0 0))]) (hI : Iw D A (w_Rn g (K 0) (fun j => K (j + 1) 0) s0 ++ (w_Bs g (K 6) s1 ++ (w_Bs g (K 4) s2 ++ (w_Mg g (K 9) s3 ++ (w_Ou g (K 7) s4 ++ (w_Bs g (K 5) s5 ++ (w_Rd g (K 11) (tw (K 14 0) g1) s6 ++ (w_Tr g (K 14) s7 ++ (rest))))))))) H) (hS : va_S A s.heap H locs) (h : B_Rn_lookAtCommand_32  s0 s1 s2 s3 s4 s5 s6 s7 = some out) : W p l e (headSpec ws_Rn_lookAtCommand { frames := 4, cells := 0, slots := 0, locals := 96 }).room s m args below meth c H locs 0 0 (MQ below (QcV D A g (fun (u : Nat) => w_Rn g (K 0) (fun j => K (j + 1) 0) out.1 ++ (w_Bs g (K 6) out.2.1 ++ (w_Bs g (K 4) out.2.2.1 ++ (w_Mg g (K 9) out.2.2.2.1 ++ (w_Ou g (K 7) out.2.2.2.2.1 ++ (w_Bs g (K 5) out.2.2.2.2.2.1 ++ (w_Rd g (K 11) (tw (K 14 0) u) out.2.2.2.2.2.2.1 ++ (w_Tr g (K 14) out.2.2.2.2.2.2.2 ++ (rest)))))))))) args s 0 0 A) (F0 m 32 ls []) := by
  have X1 := X
  obtain ⟨hx, hb, hml, hown, hts, hr, hlocks, hKK⟩ := X1
  have ht : ∀ w ∈ TB, w.before args s = true := fun w h => hts w (List.mem_cons_of_mem _ h)
  have hK := hKK.1
  unfold B_Rn_lookAtCommand_32 at h
  refine lv_iconst (v := 1) hx hb d_Rn_lookAtCommand_32 (by decide) ?_
  refine lv_goto (tgt := 37) hx hb d_Rn_lookAtCommand_33 (by decide) ?_
  exact t_Rn_lookAtCommand_37 X (lv_sub hl [0] rfl) hI hS h
set_option maxRecDepth 100000 in
set_option maxHeartbeats 4000000 in
theorem t_Rn_lookAtCommand_15 {p : Program} {l : Launch} {e : Env} {s : State} {m : MethodId} {args : Array Value} {below : List Frame} {meth : Method} {c : Code} {D : va_G} {A : Nat → Prop} {g : Nat → ClassId} {rest : va_W} {K : Nat → Nat → Nat} {g1 : Nat} {ls : Array Slot} {H : Heap} {locs : List Loc} {s0 : S_Rn} {s1 : S_Bs} {s2 : S_Bs} {s3 : S_Mg} {s4 : S_Ou} {s5 : S_Bs} {s6 : S_Rd} {s7 : S_Tr} {out : S_Rn × S_Bs × S_Bs × S_Mg × S_Ou × S_Bs × S_Rd × S_Tr} (X : Cx p s m args meth c prog_1_method_32_code 2 ws_Rn_lookAtCommand R_Rn none D g) (hl : lv_has ls 2 [(0, .ref (K 0 0))]) (hI : Iw D A (w_Rn g (K 0) (fun j => K (j + 1) 0) s0 ++ (w_Bs g (K 6) s1 ++ (w_Bs g (K 4) s2 ++ (w_Mg g (K 9) s3 ++ (w_Ou g (K 7) s4 ++ (w_Bs g (K 5) s5 ++ (w_Rd g (K 11) (tw (K 14 0) g1) s6 ++ (w_Tr g (K 14) s7 ++ (rest))))))))) H) (hS : va_S A s.heap H locs) (h : B_Rn_lookAtCommand_15  s0 s1 s2 s3 s4 s5 s6 s7 = some out) : W p l e (headSpec ws_Rn_lookAtCommand { frames := 4, cells := 0, slots := 0, locals := 96 }).room s m args below meth c H locs 0 0 (MQ below (QcV D A g (fun (u : Nat) => w_Rn g (K 0) (fun j => K (j + 1) 0) out.1 ++ (w_Bs g (K 6) out.2.1 ++ (w_Bs g (K 4) out.2.2.1 ++ (w_Mg g (K 9) out.2.2.2.1 ++ (w_Ou g (K 7) out.2.2.2.2.1 ++ (w_Bs g (K 5) out.2.2.2.2.2.1 ++ (w_Rd g (K 11) (tw (K 14 0) u) out.2.2.2.2.2.2.1 ++ (w_Tr g (K 14) out.2.2.2.2.2.2.2 ++ (rest)))))))))) args s 0 0 A) (F0 m 15 ls []) := by
  have X1 := X
  obtain ⟨hx, hb, hml, hown, hts, hr, hlocks, hKK⟩ := X1
  have ht : ∀ w ∈ TB, w.before args s = true := fun w h => hts w (List.mem_cons_of_mem _ h)
  have hK := hKK.1
  unfold B_Rn_lookAtCommand_15 at h
  refine lv_aload_n hx hb d_Rn_lookAtCommand_15 rfl (lv_at hl 0 rfl) ?_
  refine va_get (D := D) (ci := 8) (v := .ref (K 9 0)) (C := R_Rn) (T := T_Rn) (N := 16) hx hb ht in_Rn hown hK hI.1 0 rfl rfl 8 (by decide) (ht _ m_211) (fun _ h9 => h9) rfl d_Rn_lookAtCommand_16 ?_
  refine lv_aload_n hx hb d_Rn_lookAtCommand_19 rfl (lv_at hl 0 rfl) ?_
  refine va_get (D := D) (ci := 8) (v := .ref (K 11 0)) (C := R_Rn) (T := T_Rn) (N := 16) hx hb ht in_Rn hown hK hI.1 0 rfl rfl 10 (by decide) (ht _ m_213) (fun _ h9 => h9) rfl d_Rn_lookAtCommand_20 ?_
  obtain ⟨o1, ho2, h⟩ := bd_s h
  refine cl_a (W1 := fun (_ : Unit) => w_Rn g (K 0) (fun j => K (j + 1) 0) s0 ++ (w_Bs g (K 6) s1 ++ (w_Bs g (K 4) s2 ++ (w_Mg g (K 9) s3 ++ (w_Ou g (K 7) s4 ++ (w_Bs g (K 5) s5 ++ (w_Rd g (K 11) (tw (K 14 0) g1) s6 ++ (w_Tr g (K 14) s7 ++ (rest))))))))) (va_runV (As := []) (rest := [.ref (K 9 0)]) ⟨hx, hb, hml, hown, ht⟩ (c_Rd_tree (l := l) (D := D) (A := A) (g := g) (rest := w_Rn g (K 0) (fun j => K (j + 1) 0) s0 ++ (w_Bs g (K 6) s1 ++ (w_Bs g (K 4) s2 ++ (w_Mg g (K 9) s3 ++ (w_Ou g (K 7) s4 ++ (w_Bs g (K 5) s5 ++ (w_Tr g (K 14) s7 ++ (rest)))))))) (a0 := K 11) (a1 := K 14) (sr := fun _ => g1) ho2) (cwV 0 ht (gd_V m_495 m_496 m_497 m_8 m_498) rfl rfl rfl (by decide +kernel) ⟨(Nat.le_of_ble_eq_true rfl), (Nat.le_of_ble_eq_true rfl)⟩) (prV (ci := 5) (q0 := 0) hKK hI (mv_6) rfl rfl rfl) rfl rfl hl.1 rfl (lv_room (Nat.le_of_ble_eq_true rfl)) d_Rn_lookAtCommand_23 ⟨(Nat.le_of_ble_eq_true rfl), (Nat.le_of_ble_eq_true rfl)⟩) hS (fun _ => ((mv_6)).symm) (fun _ H locs hI hS => ?_)
  have hI : Iw D A (w_Rn g (K 0) (fun j => K (j + 1) 0) s0 ++ (w_Bs g (K 6) s1 ++ (w_Bs g (K 4) s2 ++ (w_Mg g (K 9) s3 ++ (w_Ou g (K 7) s4 ++ (w_Bs g (K 5) s5 ++ (w_Rd g (K 11) (tw (K 14 0) g1) s6 ++ (w_Tr g (K 14) s7 ++ (rest))))))))) H := hI
  obtain ⟨o3, ho4, h⟩ := bd_s h
  refine cl_i (W1 := fun (_ : Unit) => w_Rn g (K 0) (fun j => K (j + 1) 0) s0 ++ (w_Bs g (K 6) s1 ++ (w_Bs g (K 4) s2 ++ (w_Mg g (K 9) o3.2 ++ (w_Ou g (K 7) s4 ++ (w_Bs g (K 5) s5 ++ (w_Rd g (K 11) (tw (K 14 0) g1) s6 ++ (w_Tr g (K 14) s7 ++ (rest))))))))) (va_runV (As := [.ref (K 14 0)]) (rest := []) ⟨hx, hb, hml, hown, ht⟩ (c_Mg_understand (l := l) (D := D) (A := A) (g := g) (rest := w_Rn g (K 0) (fun j => K (j + 1) 0) s0 ++ (w_Bs g (K 6) s1 ++ (w_Bs g (K 4) s2 ++ (w_Ou g (K 7) s4 ++ (w_Bs g (K 5) s5 ++ (w_Rd g (K 11) (tw (K 14 0) g1) s6 ++ (rest))))))) (a0 := K 9) (a1 := K 14) ho4) (cwV 1 ht (gd_V m_499 m_500 m_501 m_5 m_502) rfl rfl rfl (by decide +kernel) ⟨(Nat.le_of_ble_eq_true rfl), (Nat.le_of_ble_eq_true rfl)⟩) (prV (ci := 3) (q0 := 0) hKK hI ((mv_7).trans (mv_4)) rfl rfl rfl) rfl rfl hl.1 rfl (lv_room (Nat.le_of_ble_eq_true rfl)) d_Rn_lookAtCommand_26 ⟨(Nat.le_of_ble_eq_true rfl), (Nat.le_of_ble_eq_true rfl)⟩) hS (fun _ => (((mv_7).trans (mv_4))).symm) (fun _ H locs hI hS => ?_)
  have hI : Iw D A (w_Rn g (K 0) (fun j => K (j + 1) 0) s0 ++ (w_Bs g (K 6) s1 ++ (w_Bs g (K 4) s2 ++ (w_Mg g (K 9) o3.2 ++ (w_Ou g (K 7) s4 ++ (w_Bs g (K 5) s5 ++ (w_Rd g (K 11) (tw (K 14 0) g1) s6 ++ (w_Tr g (K 14) s7 ++ (rest))))))))) H := hI
  refine lv_if_eq (tgt := 36) hx hb d_Rn_lookAtCommand_29 (by decide) (fun hc => ?_) (fun hc => ?_)
  · have h := it_t h hc
    exact t_Rn_lookAtCommand_36 X (lv_sub hl [0] rfl) hI hS h
  · have h := it_f h hc
    exact t_Rn_lookAtCommand_32 X (lv_sub hl [0] rfl) hI hS h
set_option maxRecDepth 100000 in
set_option maxHeartbeats 4000000 in
theorem t_Rn_lookAtCommand_0 {p : Program} {l : Launch} {e : Env} {s : State} {m : MethodId} {args : Array Value} {below : List Frame} {meth : Method} {c : Code} {D : va_G} {A : Nat → Prop} {g : Nat → ClassId} {rest : va_W} {K : Nat → Nat → Nat} {g1 : Nat} {ls : Array Slot} {H : Heap} {locs : List Loc} {s0 : S_Rn} {s1 : S_Bs} {s2 : S_Bs} {s3 : S_Mg} {s4 : S_Ou} {s5 : S_Bs} {s6 : S_Rd} {s7 : S_Tr} {out : S_Rn × S_Bs × S_Bs × S_Mg × S_Ou × S_Bs × S_Rd × S_Tr} (X : Cx p s m args meth c prog_1_method_32_code 2 ws_Rn_lookAtCommand R_Rn none D g) (hl : lv_has ls 2 [(0, .ref (K 0 0))]) (hI : Iw D A (w_Rn g (K 0) (fun j => K (j + 1) 0) s0 ++ (w_Bs g (K 6) s1 ++ (w_Bs g (K 4) s2 ++ (w_Mg g (K 9) s3 ++ (w_Ou g (K 7) s4 ++ (w_Bs g (K 5) s5 ++ (w_Rd g (K 11) (tw (K 14 0) g1) s6 ++ (w_Tr g (K 14) s7 ++ (rest))))))))) H) (hS : va_S A s.heap H locs) (h : B_Rn_lookAtCommand_0  s0 s1 s2 s3 s4 s5 s6 s7 = some out) : W p l e (headSpec ws_Rn_lookAtCommand { frames := 4, cells := 0, slots := 0, locals := 96 }).room s m args below meth c H locs 0 0 (MQ below (QcV D A g (fun (u : Nat) => w_Rn g (K 0) (fun j => K (j + 1) 0) out.1 ++ (w_Bs g (K 6) out.2.1 ++ (w_Bs g (K 4) out.2.2.1 ++ (w_Mg g (K 9) out.2.2.2.1 ++ (w_Ou g (K 7) out.2.2.2.2.1 ++ (w_Bs g (K 5) out.2.2.2.2.2.1 ++ (w_Rd g (K 11) (tw (K 14 0) u) out.2.2.2.2.2.2.1 ++ (w_Tr g (K 14) out.2.2.2.2.2.2.2 ++ (rest)))))))))) args s 0 0 A) (F0 m 0 ls []) := by
  have X1 := X
  obtain ⟨hx, hb, hml, hown, hts, hr, hlocks, hKK⟩ := X1
  have ht : ∀ w ∈ TB, w.before args s = true := fun w h => hts w (List.mem_cons_of_mem _ h)
  have hK := hKK.1
  unfold B_Rn_lookAtCommand_0 at h
  refine lv_aload_n hx hb d_Rn_lookAtCommand_0 rfl (lv_at hl 0 rfl) ?_
  refine va_get (D := D) (ci := 8) (v := .ref (K 11 0)) (C := R_Rn) (T := T_Rn) (N := 16) hx hb ht in_Rn hown hK hI.1 0 rfl rfl 10 (by decide) (ht _ m_213) (fun _ h9 => h9) rfl d_Rn_lookAtCommand_1 ?_
  refine lv_aload_n hx hb d_Rn_lookAtCommand_4 rfl (lv_at hl 0 rfl) ?_
  refine va_get (D := D) (ci := 8) (v := .ref (K 5 0)) (C := R_Rn) (T := T_Rn) (N := 16) hx hb ht in_Rn hown hK hI.1 0 rfl rfl 4 (by decide) (ht _ m_207) (fun _ h9 => h9) rfl d_Rn_lookAtCommand_5 ?_
  refine lv_iconst (v := 1) hx hb d_Rn_lookAtCommand_8 (by decide) ?_
  obtain ⟨o1, ho2, h⟩ := bd_s h
  refine cl_i (W1 := fun (_ : Unit) => w_Rn g (K 0) (fun j => K (j + 1) 0) s0 ++ (w_Bs g (K 6) s1 ++ (w_Bs g (K 4) s2 ++ (w_Mg g (K 9) s3 ++ (w_Ou g (K 7) s4 ++ (w_Bs g (K 5) s5 ++ (w_Rd g (K 11) (tw (K 14 0) (K 5 0)) o1.2.1 ++ (w_Tr g (K 14) o1.2.2 ++ (rest))))))))) (va_runV (As := [.ref (K 5 0), .int (1 : Int32)]) (rest := []) ⟨hx, hb, hml, hown, ht⟩ (c_Rd_read (l := l) (D := D) (A := A) (g := g) (rest := w_Rn g (K 0) (fun j => K (j + 1) 0) s0 ++ (w_Bs g (K 6) s1 ++ (w_Bs g (K 4) s2 ++ (w_Mg g (K 9) s3 ++ (w_Ou g (K 7) s4 ++ (rest)))))) (a0 := K 11) (a1 := K 14) (a2 := K 5) (u0 := g1) ho2) (cwV 2 ht (gd_V m_412 m_413 m_414 m_8 m_415) rfl rfl rfl (by decide +kernel) ⟨(Nat.le_of_ble_eq_true rfl), (Nat.le_of_ble_eq_true rfl)⟩) (prV (ci := 5) (q0 := 0) hKK hI ((mv_5).trans ((mv_7).trans (mv_7))) rfl rfl rfl) rfl rfl hl.1 rfl (lv_room (Nat.le_of_ble_eq_true rfl)) d_Rn_lookAtCommand_9 ⟨(Nat.le_of_ble_eq_true rfl), (Nat.le_of_ble_eq_true rfl)⟩) hS (fun _ => (((mv_5).trans ((mv_7).trans (mv_7)))).symm) (fun _ H locs hI hS => ?_)
  have hI : Iw D A (w_Rn g (K 0) (fun j => K (j + 1) 0) s0 ++ (w_Bs g (K 6) s1 ++ (w_Bs g (K 4) s2 ++ (w_Mg g (K 9) s3 ++ (w_Ou g (K 7) s4 ++ (w_Bs g (K 5) s5 ++ (w_Rd g (K 11) (tw (K 14 0) (K 5 0)) o1.2.1 ++ (w_Tr g (K 14) o1.2.2 ++ (rest))))))))) H := hI
  refine lv_if_ne (tgt := 36) hx hb d_Rn_lookAtCommand_12 (by decide) (fun hc => ?_) (fun hc => ?_)
  · have h := it_f h hc
    exact t_Rn_lookAtCommand_36 X (lv_sub hl [0] rfl) hI hS h
  · have h := it_t h hc
    exact t_Rn_lookAtCommand_15 X (lv_sub hl [0] rfl) hI hS h
set_option maxRecDepth 100000 in
set_option maxHeartbeats 4000000 in
theorem c_Rn_lookAtCommand {l : Launch} {D : va_G} {A : Nat → Prop} {g : Nat → ClassId} {rest : va_W} {K : Nat → Nat → Nat} {g1 : Nat} {s0 : S_Rn} {s1 : S_Bs} {s2 : S_Bs} {s3 : S_Mg} {s4 : S_Ou} {s5 : S_Bs} {s6 : S_Rd} {s7 : S_Tr} {out : S_Rn × S_Bs × S_Bs × S_Mg × S_Ou × S_Bs × S_Rd × S_Tr} (h : F_Rn_lookAtCommand s0 s1 s2 s3 s4 s5 s6 s7 = some out) : Met l y_Rn_lookAtCommand ws_Rn_lookAtCommand { frames := 4, cells := 0, slots := 0, locals := 96 } (PcW D A g [.ref (K 0 0)] (w_Rn g (K 0) (fun j => K (j + 1) 0) s0 ++ (w_Bs g (K 6) s1 ++ (w_Bs g (K 4) s2 ++ (w_Mg g (K 9) s3 ++ (w_Ou g (K 7) s4 ++ (w_Bs g (K 5) s5 ++ (w_Rd g (K 11) (tw (K 14 0) g1) s6 ++ (w_Tr g (K 14) s7 ++ (rest)))))))))) (QcV D A g (fun (u : Nat) => w_Rn g (K 0) (fun j => K (j + 1) 0) out.1 ++ (w_Bs g (K 6) out.2.1 ++ (w_Bs g (K 4) out.2.2.1 ++ (w_Mg g (K 9) out.2.2.2.1 ++ (w_Ou g (K 7) out.2.2.2.2.1 ++ (w_Bs g (K 5) out.2.2.2.2.2.1 ++ (w_Rd g (K 11) (tw (K 14 0) u) out.2.2.2.2.2.2.1 ++ (w_Tr g (K 14) out.2.2.2.2.2.2.2 ++ (rest)))))))))) 0 0 A := by
  refine Met.ofW (cc := prog_1_method_32_code) (maxL := 2) (ret := none) (by decide) rfl ?_
  intro p e s m args below meth c s₁ B hml hv
  obtain ⟨rfl, hI, hK⟩ := hv
  have hl := lv_entry [.ref (K 0 0)] (n := 2) (Nat.le_of_ble_eq_true rfl)
  rw [lg_entry_eq]
  generalize (lg_sl [.ref (K 0 0)] ++ List.replicate (2 - (lg_sl [.ref (K 0 0)]).length) Slot.unset).toArray = ls at hl ⊢
  have hl : lv_has ls 2 [(0, .ref (K 0 0))] := hl
  exact t_Rn_lookAtCommand_0 ⟨B.exec, B.bytes, hml, findClass_of_methodNamed B.named, atoms_spec (ws := ws_Rn_lookAtCommand) B.pre, B.returns, B.notSynchronized, hK⟩ (lv_sub hl [0] rfl) hI va_S.rf h
def ws_Rn_startData : List Cond := .code y_Rn_startData prog_1_method_35_code 2 none :: TB
def B_Rn_startData_0 (s0 : S_Rn) (s2 : S_Cs) (s3 : S_Mg) (s1 : S_Bs) (x1 : Int32) : Option S_Bs :=
  ((F_Bs_reset s1).bind fun o1 => ((F_Mg_contextIndex s3).bind fun o3 => ((F_Cs_id s2 o3).bind fun o5 => ((F_Bs_append o1 o5).bind fun o7 => ((F_Bs_append o7 x1).bind fun o9 => some o9)))))
def F_Rn_startData (s0 : S_Rn) (s1 : S_Bs) (s2 : S_Cs) (s3 : S_Mg) (x1 : Int32) : Option S_Bs := B_Rn_startData_0 s0 s2 s3 s1 x1
set_option maxRecDepth 100000 in
set_option maxHeartbeats 4000000 in
theorem t_Rn_startData_0 {p : Program} {l : Launch} {e : Env} {s : State} {m : MethodId} {args : Array Value} {below : List Frame} {meth : Method} {c : Code} {D : va_G} {A : Nat → Prop} {g : Nat → ClassId} {rest : va_W} {K : Nat → Nat → Nat} {ls : Array Slot} {H : Heap} {locs : List Loc} {s0 : S_Rn} {s2 : S_Cs} {s3 : S_Mg} {s1 : S_Bs} {x1 : Int32} {out : S_Bs} (X : Cx p s m args meth c prog_1_method_35_code 2 ws_Rn_startData R_Rn none D g) (hl : lv_has ls 2 [(0, .ref (K 0 0)), (1, .int x1)]) (hI : Iw D A (w_Rn g (K 0) (fun j => K (j + 1) 0) s0 ++ (w_Bs g (K 6) s1 ++ (w_Cs g (K 8) s2 ++ (w_Mg g (K 9) s3 ++ (rest))))) H) (hS : va_S A s.heap H locs) (h : B_Rn_startData_0  s0 s2 s3 s1 x1 = some out) : W p l e (headSpec ws_Rn_startData { frames := 2, cells := 0, slots := 0, locals := 42 }).room s m args below meth c H locs 0 0 (MQ below (QcV D A g (fun (_ : Unit) => w_Rn g (K 0) (fun j => K (j + 1) 0) s0 ++ (w_Bs g (K 6) out ++ (w_Cs g (K 8) s2 ++ (w_Mg g (K 9) s3 ++ (rest)))))) args s 0 0 A) (F0 m 0 ls []) := by
  have X1 := X
  obtain ⟨hx, hb, hml, hown, hts, hr, hlocks, hKK⟩ := X1
  have ht : ∀ w ∈ TB, w.before args s = true := fun w h => hts w (List.mem_cons_of_mem _ h)
  have hK := hKK.1
  unfold B_Rn_startData_0 at h
  refine lv_aload_n hx hb d_Rn_startData_0 rfl (lv_at hl 0 rfl) ?_
  refine va_get (D := D) (ci := 8) (v := .ref (K 6 0)) (C := R_Rn) (T := T_Rn) (N := 16) hx hb ht in_Rn hown hK hI.1 0 rfl rfl 5 (by decide) (ht _ m_208) (fun _ h9 => h9) rfl d_Rn_startData_1 ?_
  obtain ⟨o1, ho2, h⟩ := bd_s h
  refine cl_v (W1 := fun (_ : Unit) => w_Rn g (K 0) (fun j => K (j + 1) 0) s0 ++ (w_Bs g (K 6) o1 ++ (w_Cs g (K 8) s2 ++ (w_Mg g (K 9) s3 ++ (rest))))) (va_runV (As := []) (rest := []) ⟨hx, hb, hml, hown, ht⟩ (c_Bs_reset (l := l) (D := D) (A := A) (g := g) (rest := w_Rn g (K 0) (fun j => K (j + 1) 0) s0 ++ (w_Cs g (K 8) s2 ++ (w_Mg g (K 9) s3 ++ (rest)))) (a0 := K 6) ho2) (cwV 0 ht (gd_V m_274 m_275 m_276 m_2 m_277) rfl rfl rfl (by decide +kernel) ⟨(Nat.le_of_ble_eq_true rfl), (Nat.le_of_ble_eq_true rfl)⟩) (prV (ci := 0) (q0 := 0) hKK hI (mv_1) rfl rfl rfl) rfl rfl hl.1 rfl (lv_room (Nat.le_of_ble_eq_true rfl)) d_Rn_startData_4 ⟨(Nat.le_of_ble_eq_true rfl), (Nat.le_of_ble_eq_true rfl)⟩) hS (fun _ => ((mv_1)).symm) (fun _ H locs hI hS => ?_)
  have hI : Iw D A (w_Rn g (K 0) (fun j => K (j + 1) 0) s0 ++ (w_Bs g (K 6) o1 ++ (w_Cs g (K 8) s2 ++ (w_Mg g (K 9) s3 ++ (rest))))) H := hI
  refine lv_aload_n hx hb d_Rn_startData_7 rfl (lv_at hl 0 rfl) ?_
  refine va_get (D := D) (ci := 8) (v := .ref (K 6 0)) (C := R_Rn) (T := T_Rn) (N := 16) hx hb ht in_Rn hown hK hI.1 0 rfl rfl 5 (by decide) (ht _ m_208) (fun _ h9 => h9) rfl d_Rn_startData_8 ?_
  refine lv_aload_n hx hb d_Rn_startData_11 rfl (lv_at hl 0 rfl) ?_
  refine va_get (D := D) (ci := 8) (v := .ref (K 8 0)) (C := R_Rn) (T := T_Rn) (N := 16) hx hb ht in_Rn hown hK hI.1 0 rfl rfl 7 (by decide) (ht _ m_210) (fun _ h9 => h9) rfl d_Rn_startData_12 ?_
  refine lv_aload_n hx hb d_Rn_startData_15 rfl (lv_at hl 0 rfl) ?_
  refine va_get (D := D) (ci := 8) (v := .ref (K 9 0)) (C := R_Rn) (T := T_Rn) (N := 16) hx hb ht in_Rn hown hK hI.1 0 rfl rfl 8 (by decide) (ht _ m_211) (fun _ h9 => h9) rfl d_Rn_startData_16 ?_
  obtain ⟨o3, ho4, h⟩ := bd_s h
  refine cl_i (W1 := fun (_ : Unit) => w_Rn g (K 0) (fun j => K (j + 1) 0) s0 ++ (w_Bs g (K 6) o1 ++ (w_Cs g (K 8) s2 ++ (w_Mg g (K 9) s3 ++ (rest))))) (va_runV (As := []) (rest := [.ref (K 8 0), .ref (K 6 0)]) ⟨hx, hb, hml, hown, ht⟩ (c_Mg_contextIndex (l := l) (D := D) (A := A) (g := g) (rest := w_Rn g (K 0) (fun j => K (j + 1) 0) s0 ++ (w_Bs g (K 6) o1 ++ (w_Cs g (K 8) s2 ++ (rest)))) (a0 := K 9) ho4) (cwV 0 ht (gd_V m_527 m_528 m_529 m_5 m_530) rfl rfl rfl (by decide +kernel) ⟨(Nat.le_of_ble_eq_true rfl), (Nat.le_of_ble_eq_true rfl)⟩) (prV (ci := 3) (q0 := 0) hKK hI (mv_3) rfl rfl rfl) rfl rfl hl.1 rfl (lv_room (Nat.le_of_ble_eq_true rfl)) d_Rn_startData_19 ⟨(Nat.le_of_ble_eq_true rfl), (Nat.le_of_ble_eq_true rfl)⟩) hS (fun _ => ((mv_3)).symm) (fun _ H locs hI hS => ?_)
  have hI : Iw D A (w_Rn g (K 0) (fun j => K (j + 1) 0) s0 ++ (w_Bs g (K 6) o1 ++ (w_Cs g (K 8) s2 ++ (w_Mg g (K 9) s3 ++ (rest))))) H := hI
  obtain ⟨o5, ho6, h⟩ := bd_s h
  refine cl_i (W1 := fun (_ : Unit) => w_Rn g (K 0) (fun j => K (j + 1) 0) s0 ++ (w_Bs g (K 6) o1 ++ (w_Cs g (K 8) s2 ++ (w_Mg g (K 9) s3 ++ (rest))))) (va_runV (As := [.int o3]) (rest := [.ref (K 6 0)]) ⟨hx, hb, hml, hown, ht⟩ (c_Cs_id (l := l) (D := D) (A := A) (g := g) (rest := w_Rn g (K 0) (fun j => K (j + 1) 0) s0 ++ (w_Bs g (K 6) o1 ++ (w_Mg g (K 9) s3 ++ (rest)))) (a0 := K 8) ho6) (cwV 1 ht (gd_V m_367 m_368 m_369 m_4 m_370) rfl rfl rfl (by decide +kernel) ⟨(Nat.le_of_ble_eq_true rfl), (Nat.le_of_ble_eq_true rfl)⟩) (prV (ci := 1) (q0 := 0) hKK hI (mv_2) rfl rfl rfl) rfl rfl hl.1 rfl (lv_room (Nat.le_of_ble_eq_true rfl)) d_Rn_startData_22 ⟨(Nat.le_of_ble_eq_true rfl), (Nat.le_of_ble_eq_true rfl)⟩) hS (fun _ => ((mv_2)).symm) (fun _ H locs hI hS => ?_)
  have hI : Iw D A (w_Rn g (K 0) (fun j => K (j + 1) 0) s0 ++ (w_Bs g (K 6) o1 ++ (w_Cs g (K 8) s2 ++ (w_Mg g (K 9) s3 ++ (rest))))) H := hI
  obtain ⟨o7, ho8, h⟩ := bd_s h
  refine cl_v (W1 := fun (_ : Unit) => w_Rn g (K 0) (fun j => K (j + 1) 0) s0 ++ (w_Bs g (K 6) o7 ++ (w_Cs g (K 8) s2 ++ (w_Mg g (K 9) s3 ++ (rest))))) (va_runV (As := [.int o5]) (rest := []) ⟨hx, hb, hml, hown, ht⟩ (c_Bs_append (l := l) (D := D) (A := A) (g := g) (rest := w_Rn g (K 0) (fun j => K (j + 1) 0) s0 ++ (w_Cs g (K 8) s2 ++ (w_Mg g (K 9) s3 ++ (rest)))) (a0 := K 6) ho8) (cwV 1 ht (gd_V m_266 m_267 m_268 m_2 m_269) rfl rfl rfl (by decide +kernel) ⟨(Nat.le_of_ble_eq_true rfl), (Nat.le_of_ble_eq_true rfl)⟩) (prV (ci := 0) (q0 := 0) hKK hI (mv_1) rfl rfl rfl) rfl rfl hl.1 rfl (lv_room (Nat.le_of_ble_eq_true rfl)) d_Rn_startData_25 ⟨(Nat.le_of_ble_eq_true rfl), (Nat.le_of_ble_eq_true rfl)⟩) hS (fun _ => ((mv_1)).symm) (fun _ H locs hI hS => ?_)
  have hI : Iw D A (w_Rn g (K 0) (fun j => K (j + 1) 0) s0 ++ (w_Bs g (K 6) o7 ++ (w_Cs g (K 8) s2 ++ (w_Mg g (K 9) s3 ++ (rest))))) H := hI
  refine lv_aload_n hx hb d_Rn_startData_28 rfl (lv_at hl 0 rfl) ?_
  refine va_get (D := D) (ci := 8) (v := .ref (K 6 0)) (C := R_Rn) (T := T_Rn) (N := 16) hx hb ht in_Rn hown hK hI.1 0 rfl rfl 5 (by decide) (ht _ m_208) (fun _ h9 => h9) rfl d_Rn_startData_29 ?_
  refine lv_iload_n hx hb d_Rn_startData_32 rfl (lv_at hl 1 rfl) ?_
  obtain ⟨o9, ho10, h⟩ := bd_s h
  refine cl_v (W1 := fun (_ : Unit) => w_Rn g (K 0) (fun j => K (j + 1) 0) s0 ++ (w_Bs g (K 6) o9 ++ (w_Cs g (K 8) s2 ++ (w_Mg g (K 9) s3 ++ (rest))))) (va_runV (As := [.int x1]) (rest := []) ⟨hx, hb, hml, hown, ht⟩ (c_Bs_append (l := l) (D := D) (A := A) (g := g) (rest := w_Rn g (K 0) (fun j => K (j + 1) 0) s0 ++ (w_Cs g (K 8) s2 ++ (w_Mg g (K 9) s3 ++ (rest)))) (a0 := K 6) ho10) (cwV 1 ht (gd_V m_266 m_267 m_268 m_2 m_269) rfl rfl rfl (by decide +kernel) ⟨(Nat.le_of_ble_eq_true rfl), (Nat.le_of_ble_eq_true rfl)⟩) (prV (ci := 0) (q0 := 0) hKK hI (mv_1) rfl rfl rfl) rfl rfl hl.1 rfl (lv_room (Nat.le_of_ble_eq_true rfl)) d_Rn_startData_33 ⟨(Nat.le_of_ble_eq_true rfl), (Nat.le_of_ble_eq_true rfl)⟩) hS (fun _ => ((mv_1)).symm) (fun _ H locs hI hS => ?_)
  have hI : Iw D A (w_Rn g (K 0) (fun j => K (j + 1) 0) s0 ++ (w_Bs g (K 6) o9 ++ (w_Cs g (K 8) s2 ++ (w_Mg g (K 9) s3 ++ (rest))))) H := hI
  have h9 := Option.some.inj h
  subst h9
  exact W.vret hx hb hr (fun t ht hW => ⟨⟨(), rfl, trivial, ⟨by rw [ht]; exact hI, hKK.moved hW⟩⟩, hS.F ht⟩) hS.2.2 d_Rn_startData_36
set_option maxRecDepth 100000 in
set_option maxHeartbeats 4000000 in
theorem c_Rn_startData {l : Launch} {D : va_G} {A : Nat → Prop} {g : Nat → ClassId} {rest : va_W} {K : Nat → Nat → Nat} {s0 : S_Rn} {s1 : S_Bs} {s2 : S_Cs} {s3 : S_Mg} {x1 : Int32} {out : S_Bs} (h : F_Rn_startData s0 s1 s2 s3 x1 = some out) : Met l y_Rn_startData ws_Rn_startData { frames := 2, cells := 0, slots := 0, locals := 42 } (PcW D A g [.ref (K 0 0), .int x1] (w_Rn g (K 0) (fun j => K (j + 1) 0) s0 ++ (w_Bs g (K 6) s1 ++ (w_Cs g (K 8) s2 ++ (w_Mg g (K 9) s3 ++ (rest)))))) (QcV D A g (fun (_ : Unit) => w_Rn g (K 0) (fun j => K (j + 1) 0) s0 ++ (w_Bs g (K 6) out ++ (w_Cs g (K 8) s2 ++ (w_Mg g (K 9) s3 ++ (rest)))))) 0 0 A := by
  refine Met.ofW (cc := prog_1_method_35_code) (maxL := 2) (ret := none) (by decide) rfl ?_
  intro p e s m args below meth c s₁ B hml hv
  obtain ⟨rfl, hI, hK⟩ := hv
  have hl := lv_entry [.ref (K 0 0), .int x1] (n := 2) (Nat.le_of_ble_eq_true rfl)
  rw [lg_entry_eq]
  generalize (lg_sl [.ref (K 0 0), .int x1] ++ List.replicate (2 - (lg_sl [.ref (K 0 0), .int x1]).length) Slot.unset).toArray = ls at hl ⊢
  have hl : lv_has ls 2 [(0, .ref (K 0 0)), (1, .int x1)] := hl
  exact t_Rn_startData_0 ⟨B.exec, B.bytes, hml, findClass_of_methodNamed B.named, atoms_spec (ws := ws_Rn_startData) B.pre, B.returns, B.notSynchronized, hK⟩ (lv_sub hl [0, 1] rfl) hI va_S.rf h
def ws_Rn_reply : List Cond := .code y_Rn_reply prog_1_method_34_code 3 none :: TB
def B_Rn_reply_50 (s2 : S_Cs) (s0 : S_Rn) (s1 : S_Bs) (s3 : S_Bs) (s4 : S_Mg) (s5 : S_Ou) (s6 : S_Bs) (x1 : Int32) (y0 : Int32) (y1 : Int32) : Option (S_Rn × S_Bs × S_Bs × S_Mg × S_Ou × S_Bs) :=
  ((F_Tr_writeNumber s1 y1 y0 (1 : Int32)).bind fun o1 => ((F_Tr_writeNumber o1 (4 : Int32) x1 (1 : Int32)).bind fun o3 => ((F_Rn_put s0 o3 s3 s4 s5 s6 (4 : Int32)).bind fun o5 => some (o5.2.1, o3, o5.2.2.1, o5.2.2.2.1, o5.2.2.2.2.1, o5.2.2.2.2.2))))
def B_Rn_reply_49 (s2 : S_Cs) (s0 : S_Rn) (s1 : S_Bs) (s3 : S_Bs) (s4 : S_Mg) (s5 : S_Ou) (s6 : S_Bs) (x1 : Int32) (y0 : Int32) : Option (S_Rn × S_Bs × S_Bs × S_Mg × S_Ou × S_Bs) :=
  (B_Rn_reply_50 s2 s0 s1 s3 s4 s5 s6 x1 (0 : Int32) y0)
def B_Rn_reply_45 (s2 : S_Cs) (s0 : S_Rn) (s1 : S_Bs) (s3 : S_Bs) (s4 : S_Mg) (s5 : S_Ou) (s6 : S_Bs) (x1 : Int32) (y0 : Int32) : Option (S_Rn × S_Bs × S_Bs × S_Mg × S_Ou × S_Bs) :=
  (B_Rn_reply_50 s2 s0 s1 s3 s4 s5 s6 x1 (1 : Int32) y0)
def B_Rn_reply_0 (s2 : S_Cs) (s0 : S_Rn) (s1 : S_Bs) (s3 : S_Bs) (s4 : S_Mg) (s5 : S_Ou) (s6 : S_Bs) (x1 : Int32) (x2 : Int32) : Option (S_Rn × S_Bs × S_Bs × S_Mg × S_Ou × S_Bs) :=
  ((F_Rn_startData s0 s1 s2 s4 (3 : Int32)).bind fun o1 => ((F_Mg_kind s4).bind fun o3 => ((F_Tr_writeNumber o1 (1 : Int32) (o3 + (16 : Int32)) (1 : Int32)).bind fun o5 => ((F_Mg_number s4).bind fun o7 => ((F_Tr_writeNumber o5 (2 : Int32) o7 (1 : Int32)).bind fun o9 => (if x2 = 0 then (B_Rn_reply_49 s2 s0 o9 s3 s4 s5 s6 x1 (3 : Int32)) else (B_Rn_reply_45 s2 s0 o9 s3 s4 s5 s6 x1 (3 : Int32))))))))
def F_Rn_reply (s0 : S_Rn) (s1 : S_Bs) (s2 : S_Cs) (s3 : S_Bs) (s4 : S_Mg) (s5 : S_Ou) (s6 : S_Bs) (x1 : Int32) (x2 : Int32) : Option (S_Rn × S_Bs × S_Bs × S_Mg × S_Ou × S_Bs) := B_Rn_reply_0 s2 s0 s1 s3 s4 s5 s6 x1 x2
set_option maxRecDepth 100000 in
set_option maxHeartbeats 4000000 in
theorem t_Rn_reply_50 {p : Program} {l : Launch} {e : Env} {s : State} {m : MethodId} {args : Array Value} {below : List Frame} {meth : Method} {c : Code} {D : va_G} {A : Nat → Prop} {g : Nat → ClassId} {rest : va_W} {K : Nat → Nat → Nat} {ls : Array Slot} {H : Heap} {locs : List Loc} {s2 : S_Cs} {s0 : S_Rn} {s1 : S_Bs} {s3 : S_Bs} {s4 : S_Mg} {s5 : S_Ou} {s6 : S_Bs} {x1 : Int32} {y0 : Int32} {y1 : Int32} {out : S_Rn × S_Bs × S_Bs × S_Mg × S_Ou × S_Bs} (X : Cx p s m args meth c prog_1_method_34_code 3 ws_Rn_reply R_Rn none D g) (hl : lv_has ls 3 [(0, .ref (K 0 0)), (1, .int x1)]) (hI : Iw D A (w_Rn g (K 0) (fun j => K (j + 1) 0) s0 ++ (w_Bs g (K 6) s1 ++ (w_Cs g (K 8) s2 ++ (w_Bs g (K 4) s3 ++ (w_Mg g (K 9) s4 ++ (w_Ou g (K 7) s5 ++ (w_Bs g (K 5) s6 ++ (rest)))))))) H) (hS : va_S A s.heap H locs) (h : B_Rn_reply_50  s2 s0 s1 s3 s4 s5 s6 x1 y0 y1 = some out) : W p l e (headSpec ws_Rn_reply { frames := 3, cells := 0, slots := 0, locals := 63 }).room s m args below meth c H locs 0 0 (MQ below (QcV D A g (fun (_ : Unit) => w_Rn g (K 0) (fun j => K (j + 1) 0) out.1 ++ (w_Bs g (K 6) out.2.1 ++ (w_Cs g (K 8) s2 ++ (w_Bs g (K 4) out.2.2.1 ++ (w_Mg g (K 9) out.2.2.2.1 ++ (w_Ou g (K 7) out.2.2.2.2.1 ++ (w_Bs g (K 5) out.2.2.2.2.2 ++ (rest))))))))) args s 0 0 A) (F0 m 50 ls [.int y0, .int y1]) := by
  have X1 := X
  obtain ⟨hx, hb, hml, hown, hts, hr, hlocks, hKK⟩ := X1
  have ht : ∀ w ∈ TB, w.before args s = true := fun w h => hts w (List.mem_cons_of_mem _ h)
  have hK := hKK.1
  unfold B_Rn_reply_50 at h
  refine lv_iconst (v := 1) hx hb d_Rn_reply_50 (by decide) ?_
  refine lv_aload_n hx hb d_Rn_reply_51 rfl (lv_at hl 0 rfl) ?_
  refine va_get (D := D) (ci := 8) (v := .ref (K 6 0)) (C := R_Rn) (T := T_Rn) (N := 16) hx hb ht in_Rn hown hK hI.1 0 rfl rfl 5 (by decide) (ht _ m_208) (fun _ h9 => h9) rfl d_Rn_reply_52 ?_
  obtain ⟨o1, ho2, h⟩ := bd_s h
  refine cl_v (W1 := fun (_ : Unit) => w_Rn g (K 0) (fun j => K (j + 1) 0) s0 ++ (w_Bs g (K 6) o1 ++ (w_Cs g (K 8) s2 ++ (w_Bs g (K 4) s3 ++ (w_Mg g (K 9) s4 ++ (w_Ou g (K 7) s5 ++ (w_Bs g (K 5) s6 ++ (rest)))))))) (va_runS (As := [.int y1, .int y0, .int (1 : Int32), .ref (K 6 0)]) (rest := []) ⟨hx, hb, hml, hown, ht⟩ (c_Tr_writeNumber (l := l) (D := D) (A := A) (g := g) (rest := w_Rn g (K 0) (fun j => K (j + 1) 0) s0 ++ (w_Cs g (K 8) s2 ++ (w_Bs g (K 4) s3 ++ (w_Mg g (K 9) s4 ++ (w_Ou g (K 7) s5 ++ (w_Bs g (K 5) s6 ++ (rest))))))) (a0 := K 6) ho2) (va_cwS 4 ht (gd_S m_551 m_552 m_9 m_553) rfl rfl rfl (by decide +kernel) ⟨(Nat.le_of_ble_eq_true rfl), (Nat.le_of_ble_eq_true rfl)⟩) (prS hKK hI (mv_1)) rfl rfl hl.1 rfl (lv_room (Nat.le_of_ble_eq_true rfl)) d_Rn_reply_55 ⟨(Nat.le_of_ble_eq_true rfl), (Nat.le_of_ble_eq_true rfl)⟩) hS (fun _ => ((mv_1)).symm) (fun _ H locs hI hS => ?_)
  have hI : Iw D A (w_Rn g (K 0) (fun j => K (j + 1) 0) s0 ++ (w_Bs g (K 6) o1 ++ (w_Cs g (K 8) s2 ++ (w_Bs g (K 4) s3 ++ (w_Mg g (K 9) s4 ++ (w_Ou g (K 7) s5 ++ (w_Bs g (K 5) s6 ++ (rest)))))))) H := hI
  refine lv_iconst (v := 4) hx hb d_Rn_reply_58 (by decide) ?_
  refine lv_iload_n hx hb d_Rn_reply_59 rfl (lv_at hl 1 rfl) ?_
  refine lv_iconst (v := 1) hx hb d_Rn_reply_60 (by decide) ?_
  refine lv_aload_n hx hb d_Rn_reply_61 rfl (lv_at hl 0 rfl) ?_
  refine va_get (D := D) (ci := 8) (v := .ref (K 6 0)) (C := R_Rn) (T := T_Rn) (N := 16) hx hb ht in_Rn hown hK hI.1 0 rfl rfl 5 (by decide) (ht _ m_208) (fun _ h9 => h9) rfl d_Rn_reply_62 ?_
  obtain ⟨o3, ho4, h⟩ := bd_s h
  refine cl_v (W1 := fun (_ : Unit) => w_Rn g (K 0) (fun j => K (j + 1) 0) s0 ++ (w_Bs g (K 6) o3 ++ (w_Cs g (K 8) s2 ++ (w_Bs g (K 4) s3 ++ (w_Mg g (K 9) s4 ++ (w_Ou g (K 7) s5 ++ (w_Bs g (K 5) s6 ++ (rest)))))))) (va_runS (As := [.int (4 : Int32), .int x1, .int (1 : Int32), .ref (K 6 0)]) (rest := []) ⟨hx, hb, hml, hown, ht⟩ (c_Tr_writeNumber (l := l) (D := D) (A := A) (g := g) (rest := w_Rn g (K 0) (fun j => K (j + 1) 0) s0 ++ (w_Cs g (K 8) s2 ++ (w_Bs g (K 4) s3 ++ (w_Mg g (K 9) s4 ++ (w_Ou g (K 7) s5 ++ (w_Bs g (K 5) s6 ++ (rest))))))) (a0 := K 6) ho4) (va_cwS 4 ht (gd_S m_551 m_552 m_9 m_553) rfl rfl rfl (by decide +kernel) ⟨(Nat.le_of_ble_eq_true rfl), (Nat.le_of_ble_eq_true rfl)⟩) (prS hKK hI (mv_1)) rfl rfl hl.1 rfl (lv_room (Nat.le_of_ble_eq_true rfl)) d_Rn_reply_65 ⟨(Nat.le_of_ble_eq_true rfl), (Nat.le_of_ble_eq_true rfl)⟩) hS (fun _ => ((mv_1)).symm) (fun _ H locs hI hS => ?_)
  have hI : Iw D A (w_Rn g (K 0) (fun j => K (j + 1) 0) s0 ++ (w_Bs g (K 6) o3 ++ (w_Cs g (K 8) s2 ++ (w_Bs g (K 4) s3 ++ (w_Mg g (K 9) s4 ++ (w_Ou g (K 7) s5 ++ (w_Bs g (K 5) s6 ++ (rest)))))))) H := hI
  refine lv_aload_n hx hb d_Rn_reply_68 rfl (lv_at hl 0 rfl) ?_
  refine lv_iconst (v := 4) hx hb d_Rn_reply_69 (by decide) ?_
  obtain ⟨o5, ho6, h⟩ := bd_s h
  refine cl_i (W1 := fun (_ : Unit) => w_Rn g (K 0) (fun j => K (j + 1) 0) o5.2.1 ++ (w_Bs g (K 6) o3 ++ (w_Cs g (K 8) s2 ++ (w_Bs g (K 4) o5.2.2.1 ++ (w_Mg g (K 9) o5.2.2.2.1 ++ (w_Ou g (K 7) o5.2.2.2.2.1 ++ (w_Bs g (K 5) o5.2.2.2.2.2 ++ (rest)))))))) (va_runV (As := [.int (4 : Int32)]) (rest := []) ⟨hx, hb, hml, hown, ht⟩ (c_Rn_put (l := l) (D := D) (A := A) (g := g) (rest := w_Cs g (K 8) s2 ++ (rest)) (K := K) ho6) (cwV 1 ht (gd_V m_322 m_324 mp_5 m_1 m_325) rfl rfl rfl (by decide +kernel) ⟨(Nat.le_of_ble_eq_true rfl), (Nat.le_of_ble_eq_true rfl)⟩) (prV (ci := 8) (q0 := 0) hKK hI ((mv_6).trans ((mv_6).trans ((mv_6).trans ((mv_6).trans ((mv_5).trans (mv_5)))))) rfl rfl rfl) rfl rfl hl.1 rfl (lv_room (Nat.le_of_ble_eq_true rfl)) d_Rn_reply_70 ⟨(Nat.le_of_ble_eq_true rfl), (Nat.le_of_ble_eq_true rfl)⟩) hS (fun _ => (((mv_6).trans ((mv_6).trans ((mv_6).trans ((mv_6).trans ((mv_5).trans (mv_5))))))).symm) (fun _ H locs hI hS => ?_)
  have hI : Iw D A (w_Rn g (K 0) (fun j => K (j + 1) 0) o5.2.1 ++ (w_Bs g (K 6) o3 ++ (w_Cs g (K 8) s2 ++ (w_Bs g (K 4) o5.2.2.1 ++ (w_Mg g (K 9) o5.2.2.2.1 ++ (w_Ou g (K 7) o5.2.2.2.2.1 ++ (w_Bs g (K 5) o5.2.2.2.2.2 ++ (rest)))))))) H := hI
  refine lv_pop hx hb d_Rn_reply_73 rfl ?_
  have h9 := Option.some.inj h
  subst h9
  exact W.vret hx hb hr (fun t ht hW => ⟨⟨(), rfl, trivial, ⟨by rw [ht]; exact hI, hKK.moved hW⟩⟩, hS.F ht⟩) hS.2.2 d_Rn_reply_74
set_option maxRecDepth 100000 in
set_option maxHeartbeats 4000000 in
theorem t_Rn_reply_49 {p : Program} {l : Launch} {e : Env} {s : State} {m : MethodId} {args : Array Value} {below : List Frame} {meth : Method} {c : Code} {D : va_G} {A : Nat → Prop} {g : Nat → ClassId} {rest : va_W} {K : Nat → Nat → Nat} {ls : Array Slot} {H : Heap} {locs : List Loc} {s2 : S_Cs} {s0 : S_Rn} {s1 : S_Bs} {s3 : S_Bs} {s4 : S_Mg} {s5 : S_Ou} {s6 : S_Bs} {x1 : Int32} {y0 : Int32} {out : S_Rn × S_Bs × S_Bs × S_Mg × S_Ou × S_Bs} (X : Cx p s m args meth c prog_1_method_34_code 3 ws_Rn_reply R_Rn none D g) (hl : lv_has ls 3 [(0, .ref (K 0 0)), (1, .int x1)]) (hI : Iw D A (w_Rn g (K 0) (fun j => K (j + 1) 0) s0 ++ (w_Bs g (K 6) s1 ++ (w_Cs g (K 8) s2 ++ (w_Bs g (K 4) s3 ++ (w_Mg g (K 9) s4 ++ (w_Ou g (K 7) s5 ++ (w_Bs g (K 5) s6 ++ (rest)))))))) H) (hS : va_S A s.heap H locs) (h : B_Rn_reply_49  s2 s0 s1 s3 s4 s5 s6 x1 y0 = some out) : W p l e (headSpec ws_Rn_reply { frames := 3, cells := 0, slots := 0, locals := 63 }).room s m args below meth c H locs 0 0 (MQ below (QcV D A g (fun (_ : Unit) => w_Rn g (K 0) (fun j => K (j + 1) 0) out.1 ++ (w_Bs g (K 6) out.2.1 ++ (w_Cs g (K 8) s2 ++ (w_Bs g (K 4) out.2.2.1 ++ (w_Mg g (K 9) out.2.2.2.1 ++ (w_Ou g (K 7) out.2.2.2.2.1 ++ (w_Bs g (K 5) out.2.2.2.2.2 ++ (rest))))))))) args s 0 0 A) (F0 m 49 ls [.int y0]) := by
  have X1 := X
  obtain ⟨hx, hb, hml, hown, hts, hr, hlocks, hKK⟩ := X1
  have ht : ∀ w ∈ TB, w.before args s = true := fun w h => hts w (List.mem_cons_of_mem _ h)
  have hK := hKK.1
  unfold B_Rn_reply_49 at h
  refine lv_iconst (v := 0) hx hb d_Rn_reply_49 (by decide) ?_
  exact t_Rn_reply_50 X (lv_sub hl [0, 1] rfl) hI hS h
set_option maxRecDepth 100000 in
set_option maxHeartbeats 4000000 in
theorem t_Rn_reply_45 {p : Program} {l : Launch} {e : Env} {s : State} {m : MethodId} {args : Array Value} {below : List Frame} {meth : Method} {c : Code} {D : va_G} {A : Nat → Prop} {g : Nat → ClassId} {rest : va_W} {K : Nat → Nat → Nat} {ls : Array Slot} {H : Heap} {locs : List Loc} {s2 : S_Cs} {s0 : S_Rn} {s1 : S_Bs} {s3 : S_Bs} {s4 : S_Mg} {s5 : S_Ou} {s6 : S_Bs} {x1 : Int32} {y0 : Int32} {out : S_Rn × S_Bs × S_Bs × S_Mg × S_Ou × S_Bs} (X : Cx p s m args meth c prog_1_method_34_code 3 ws_Rn_reply R_Rn none D g) (hl : lv_has ls 3 [(0, .ref (K 0 0)), (1, .int x1)]) (hI : Iw D A (w_Rn g (K 0) (fun j => K (j + 1) 0) s0 ++ (w_Bs g (K 6) s1 ++ (w_Cs g (K 8) s2 ++ (w_Bs g (K 4) s3 ++ (w_Mg g (K 9) s4 ++ (w_Ou g (K 7) s5 ++ (w_Bs g (K 5) s6 ++ (rest)))))))) H) (hS : va_S A s.heap H locs) (h : B_Rn_reply_45  s2 s0 s1 s3 s4 s5 s6 x1 y0 = some out) : W p l e (headSpec ws_Rn_reply { frames := 3, cells := 0, slots := 0, locals := 63 }).room s m args below meth c H locs 0 0 (MQ below (QcV D A g (fun (_ : Unit) => w_Rn g (K 0) (fun j => K (j + 1) 0) out.1 ++ (w_Bs g (K 6) out.2.1 ++ (w_Cs g (K 8) s2 ++ (w_Bs g (K 4) out.2.2.1 ++ (w_Mg g (K 9) out.2.2.2.1 ++ (w_Ou g (K 7) out.2.2.2.2.1 ++ (w_Bs g (K 5) out.2.2.2.2.2 ++ (rest))))))))) args s 0 0 A) (F0 m 45 ls [.int y0]) := by
  have X1 := X
  obtain ⟨hx, hb, hml, hown, hts, hr, hlocks, hKK⟩ := X1
  have ht : ∀ w ∈ TB, w.before args s = true := fun w h => hts w (List.mem_cons_of_mem _ h)
  have hK := hKK.1
  unfold B_Rn_reply_45 at h
  refine lv_iconst (v := 1) hx hb d_Rn_reply_45 (by decide) ?_
  refine lv_goto (tgt := 50) hx hb d_Rn_reply_46 (by decide) ?_
  exact t_Rn_reply_50 X (lv_sub hl [0, 1] rfl) hI hS h
set_option maxRecDepth 100000 in
set_option maxHeartbeats 4000000 in
theorem t_Rn_reply_0 {p : Program} {l : Launch} {e : Env} {s : State} {m : MethodId} {args : Array Value} {below : List Frame} {meth : Method} {c : Code} {D : va_G} {A : Nat → Prop} {g : Nat → ClassId} {rest : va_W} {K : Nat → Nat → Nat} {ls : Array Slot} {H : Heap} {locs : List Loc} {s2 : S_Cs} {s0 : S_Rn} {s1 : S_Bs} {s3 : S_Bs} {s4 : S_Mg} {s5 : S_Ou} {s6 : S_Bs} {x1 : Int32} {x2 : Int32} {out : S_Rn × S_Bs × S_Bs × S_Mg × S_Ou × S_Bs} (X : Cx p s m args meth c prog_1_method_34_code 3 ws_Rn_reply R_Rn none D g) (hl : lv_has ls 3 [(0, .ref (K 0 0)), (1, .int x1), (2, .int x2)]) (hI : Iw D A (w_Rn g (K 0) (fun j => K (j + 1) 0) s0 ++ (w_Bs g (K 6) s1 ++ (w_Cs g (K 8) s2 ++ (w_Bs g (K 4) s3 ++ (w_Mg g (K 9) s4 ++ (w_Ou g (K 7) s5 ++ (w_Bs g (K 5) s6 ++ (rest)))))))) H) (hS : va_S A s.heap H locs) (h : B_Rn_reply_0  s2 s0 s1 s3 s4 s5 s6 x1 x2 = some out) : W p l e (headSpec ws_Rn_reply { frames := 3, cells := 0, slots := 0, locals := 63 }).room s m args below meth c H locs 0 0 (MQ below (QcV D A g (fun (_ : Unit) => w_Rn g (K 0) (fun j => K (j + 1) 0) out.1 ++ (w_Bs g (K 6) out.2.1 ++ (w_Cs g (K 8) s2 ++ (w_Bs g (K 4) out.2.2.1 ++ (w_Mg g (K 9) out.2.2.2.1 ++ (w_Ou g (K 7) out.2.2.2.2.1 ++ (w_Bs g (K 5) out.2.2.2.2.2 ++ (rest))))))))) args s 0 0 A) (F0 m 0 ls []) := by
  have X1 := X
  obtain ⟨hx, hb, hml, hown, hts, hr, hlocks, hKK⟩ := X1
  have ht : ∀ w ∈ TB, w.before args s = true := fun w h => hts w (List.mem_cons_of_mem _ h)
  have hK := hKK.1
  unfold B_Rn_reply_0 at h
  refine lv_aload_n hx hb d_Rn_reply_0 rfl (lv_at hl 0 rfl) ?_
  refine lv_iconst (v := 3) hx hb d_Rn_reply_1 (by decide) ?_
  obtain ⟨o1, ho2, h⟩ := bd_s h
  refine cl_v (W1 := fun (_ : Unit) => w_Rn g (K 0) (fun j => K (j + 1) 0) s0 ++ (w_Bs g (K 6) o1 ++ (w_Cs g (K 8) s2 ++ (w_Bs g (K 4) s3 ++ (w_Mg g (K 9) s4 ++ (w_Ou g (K 7) s5 ++ (w_Bs g (K 5) s6 ++ (rest)))))))) (va_runV (As := [.int (3 : Int32)]) (rest := []) ⟨hx, hb, hml, hown, ht⟩ (c_Rn_startData (l := l) (D := D) (A := A) (g := g) (rest := w_Bs g (K 4) s3 ++ (w_Ou g (K 7) s5 ++ (w_Bs g (K 5) s6 ++ (rest)))) (K := K) ho2) (cwV 1 ht (gd_V m_547 m_549 mp_28 m_1 m_550) rfl rfl rfl (by decide +kernel) ⟨(Nat.le_of_ble_eq_true rfl), (Nat.le_of_ble_eq_true rfl)⟩) (prV (ci := 8) (q0 := 0) hKK hI ((mv_4).trans ((mv_3).trans ((mv_3).trans (mv_3)))) rfl rfl rfl) rfl rfl hl.1 rfl (lv_room (Nat.le_of_ble_eq_true rfl)) d_Rn_reply_2 ⟨(Nat.le_of_ble_eq_true rfl), (Nat.le_of_ble_eq_true rfl)⟩) hS (fun _ => (((mv_4).trans ((mv_3).trans ((mv_3).trans (mv_3))))).symm) (fun _ H locs hI hS => ?_)
  have hI : Iw D A (w_Rn g (K 0) (fun j => K (j + 1) 0) s0 ++ (w_Bs g (K 6) o1 ++ (w_Cs g (K 8) s2 ++ (w_Bs g (K 4) s3 ++ (w_Mg g (K 9) s4 ++ (w_Ou g (K 7) s5 ++ (w_Bs g (K 5) s6 ++ (rest)))))))) H := hI
  refine lv_iconst (v := 1) hx hb d_Rn_reply_5 (by decide) ?_
  refine lv_aload_n hx hb d_Rn_reply_6 rfl (lv_at hl 0 rfl) ?_
  refine va_get (D := D) (ci := 8) (v := .ref (K 9 0)) (C := R_Rn) (T := T_Rn) (N := 16) hx hb ht in_Rn hown hK hI.1 0 rfl rfl 8 (by decide) (ht _ m_211) (fun _ h9 => h9) rfl d_Rn_reply_7 ?_
  obtain ⟨o3, ho4, h⟩ := bd_s h
  refine cl_i (W1 := fun (_ : Unit) => w_Rn g (K 0) (fun j => K (j + 1) 0) s0 ++ (w_Bs g (K 6) o1 ++ (w_Cs g (K 8) s2 ++ (w_Bs g (K 4) s3 ++ (w_Mg g (K 9) s4 ++ (w_Ou g (K 7) s5 ++ (w_Bs g (K 5) s6 ++ (rest)))))))) (va_runV (As := []) (rest := [.int (1 : Int32)]) ⟨hx, hb, hml, hown, ht⟩ (c_Mg_kind (l := l) (D := D) (A := A) (g := g) (rest := w_Rn g (K 0) (fun j => K (j + 1) 0) s0 ++ (w_Bs g (K 6) o1 ++ (w_Cs g (K 8) s2 ++ (w_Bs g (K 4) s3 ++ (w_Ou g (K 7) s5 ++ (w_Bs g (K 5) s6 ++ (rest))))))) (a0 := K 9) ho4) (cwV 0 ht (gd_V m_531 m_532 m_533 m_5 m_534) rfl rfl rfl (by decide +kernel) ⟨(Nat.le_of_ble_eq_true rfl), (Nat.le_of_ble_eq_true rfl)⟩) (prV (ci := 3) (q0 := 0) hKK hI (mv_4) rfl rfl rfl) rfl rfl hl.1 rfl (lv_room (Nat.le_of_ble_eq_true rfl)) d_Rn_reply_10 ⟨(Nat.le_of_ble_eq_true rfl), (Nat.le_of_ble_eq_true rfl)⟩) hS (fun _ => ((mv_4)).symm) (fun _ H locs hI hS => ?_)
  have hI : Iw D A (w_Rn g (K 0) (fun j => K (j + 1) 0) s0 ++ (w_Bs g (K 6) o1 ++ (w_Cs g (K 8) s2 ++ (w_Bs g (K 4) s3 ++ (w_Mg g (K 9) s4 ++ (w_Ou g (K 7) s5 ++ (w_Bs g (K 5) s6 ++ (rest)))))))) H := hI
  refine lv_bipush (v := 16) hx hb d_Rn_reply_13 (by decide) ?_
  refine lv_iadd hx hb d_Rn_reply_15 ?_
  refine lv_iconst (v := 1) hx hb d_Rn_reply_16 (by decide) ?_
  refine lv_aload_n hx hb d_Rn_reply_17 rfl (lv_at hl 0 rfl) ?_
  refine va_get (D := D) (ci := 8) (v := .ref (K 6 0)) (C := R_Rn) (T := T_Rn) (N := 16) hx hb ht in_Rn hown hK hI.1 0 rfl rfl 5 (by decide) (ht _ m_208) (fun _ h9 => h9) rfl d_Rn_reply_18 ?_
  obtain ⟨o5, ho6, h⟩ := bd_s h
  refine cl_v (W1 := fun (_ : Unit) => w_Rn g (K 0) (fun j => K (j + 1) 0) s0 ++ (w_Bs g (K 6) o5 ++ (w_Cs g (K 8) s2 ++ (w_Bs g (K 4) s3 ++ (w_Mg g (K 9) s4 ++ (w_Ou g (K 7) s5 ++ (w_Bs g (K 5) s6 ++ (rest)))))))) (va_runS (As := [.int (1 : Int32), .int (o3 + (16 : Int32)), .int (1 : Int32), .ref (K 6 0)]) (rest := []) ⟨hx, hb, hml, hown, ht⟩ (c_Tr_writeNumber (l := l) (D := D) (A := A) (g := g) (rest := w_Rn g (K 0) (fun j => K (j + 1) 0) s0 ++ (w_Cs g (K 8) s2 ++ (w_Bs g (K 4) s3 ++ (w_Mg g (K 9) s4 ++ (w_Ou g (K 7) s5 ++ (w_Bs g (K 5) s6 ++ (rest))))))) (a0 := K 6) ho6) (va_cwS 4 ht (gd_S m_551 m_552 m_9 m_553) rfl rfl rfl (by decide +kernel) ⟨(Nat.le_of_ble_eq_true rfl), (Nat.le_of_ble_eq_true rfl)⟩) (prS hKK hI (mv_1)) rfl rfl hl.1 rfl (lv_room (Nat.le_of_ble_eq_true rfl)) d_Rn_reply_21 ⟨(Nat.le_of_ble_eq_true rfl), (Nat.le_of_ble_eq_true rfl)⟩) hS (fun _ => ((mv_1)).symm) (fun _ H locs hI hS => ?_)
  have hI : Iw D A (w_Rn g (K 0) (fun j => K (j + 1) 0) s0 ++ (w_Bs g (K 6) o5 ++ (w_Cs g (K 8) s2 ++ (w_Bs g (K 4) s3 ++ (w_Mg g (K 9) s4 ++ (w_Ou g (K 7) s5 ++ (w_Bs g (K 5) s6 ++ (rest)))))))) H := hI
  refine lv_iconst (v := 2) hx hb d_Rn_reply_24 (by decide) ?_
  refine lv_aload_n hx hb d_Rn_reply_25 rfl (lv_at hl 0 rfl) ?_
  refine va_get (D := D) (ci := 8) (v := .ref (K 9 0)) (C := R_Rn) (T := T_Rn) (N := 16) hx hb ht in_Rn hown hK hI.1 0 rfl rfl 8 (by decide) (ht _ m_211) (fun _ h9 => h9) rfl d_Rn_reply_26 ?_
  obtain ⟨o7, ho8, h⟩ := bd_s h
  refine cl_i (W1 := fun (_ : Unit) => w_Rn g (K 0) (fun j => K (j + 1) 0) s0 ++ (w_Bs g (K 6) o5 ++ (w_Cs g (K 8) s2 ++ (w_Bs g (K 4) s3 ++ (w_Mg g (K 9) s4 ++ (w_Ou g (K 7) s5 ++ (w_Bs g (K 5) s6 ++ (rest)))))))) (va_runV (As := []) (rest := [.int (2 : Int32)]) ⟨hx, hb, hml, hown, ht⟩ (c_Mg_number (l := l) (D := D) (A := A) (g := g) (rest := w_Rn g (K 0) (fun j => K (j + 1) 0) s0 ++ (w_Bs g (K 6) o5 ++ (w_Cs g (K 8) s2 ++ (w_Bs g (K 4) s3 ++ (w_Ou g (K 7) s5 ++ (w_Bs g (K 5) s6 ++ (rest))))))) (a0 := K 9) ho8) (cwV 0 ht (gd_V m_556 m_557 m_558 m_5 m_559) rfl rfl rfl (by decide +kernel) ⟨(Nat.le_of_ble_eq_true rfl), (Nat.le_of_ble_eq_true rfl)⟩) (prV (ci := 3) (q0 := 0) hKK hI (mv_4) rfl rfl rfl) rfl rfl hl.1 rfl (lv_room (Nat.le_of_ble_eq_true rfl)) d_Rn_reply_29 ⟨(Nat.le_of_ble_eq_true rfl), (Nat.le_of_ble_eq_true rfl)⟩) hS (fun _ => ((mv_4)).symm) (fun _ H locs hI hS => ?_)
  have hI : Iw D A (w_Rn g (K 0) (fun j => K (j + 1) 0) s0 ++ (w_Bs g (K 6) o5 ++ (w_Cs g (K 8) s2 ++ (w_Bs g (K 4) s3 ++ (w_Mg g (K 9) s4 ++ (w_Ou g (K 7) s5 ++ (w_Bs g (K 5) s6 ++ (rest)))))))) H := hI
  refine lv_iconst (v := 1) hx hb d_Rn_reply_32 (by decide) ?_
  refine lv_aload_n hx hb d_Rn_reply_33 rfl (lv_at hl 0 rfl) ?_
  refine va_get (D := D) (ci := 8) (v := .ref (K 6 0)) (C := R_Rn) (T := T_Rn) (N := 16) hx hb ht in_Rn hown hK hI.1 0 rfl rfl 5 (by decide) (ht _ m_208) (fun _ h9 => h9) rfl d_Rn_reply_34 ?_
  obtain ⟨o9, ho10, h⟩ := bd_s h
  refine cl_v (W1 := fun (_ : Unit) => w_Rn g (K 0) (fun j => K (j + 1) 0) s0 ++ (w_Bs g (K 6) o9 ++ (w_Cs g (K 8) s2 ++ (w_Bs g (K 4) s3 ++ (w_Mg g (K 9) s4 ++ (w_Ou g (K 7) s5 ++ (w_Bs g (K 5) s6 ++ (rest)))))))) (va_runS (As := [.int (2 : Int32), .int o7, .int (1 : Int32), .ref (K 6 0)]) (rest := []) ⟨hx, hb, hml, hown, ht⟩ (c_Tr_writeNumber (l := l) (D := D) (A := A) (g := g) (rest := w_Rn g (K 0) (fun j => K (j + 1) 0) s0 ++ (w_Cs g (K 8) s2 ++ (w_Bs g (K 4) s3 ++ (w_Mg g (K 9) s4 ++ (w_Ou g (K 7) s5 ++ (w_Bs g (K 5) s6 ++ (rest))))))) (a0 := K 6) ho10) (va_cwS 4 ht (gd_S m_551 m_552 m_9 m_553) rfl rfl rfl (by decide +kernel) ⟨(Nat.le_of_ble_eq_true rfl), (Nat.le_of_ble_eq_true rfl)⟩) (prS hKK hI (mv_1)) rfl rfl hl.1 rfl (lv_room (Nat.le_of_ble_eq_true rfl)) d_Rn_reply_37 ⟨(Nat.le_of_ble_eq_true rfl), (Nat.le_of_ble_eq_true rfl)⟩) hS (fun _ => ((mv_1)).symm) (fun _ H locs hI hS => ?_)
  have hI : Iw D A (w_Rn g (K 0) (fun j => K (j + 1) 0) s0 ++ (w_Bs g (K 6) o9 ++ (w_Cs g (K 8) s2 ++ (w_Bs g (K 4) s3 ++ (w_Mg g (K 9) s4 ++ (w_Ou g (K 7) s5 ++ (w_Bs g (K 5) s6 ++ (rest)))))))) H := hI
  refine lv_iconst (v := 3) hx hb d_Rn_reply_40 (by decide) ?_
  refine lv_iload_n hx hb d_Rn_reply_41 rfl (lv_at hl 2 rfl) ?_
  refine lv_if_eq (tgt := 49) hx hb d_Rn_reply_42 (by decide) (fun hc => ?_) (fun hc => ?_)
  · have h := it_t h hc
    exact t_Rn_reply_49 X (lv_sub hl [0, 1] rfl) hI hS h
  · have h := it_f h hc
    exact t_Rn_reply_45 X (lv_sub hl [0, 1] rfl) hI hS h
set_option maxRecDepth 100000 in
set_option maxHeartbeats 4000000 in
theorem c_Rn_reply {l : Launch} {D : va_G} {A : Nat → Prop} {g : Nat → ClassId} {rest : va_W} {K : Nat → Nat → Nat} {s0 : S_Rn} {s1 : S_Bs} {s2 : S_Cs} {s3 : S_Bs} {s4 : S_Mg} {s5 : S_Ou} {s6 : S_Bs} {x1 : Int32} {x2 : Int32} {out : S_Rn × S_Bs × S_Bs × S_Mg × S_Ou × S_Bs} (h : F_Rn_reply s0 s1 s2 s3 s4 s5 s6 x1 x2 = some out) : Met l y_Rn_reply ws_Rn_reply { frames := 3, cells := 0, slots := 0, locals := 63 } (PcW D A g [.ref (K 0 0), .int x1, .int x2] (w_Rn g (K 0) (fun j => K (j + 1) 0) s0 ++ (w_Bs g (K 6) s1 ++ (w_Cs g (K 8) s2 ++ (w_Bs g (K 4) s3 ++ (w_Mg g (K 9) s4 ++ (w_Ou g (K 7) s5 ++ (w_Bs g (K 5) s6 ++ (rest))))))))) (QcV D A g (fun (_ : Unit) => w_Rn g (K 0) (fun j => K (j + 1) 0) out.1 ++ (w_Bs g (K 6) out.2.1 ++ (w_Cs g (K 8) s2 ++ (w_Bs g (K 4) out.2.2.1 ++ (w_Mg g (K 9) out.2.2.2.1 ++ (w_Ou g (K 7) out.2.2.2.2.1 ++ (w_Bs g (K 5) out.2.2.2.2.2 ++ (rest))))))))) 0 0 A := by
  refine Met.ofW (cc := prog_1_method_34_code) (maxL := 3) (ret := none) (by decide) rfl ?_
  intro p e s m args below meth c s₁ B hml hv
  obtain ⟨rfl, hI, hK⟩ := hv
  have hl := lv_entry [.ref (K 0 0), .int x1, .int x2] (n := 3) (Nat.le_of_ble_eq_true rfl)
  rw [lg_entry_eq]
  generalize (lg_sl [.ref (K 0 0), .int x1, .int x2] ++ List.replicate (3 - (lg_sl [.ref (K 0 0), .int x1, .int x2]).length) Slot.unset).toArray = ls at hl ⊢
  have hl : lv_has ls 3 [(0, .ref (K 0 0)), (1, .int x1), (2, .int x2)] := hl
  exact t_Rn_reply_0 ⟨B.exec, B.bytes, hml, findClass_of_methodNamed B.named, atoms_spec (ws := ws_Rn_reply) B.pre, B.returns, B.notSynchronized, hK⟩ (lv_sub hl [0, 1, 2] rfl) hI va_S.rf h
def ws_Rn_tick : List Cond := .code y_Rn_tick prog_1_method_11_code 1 (some .int) :: TB
def B_Rn_tick_28 (s0 : S_Rn) (s1 : S_Bs) (s2 : S_Mg) (s3 : S_Bs) : Option (Int32 × S_Rn × S_Bs × S_Mg × S_Bs) :=
  some ((Rn_timer s0), s0, s1, s2, s3)
def B_Rn_tick_24 (s0 : S_Rn) (s1 : S_Bs) (s2 : S_Mg) (s3 : S_Bs) : Option (Int32 × S_Rn × S_Bs × S_Mg × S_Bs) :=
  ((F_Rn_shut s0 s1 s2 s3).bind fun o1 => (B_Rn_tick_28 o1.1 o1.2.1 o1.2.2.1 o1.2.2.2))
def B_Rn_tick_7 (s0 : S_Rn) (s1 : S_Bs) (s2 : S_Mg) (s3 : S_Bs) : Option (Int32 × S_Rn × S_Bs × S_Mg × S_Bs) :=
  (if (Rn_timer (Rn_set_timer s0 ((Rn_timer s0) - (1 : Int32)))) = 0 then (B_Rn_tick_24 (Rn_set_timer s0 ((Rn_timer s0) - (1 : Int32))) s1 s2 s3) else (B_Rn_tick_28 (Rn_set_timer s0 ((Rn_timer s0) - (1 : Int32))) s1 s2 s3))
def B_Rn_tick_0 (s0 : S_Rn) (s1 : S_Bs) (s2 : S_Mg) (s3 : S_Bs) : Option (Int32 × S_Rn × S_Bs × S_Mg × S_Bs) :=
  (if (Rn_timer s0) ≤ 0 then (B_Rn_tick_28 s0 s1 s2 s3) else (B_Rn_tick_7 s0 s1 s2 s3))
def F_Rn_tick (s0 : S_Rn) (s1 : S_Bs) (s2 : S_Mg) (s3 : S_Bs) : Option (Int32 × S_Rn × S_Bs × S_Mg × S_Bs) := B_Rn_tick_0 s0 s1 s2 s3
set_option maxRecDepth 100000 in
set_option maxHeartbeats 4000000 in
theorem t_Rn_tick_28 {p : Program} {l : Launch} {e : Env} {s : State} {m : MethodId} {args : Array Value} {below : List Frame} {meth : Method} {c : Code} {D : va_G} {A : Nat → Prop} {g : Nat → ClassId} {rest : va_W} {K : Nat → Nat → Nat} {ls : Array Slot} {H : Heap} {locs : List Loc} {s0 : S_Rn} {s1 : S_Bs} {s2 : S_Mg} {s3 : S_Bs} {out : Int32 × S_Rn × S_Bs × S_Mg × S_Bs} (X : Cx p s m args meth c prog_1_method_11_code 1 ws_Rn_tick R_Rn (some .int) D g) (hl : lv_has ls 1 [(0, .ref (K 0 0))]) (hI : Iw D A (w_Rn g (K 0) (fun j => K (j + 1) 0) s0 ++ (w_Bs g (K 4) s1 ++ (w_Mg g (K 9) s2 ++ (w_Bs g (K 5) s3 ++ (rest))))) H) (hS : va_S A s.heap H locs) (h : B_Rn_tick_28  s0 s1 s2 s3 = some out) : W p l e (headSpec ws_Rn_tick { frames := 2, cells := 0, slots := 0, locals := 41 }).room s m args below meth c H locs 0 0 (MQ below (QcI D A g out.1 (fun (_ : Unit) => w_Rn g (K 0) (fun j => K (j + 1) 0) out.2.1 ++ (w_Bs g (K 4) out.2.2.1 ++ (w_Mg g (K 9) out.2.2.2.1 ++ (w_Bs g (K 5) out.2.2.2.2 ++ (rest)))))) args s 0 0 A) (F0 m 28 ls []) := by
  have X1 := X
  obtain ⟨hx, hb, hml, hown, hts, hr, hlocks, hKK⟩ := X1
  have ht : ∀ w ∈ TB, w.before args s = true := fun w h => hts w (List.mem_cons_of_mem _ h)
  have hK := hKK.1
  unfold B_Rn_tick_28 at h
  refine lv_aload_n hx hb d_Rn_tick_28 rfl (lv_at hl 0 rfl) ?_
  refine va_get (D := D) (ci := 8) (v := .int (Rn_timer s0)) (C := R_Rn) (T := T_Rn) (N := 16) hx hb ht in_Rn hown hK hI.1 0 rfl rfl 14 (by decide) (ht _ m_217) (fun _ h9 => h9) rfl d_Rn_tick_29 ?_
  have h9 := Option.some.inj h
  subst h9
  exact W.iret (v := (Rn_timer s0)) hx hb hr (fun t ht hW => ⟨⟨_, (), rfl, rfl, ⟨by rw [ht]; exact hI, hKK.moved hW⟩⟩, hS.F ht⟩) hS.2.2 d_Rn_tick_32
set_option maxRecDepth 100000 in
set_option maxHeartbeats 4000000 in
theorem t_Rn_tick_24 {p : Program} {l : Launch} {e : Env} {s : State} {m : MethodId} {args : Array Value} {below : List Frame} {meth : Method} {c : Code} {D : va_G} {A : Nat → Prop} {g : Nat → ClassId} {rest : va_W} {K : Nat → Nat → Nat} {ls : Array Slot} {H : Heap} {locs : List Loc} {s0 : S_Rn} {s1 : S_Bs} {s2 : S_Mg} {s3 : S_Bs} {out : Int32 × S_Rn × S_Bs × S_Mg × S_Bs} (X : Cx p s m args meth c prog_1_method_11_code 1 ws_Rn_tick R_Rn (some .int) D g) (hl : lv_has ls 1 [(0, .ref (K 0 0))]) (hI : Iw D A (w_Rn g (K 0) (fun j => K (j + 1) 0) s0 ++ (w_Bs g (K 4) s1 ++ (w_Mg g (K 9) s2 ++ (w_Bs g (K 5) s3 ++ (rest))))) H) (hS : va_S A s.heap H locs) (h : B_Rn_tick_24  s0 s1 s2 s3 = some out) : W p l e (headSpec ws_Rn_tick { frames := 2, cells := 0, slots := 0, locals := 41 }).room s m args below meth c H locs 0 0 (MQ below (QcI D A g out.1 (fun (_ : Unit) => w_Rn g (K 0) (fun j => K (j + 1) 0) out.2.1 ++ (w_Bs g (K 4) out.2.2.1 ++ (w_Mg g (K 9) out.2.2.2.1 ++ (w_Bs g (K 5) out.2.2.2.2 ++ (rest)))))) args s 0 0 A) (F0 m 24 ls []) := by
  have X1 := X
  obtain ⟨hx, hb, hml, hown, hts, hr, hlocks, hKK⟩ := X1
  have ht : ∀ w ∈ TB, w.before args s = true := fun w h => hts w (List.mem_cons_of_mem _ h)
  have hK := hKK.1
  unfold B_Rn_tick_24 at h
  refine lv_aload_n hx hb d_Rn_tick_24 rfl (lv_at hl 0 rfl) ?_
  obtain ⟨o1, ho2, h⟩ := bd_s h
  refine cl_v (W1 := fun (_ : Unit) => w_Rn g (K 0) (fun j => K (j + 1) 0) o1.1 ++ (w_Bs g (K 4) o1.2.1 ++ (w_Mg g (K 9) o1.2.2.1 ++ (w_Bs g (K 5) o1.2.2.2 ++ (rest))))) (va_runV (As := []) (rest := []) ⟨hx, hb, hml, hown, ht⟩ (c_Rn_shut (l := l) (D := D) (A := A) (g := g) (rest := rest) (K := K) ho2) (cwV 0 ht (gd_V m_290 m_292 mp_1 m_1 m_293) rfl rfl rfl (by decide +kernel) ⟨(Nat.le_of_ble_eq_true rfl), (Nat.le_of_ble_eq_true rfl)⟩) (prV (ci := 8) (q0 := 0) hKK hI ((mv_3).trans ((mv_3).trans ((mv_3).trans (mv_3)))) rfl rfl rfl) rfl rfl hl.1 rfl (lv_room (Nat.le_of_ble_eq_true rfl)) d_Rn_tick_25 ⟨(Nat.le_of_ble_eq_true rfl), (Nat.le_of_ble_eq_true rfl)⟩) hS (fun _ => (((mv_3).trans ((mv_3).trans ((mv_3).trans (mv_3))))).symm) (fun _ H locs hI hS => ?_)
  have hI : Iw D A (w_Rn g (K 0) (fun j => K (j + 1) 0) o1.1 ++ (w_Bs g (K 4) o1.2.1 ++ (w_Mg g (K 9) o1.2.2.1 ++ (w_Bs g (K 5) o1.2.2.2 ++ (rest))))) H := hI
  exact t_Rn_tick_28 X (lv_sub hl [0] rfl) hI hS h
set_option maxRecDepth 100000 in
set_option maxHeartbeats 4000000 in
theorem t_Rn_tick_7 {p : Program} {l : Launch} {e : Env} {s : State} {m : MethodId} {args : Array Value} {below : List Frame} {meth : Method} {c : Code} {D : va_G} {A : Nat → Prop} {g : Nat → ClassId} {rest : va_W} {K : Nat → Nat → Nat} {ls : Array Slot} {H : Heap} {locs : List Loc} {s0 : S_Rn} {s1 : S_Bs} {s2 : S_Mg} {s3 : S_Bs} {out : Int32 × S_Rn × S_Bs × S_Mg × S_Bs} (X : Cx p s m args meth c prog_1_method_11_code 1 ws_Rn_tick R_Rn (some .int) D g) (hl : lv_has ls 1 [(0, .ref (K 0 0))]) (hI : Iw D A (w_Rn g (K 0) (fun j => K (j + 1) 0) s0 ++ (w_Bs g (K 4) s1 ++ (w_Mg g (K 9) s2 ++ (w_Bs g (K 5) s3 ++ (rest))))) H) (hS : va_S A s.heap H locs) (h : B_Rn_tick_7  s0 s1 s2 s3 = some out) : W p l e (headSpec ws_Rn_tick { frames := 2, cells := 0, slots := 0, locals := 41 }).room s m args below meth c H locs 0 0 (MQ below (QcI D A g out.1 (fun (_ : Unit) => w_Rn g (K 0) (fun j => K (j + 1) 0) out.2.1 ++ (w_Bs g (K 4) out.2.2.1 ++ (w_Mg g (K 9) out.2.2.2.1 ++ (w_Bs g (K 5) out.2.2.2.2 ++ (rest)))))) args s 0 0 A) (F0 m 7 ls []) := by
  have X1 := X
  obtain ⟨hx, hb, hml, hown, hts, hr, hlocks, hKK⟩ := X1
  have ht : ∀ w ∈ TB, w.before args s = true := fun w h => hts w (List.mem_cons_of_mem _ h)
  have hK := hKK.1
  unfold B_Rn_tick_7 at h
  refine lv_aload_n hx hb d_Rn_tick_7 rfl (lv_at hl 0 rfl) ?_
  refine lv_dup hx hb d_Rn_tick_8 rfl ?_
  refine va_get (D := D) (ci := 8) (v := .int (Rn_timer s0)) (C := R_Rn) (T := T_Rn) (N := 16) hx hb ht in_Rn hown hK hI.1 0 rfl rfl 14 (by decide) (ht _ m_217) (fun _ h9 => h9) rfl d_Rn_tick_9 ?_
  refine lv_iconst (v := 1) hx hb d_Rn_tick_12 (by decide) ?_
  refine lv_isub hx hb d_Rn_tick_13 ?_
  refine va_put (D := D) (ci := 8) (v := .int ((Rn_timer s0) - (1 : Int32))) (ty := .int) (C := R_Rn) (T := T_Rn) (N := 16) hx hb ht in_Rn ty_Rn tyok_Rn nm_Rn hown hK hI.1 hI.2 hS 0 rfl rfl 14 (by decide) (ht _ m_217) (fun _ h9 => h9) rfl (by decide +kernel) rfl rfl (Nat.le_of_ble_eq_true rfl) d_Rn_tick_14 (fun H locs hP hD hS => ?_)
  have hI : Iw D A (w_Rn g (K 0) (fun j => K (j + 1) 0) (Rn_set_timer s0 ((Rn_timer s0) - (1 : Int32))) ++ (w_Bs g (K 4) s1 ++ (w_Mg g (K 9) s2 ++ (w_Bs g (K 5) s3 ++ (rest))))) H := ⟨hP, hD⟩
  refine lv_aload_n hx hb d_Rn_tick_17 rfl (lv_at hl 0 rfl) ?_
  refine va_get (D := D) (ci := 8) (v := .int (Rn_timer (Rn_set_timer s0 ((Rn_timer s0) - (1 : Int32))))) (C := R_Rn) (T := T_Rn) (N := 16) hx hb ht in_Rn hown hK hI.1 0 rfl rfl 14 (by decide) (ht _ m_217) (fun _ h9 => h9) rfl d_Rn_tick_18 ?_
  refine lv_if_ne (tgt := 28) hx hb d_Rn_tick_21 (by decide) (fun hc => ?_) (fun hc => ?_)
  · have h := it_f h hc
    exact t_Rn_tick_28 X (lv_sub hl [0] rfl) hI hS h
  · have h := it_t h hc
    exact t_Rn_tick_24 X (lv_sub hl [0] rfl) hI hS h
set_option maxRecDepth 100000 in
set_option maxHeartbeats 4000000 in
theorem t_Rn_tick_0 {p : Program} {l : Launch} {e : Env} {s : State} {m : MethodId} {args : Array Value} {below : List Frame} {meth : Method} {c : Code} {D : va_G} {A : Nat → Prop} {g : Nat → ClassId} {rest : va_W} {K : Nat → Nat → Nat} {ls : Array Slot} {H : Heap} {locs : List Loc} {s0 : S_Rn} {s1 : S_Bs} {s2 : S_Mg} {s3 : S_Bs} {out : Int32 × S_Rn × S_Bs × S_Mg × S_Bs} (X : Cx p s m args meth c prog_1_method_11_code 1 ws_Rn_tick R_Rn (some .int) D g) (hl : lv_has ls 1 [(0, .ref (K 0 0))]) (hI : Iw D A (w_Rn g (K 0) (fun j => K (j + 1) 0) s0 ++ (w_Bs g (K 4) s1 ++ (w_Mg g (K 9) s2 ++ (w_Bs g (K 5) s3 ++ (rest))))) H) (hS : va_S A s.heap H locs) (h : B_Rn_tick_0  s0 s1 s2 s3 = some out) : W p l e (headSpec ws_Rn_tick { frames := 2, cells := 0, slots := 0, locals := 41 }).room s m args below meth c H locs 0 0 (MQ below (QcI D A g out.1 (fun (_ : Unit) => w_Rn g (K 0) (fun j => K (j + 1) 0) out.2.1 ++ (w_Bs g (K 4) out.2.2.1 ++ (w_Mg g (K 9) out.2.2.2.1 ++ (w_Bs g (K 5) out.2.2.2.2 ++ (rest)))))) args s 0 0 A) (F0 m 0 ls []) := by
  have X1 := X
  obtain ⟨hx, hb, hml, hown, hts, hr, hlocks, hKK⟩ := X1
  have ht : ∀ w ∈ TB, w.before args s = true := fun w h => hts w (List.mem_cons_of_mem _ h)
  have hK := hKK.1
  unfold B_Rn_tick_0 at h
  refine lv_aload_n hx hb d_Rn_tick_0 rfl (lv_at hl 0 rfl) ?_
  refine va_get (D := D) (ci := 8) (v := .int (Rn_timer s0)) (C := R_Rn) (T := T_Rn) (N := 16) hx hb ht in_Rn hown hK hI.1 0 rfl rfl 14 (by decide) (ht _ m_217) (fun _ h9 => h9) rfl d_Rn_tick_1 ?_
  refine lv_if_le (tgt := 28) hx hb d_Rn_tick_4 (by decide) (fun hc => ?_) (fun hc => ?_)
  · have h := it_t h hc
    exact t_Rn_tick_28 X (lv_sub hl [0] rfl) hI hS h
  · have h := it_f h hc
    exact t_Rn_tick_7 X (lv_sub hl [0] rfl) hI hS h
set_option maxRecDepth 100000 in
set_option maxHeartbeats 4000000 in
theorem c_Rn_tick {l : Launch} {D : va_G} {A : Nat → Prop} {g : Nat → ClassId} {rest : va_W} {K : Nat → Nat → Nat} {s0 : S_Rn} {s1 : S_Bs} {s2 : S_Mg} {s3 : S_Bs} {out : Int32 × S_Rn × S_Bs × S_Mg × S_Bs} (h : F_Rn_tick s0 s1 s2 s3 = some out) : Met l y_Rn_tick ws_Rn_tick { frames := 2, cells := 0, slots := 0, locals := 41 } (PcW D A g [.ref (K 0 0)] (w_Rn g (K 0) (fun j => K (j + 1) 0) s0 ++ (w_Bs g (K 4) s1 ++ (w_Mg g (K 9) s2 ++ (w_Bs g (K 5) s3 ++ (rest)))))) (QcI D A g out.1 (fun (_ : Unit) => w_Rn g (K 0) (fun j => K (j + 1) 0) out.2.1 ++ (w_Bs g (K 4) out.2.2.1 ++ (w_Mg g (K 9) out.2.2.2.1 ++ (w_Bs g (K 5) out.2.2.2.2 ++ (rest)))))) 0 0 A := by
  refine Met.ofW (cc := prog_1_method_11_code) (maxL := 1) (ret := (some .int)) (by decide) rfl ?_
  intro p e s m args below meth c s₁ B hml hv
  obtain ⟨rfl, hI, hK⟩ := hv
  have hl := lv_entry [.ref (K 0 0)] (n := 1) (Nat.le_of_ble_eq_true rfl)
  rw [lg_entry_eq]
  generalize (lg_sl [.ref (K 0 0)] ++ List.replicate (1 - (lg_sl [.ref (K 0 0)]).length) Slot.unset).toArray = ls at hl ⊢
  have hl : lv_has ls 1 [(0, .ref (K 0 0))] := hl
  exact t_Rn_tick_0 ⟨B.exec, B.bytes, hml, findClass_of_methodNamed B.named, atoms_spec (ws := ws_Rn_tick) B.pre, B.returns, B.notSynchronized, hK⟩ (lv_sub hl [0] rfl) hI va_S.rf h
def ws_Rn_state : List Cond := .code y_Rn_state prog_1_method_13_code 2 (some .int) :: TB
def B_Rn_state_48 (s0 : S_Rn) (s1 : S_Bs) (s2 : S_Mg) (s3 : S_Ou) (s4 : S_Bs) (s5 : S_Rs) : Option Int32 :=
  some (Rn_phase s0)
def B_Rn_state_53 (s0 : S_Rn) (s1 : S_Bs) (s2 : S_Mg) (s3 : S_Ou) (s4 : S_Bs) (s5 : S_Rs) : Option Int32 :=
  some (Rn_timer s0)
def B_Rn_state_58 (s0 : S_Rn) (s1 : S_Bs) (s2 : S_Mg) (s3 : S_Ou) (s4 : S_Bs) (s5 : S_Rs) : Option Int32 :=
  ((F_Ou_count s3).bind fun o1 => some o1)
def B_Rn_state_66 (s0 : S_Rn) (s1 : S_Bs) (s2 : S_Mg) (s3 : S_Ou) (s4 : S_Bs) (s5 : S_Rs) : Option Int32 :=
  ((F_Bs_count s1).bind fun o1 => some o1)
def B_Rn_state_97 (s0 : S_Rn) (s1 : S_Bs) (s2 : S_Mg) (s3 : S_Ou) (s4 : S_Bs) (s5 : S_Rs) (y0 : Int32) : Option Int32 :=
  some y0
def B_Rn_state_96 (s0 : S_Rn) (s1 : S_Bs) (s2 : S_Mg) (s3 : S_Ou) (s4 : S_Bs) (s5 : S_Rs) : Option Int32 :=
  (B_Rn_state_97 s0 s1 s2 s3 s4 s5 (0 : Int32))
def B_Rn_state_92 (s0 : S_Rn) (s1 : S_Bs) (s2 : S_Mg) (s3 : S_Ou) (s4 : S_Bs) (s5 : S_Rs) : Option Int32 :=
  (B_Rn_state_97 s0 s1 s2 s3 s4 s5 (1 : Int32))
def B_Rn_state_82 (s0 : S_Rn) (s1 : S_Bs) (s2 : S_Mg) (s3 : S_Ou) (s4 : S_Bs) (s5 : S_Rs) : Option Int32 :=
  ((F_Mg_wantsSet s2).bind fun o1 => (if o1 = 0 then (B_Rn_state_96 s0 s1 s2 s3 s4 s5) else (B_Rn_state_92 s0 s1 s2 s3 s4 s5)))
def B_Rn_state_74 (s0 : S_Rn) (s1 : S_Bs) (s2 : S_Mg) (s3 : S_Ou) (s4 : S_Bs) (s5 : S_Rs) : Option Int32 :=
  (if (Rn_phase s0) = (2 : Int32) then (B_Rn_state_82 s0 s1 s2 s3 s4 s5) else (B_Rn_state_96 s0 s1 s2 s3 s4 s5))
def B_Rn_state_117 (s0 : S_Rn) (s1 : S_Bs) (s2 : S_Mg) (s3 : S_Ou) (s4 : S_Bs) (s5 : S_Rs) (y0 : Int32) : Option Int32 :=
  some y0
def B_Rn_state_116 (s0 : S_Rn) (s1 : S_Bs) (s2 : S_Mg) (s3 : S_Ou) (s4 : S_Bs) (s5 : S_Rs) : Option Int32 :=
  (B_Rn_state_117 s0 s1 s2 s3 s4 s5 (0 : Int32))
def B_Rn_state_106 (s0 : S_Rn) (s1 : S_Bs) (s2 : S_Mg) (s3 : S_Ou) (s4 : S_Bs) (s5 : S_Rs) : Option Int32 :=
  ((F_Bs_count s4).bind fun o1 => (B_Rn_state_117 s0 s1 s2 s3 s4 s5 o1))
def B_Rn_state_98 (s0 : S_Rn) (s1 : S_Bs) (s2 : S_Mg) (s3 : S_Ou) (s4 : S_Bs) (s5 : S_Rs) : Option Int32 :=
  (if (Rn_phase s0) = (2 : Int32) then (B_Rn_state_106 s0 s1 s2 s3 s4 s5) else (B_Rn_state_116 s0 s1 s2 s3 s4 s5))
def B_Rn_state_118 (s0 : S_Rn) (s1 : S_Bs) (s2 : S_Mg) (s3 : S_Ou) (s4 : S_Bs) (s5 : S_Rs) : Option Int32 :=
  ((F_Rs_count s5).bind fun o1 => some o1)
def B_Rn_state_126 (s0 : S_Rn) (s1 : S_Bs) (s2 : S_Mg) (s3 : S_Ou) (s4 : S_Bs) (s5 : S_Rs) : Option Int32 :=
  some (Rn_answered s0)
def B_Rn_state_131 (s0 : S_Rn) (s1 : S_Bs) (s2 : S_Mg) (s3 : S_Ou) (s4 : S_Bs) (s5 : S_Rs) : Option Int32 :=
  some ((-1) : Int32)
def B_Rn_state_0 (s0 : S_Rn) (s1 : S_Bs) (s2 : S_Mg) (s3 : S_Ou) (s4 : S_Bs) (s5 : S_Rs) (x1 : Int32) : Option Int32 :=
  (if x1 = 0 then (B_Rn_state_48 s0 s1 s2 s3 s4 s5) else (if x1 = 1 then (B_Rn_state_53 s0 s1 s2 s3 s4 s5) else (if x1 = 2 then (B_Rn_state_58 s0 s1 s2 s3 s4 s5) else (if x1 = 3 then (B_Rn_state_66 s0 s1 s2 s3 s4 s5) else (if x1 = 4 then (B_Rn_state_74 s0 s1 s2 s3 s4 s5) else (if x1 = 5 then (B_Rn_state_98 s0 s1 s2 s3 s4 s5) else (if x1 = 6 then (B_Rn_state_118 s0 s1 s2 s3 s4 s5) else (if x1 = 7 then (B_Rn_state_126 s0 s1 s2 s3 s4 s5) else (B_Rn_state_131 s0 s1 s2 s3 s4 s5)))))))))
def F_Rn_state (s0 : S_Rn) (s1 : S_Bs) (s2 : S_Mg) (s3 : S_Ou) (s4 : S_Bs) (s5 : S_Rs) (x1 : Int32) : Option Int32 := B_Rn_state_0 s0 s1 s2 s3 s4 s5 x1
set_option maxRecDepth 100000 in
set_option maxHeartbeats 4000000 in
theorem t_Rn_state_48 {p : Program} {l : Launch} {e : Env} {s : State} {m : MethodId} {args : Array Value} {below : List Frame} {meth : Method} {c : Code} {D : va_G} {A : Nat → Prop} {g : Nat → ClassId} {rest : va_W} {K : Nat → Nat → Nat} {ls : Array Slot} {H : Heap} {locs : List Loc} {s0 : S_Rn} {s1 : S_Bs} {s2 : S_Mg} {s3 : S_Ou} {s4 : S_Bs} {s5 : S_Rs} {out : Int32} (X : Cx p s m args meth c prog_1_method_13_code 2 ws_Rn_state R_Rn (some .int) D g) (hl : lv_has ls 2 [(0, .ref (K 0 0))]) (hI : Iw D A (w_Rn g (K 0) (fun j => K (j + 1) 0) s0 ++ (w_Bs g (K 4) s1 ++ (w_Mg g (K 9) s2 ++ (w_Ou g (K 7) s3 ++ (w_Bs g (K 5) s4 ++ (w_Rs g (K 10) (fun k => K (16 + 2 * k)) (fun k => K (17 + 2 * k)) s5 ++ (rest))))))) H) (hS : va_S A s.heap H locs) (h : B_Rn_state_48  s0 s1 s2 s3 s4 s5 = some out) : W p l e (headSpec ws_Rn_state { frames := 1, cells := 0, slots := 0, locals := 20 }).room s m args below meth c H locs 0 0 (MQ below (QcI D A g out (fun (_ : Unit) => w_Rn g (K 0) (fun j => K (j + 1) 0) s0 ++ (w_Bs g (K 4) s1 ++ (w_Mg g (K 9) s2 ++ (w_Ou g (K 7) s3 ++ (w_Bs g (K 5) s4 ++ (w_Rs g (K 10) (fun k => K (16 + 2 * k)) (fun k => K (17 + 2 * k)) s5 ++ (rest)))))))) args s 0 0 A) (F0 m 48 ls []) := by
  have X1 := X
  obtain ⟨hx, hb, hml, hown, hts, hr, hlocks, hKK⟩ := X1
  have ht : ∀ w ∈ TB, w.before args s = true := fun w h => hts w (List.mem_cons_of_mem _ h)
  have hK := hKK.1
  unfold B_Rn_state_48 at h
  refine lv_aload_n hx hb d_Rn_state_48 rfl (lv_at hl 0 rfl) ?_
  refine va_get (D := D) (ci := 8) (v := .int (Rn_phase s0)) (C := R_Rn) (T := T_Rn) (N := 16) hx hb ht in_Rn hown hK hI.1 0 rfl rfl 13 (by decide) (ht _ m_216) (fun _ h9 => h9) rfl d_Rn_state_49 ?_
  have h9 := Option.some.inj h
  subst h9
  exact W.iret (v := (Rn_phase s0)) hx hb hr (fun t ht hW => ⟨⟨_, (), rfl, rfl, ⟨by rw [ht]; exact hI, hKK.moved hW⟩⟩, hS.F ht⟩) hS.2.2 d_Rn_state_52
set_option maxRecDepth 100000 in
set_option maxHeartbeats 4000000 in
theorem t_Rn_state_53 {p : Program} {l : Launch} {e : Env} {s : State} {m : MethodId} {args : Array Value} {below : List Frame} {meth : Method} {c : Code} {D : va_G} {A : Nat → Prop} {g : Nat → ClassId} {rest : va_W} {K : Nat → Nat → Nat} {ls : Array Slot} {H : Heap} {locs : List Loc} {s0 : S_Rn} {s1 : S_Bs} {s2 : S_Mg} {s3 : S_Ou} {s4 : S_Bs} {s5 : S_Rs} {out : Int32} (X : Cx p s m args meth c prog_1_method_13_code 2 ws_Rn_state R_Rn (some .int) D g) (hl : lv_has ls 2 [(0, .ref (K 0 0))]) (hI : Iw D A (w_Rn g (K 0) (fun j => K (j + 1) 0) s0 ++ (w_Bs g (K 4) s1 ++ (w_Mg g (K 9) s2 ++ (w_Ou g (K 7) s3 ++ (w_Bs g (K 5) s4 ++ (w_Rs g (K 10) (fun k => K (16 + 2 * k)) (fun k => K (17 + 2 * k)) s5 ++ (rest))))))) H) (hS : va_S A s.heap H locs) (h : B_Rn_state_53  s0 s1 s2 s3 s4 s5 = some out) : W p l e (headSpec ws_Rn_state { frames := 1, cells := 0, slots := 0, locals := 20 }).room s m args below meth c H locs 0 0 (MQ below (QcI D A g out (fun (_ : Unit) => w_Rn g (K 0) (fun j => K (j + 1) 0) s0 ++ (w_Bs g (K 4) s1 ++ (w_Mg g (K 9) s2 ++ (w_Ou g (K 7) s3 ++ (w_Bs g (K 5) s4 ++ (w_Rs g (K 10) (fun k => K (16 + 2 * k)) (fun k => K (17 + 2 * k)) s5 ++ (rest)))))))) args s 0 0 A) (F0 m 53 ls []) := by
  have X1 := X
  obtain ⟨hx, hb, hml, hown, hts, hr, hlocks, hKK⟩ := X1
  have ht : ∀ w ∈ TB, w.before args s = true := fun w h => hts w (List.mem_cons_of_mem _ h)
  have hK := hKK.1
  unfold B_Rn_state_53 at h
  refine lv_aload_n hx hb d_Rn_state_53 rfl (lv_at hl 0 rfl) ?_
  refine va_get (D := D) (ci := 8) (v := .int (Rn_timer s0)) (C := R_Rn) (T := T_Rn) (N := 16) hx hb ht in_Rn hown hK hI.1 0 rfl rfl 14 (by decide) (ht _ m_217) (fun _ h9 => h9) rfl d_Rn_state_54 ?_
  have h9 := Option.some.inj h
  subst h9
  exact W.iret (v := (Rn_timer s0)) hx hb hr (fun t ht hW => ⟨⟨_, (), rfl, rfl, ⟨by rw [ht]; exact hI, hKK.moved hW⟩⟩, hS.F ht⟩) hS.2.2 d_Rn_state_57
set_option maxRecDepth 100000 in
set_option maxHeartbeats 4000000 in
theorem t_Rn_state_58 {p : Program} {l : Launch} {e : Env} {s : State} {m : MethodId} {args : Array Value} {below : List Frame} {meth : Method} {c : Code} {D : va_G} {A : Nat → Prop} {g : Nat → ClassId} {rest : va_W} {K : Nat → Nat → Nat} {ls : Array Slot} {H : Heap} {locs : List Loc} {s0 : S_Rn} {s1 : S_Bs} {s2 : S_Mg} {s3 : S_Ou} {s4 : S_Bs} {s5 : S_Rs} {out : Int32} (X : Cx p s m args meth c prog_1_method_13_code 2 ws_Rn_state R_Rn (some .int) D g) (hl : lv_has ls 2 [(0, .ref (K 0 0))]) (hI : Iw D A (w_Rn g (K 0) (fun j => K (j + 1) 0) s0 ++ (w_Bs g (K 4) s1 ++ (w_Mg g (K 9) s2 ++ (w_Ou g (K 7) s3 ++ (w_Bs g (K 5) s4 ++ (w_Rs g (K 10) (fun k => K (16 + 2 * k)) (fun k => K (17 + 2 * k)) s5 ++ (rest))))))) H) (hS : va_S A s.heap H locs) (h : B_Rn_state_58  s0 s1 s2 s3 s4 s5 = some out) : W p l e (headSpec ws_Rn_state { frames := 1, cells := 0, slots := 0, locals := 20 }).room s m args below meth c H locs 0 0 (MQ below (QcI D A g out (fun (_ : Unit) => w_Rn g (K 0) (fun j => K (j + 1) 0) s0 ++ (w_Bs g (K 4) s1 ++ (w_Mg g (K 9) s2 ++ (w_Ou g (K 7) s3 ++ (w_Bs g (K 5) s4 ++ (w_Rs g (K 10) (fun k => K (16 + 2 * k)) (fun k => K (17 + 2 * k)) s5 ++ (rest)))))))) args s 0 0 A) (F0 m 58 ls []) := by
  have X1 := X
  obtain ⟨hx, hb, hml, hown, hts, hr, hlocks, hKK⟩ := X1
  have ht : ∀ w ∈ TB, w.before args s = true := fun w h => hts w (List.mem_cons_of_mem _ h)
  have hK := hKK.1
  unfold B_Rn_state_58 at h
  refine lv_aload_n hx hb d_Rn_state_58 rfl (lv_at hl 0 rfl) ?_
  refine va_get (D := D) (ci := 8) (v := .ref (K 7 0)) (C := R_Rn) (T := T_Rn) (N := 16) hx hb ht in_Rn hown hK hI.1 0 rfl rfl 6 (by decide) (ht _ m_209) (fun _ h9 => h9) rfl d_Rn_state_59 ?_
  obtain ⟨o1, ho2, h⟩ := bd_s h
  refine cl_i (W1 := fun (_ : Unit) => w_Rn g (K 0) (fun j => K (j + 1) 0) s0 ++ (w_Bs g (K 4) s1 ++ (w_Mg g (K 9) s2 ++ (w_Ou g (K 7) s3 ++ (w_Bs g (K 5) s4 ++ (w_Rs g (K 10) (fun k => K (16 + 2 * k)) (fun k => K (17 + 2 * k)) s5 ++ (rest))))))) (va_runV (As := []) (rest := []) ⟨hx, hb, hml, hown, ht⟩ (c_Ou_count (l := l) (D := D) (A := A) (g := g) (rest := w_Rn g (K 0) (fun j => K (j + 1) 0) s0 ++ (w_Bs g (K 4) s1 ++ (w_Mg g (K 9) s2 ++ (w_Bs g (K 5) s4 ++ (w_Rs g (K 10) (fun k => K (16 + 2 * k)) (fun k => K (17 + 2 * k)) s5 ++ (rest)))))) (a0 := K 7) ho2) (cwV 0 ht (gd_V m_652 m_653 m_654 m_3 m_655) rfl rfl rfl (by decide +kernel) ⟨(Nat.le_of_ble_eq_true rfl), (Nat.le_of_ble_eq_true rfl)⟩) (prV (ci := 4) (q0 := 0) hKK hI (mv_3) rfl rfl rfl) rfl rfl hl.1 rfl (lv_room (Nat.le_of_ble_eq_true rfl)) d_Rn_state_62 ⟨(Nat.le_of_ble_eq_true rfl), (Nat.le_of_ble_eq_true rfl)⟩) hS (fun _ => ((mv_3)).symm) (fun _ H locs hI hS => ?_)
  have hI : Iw D A (w_Rn g (K 0) (fun j => K (j + 1) 0) s0 ++ (w_Bs g (K 4) s1 ++ (w_Mg g (K 9) s2 ++ (w_Ou g (K 7) s3 ++ (w_Bs g (K 5) s4 ++ (w_Rs g (K 10) (fun k => K (16 + 2 * k)) (fun k => K (17 + 2 * k)) s5 ++ (rest))))))) H := hI
  have h9 := Option.some.inj h
  subst h9
  exact W.iret (v := o1) hx hb hr (fun t ht hW => ⟨⟨_, (), rfl, rfl, ⟨by rw [ht]; exact hI, hKK.moved hW⟩⟩, hS.F ht⟩) hS.2.2 d_Rn_state_65
set_option maxRecDepth 100000 in
set_option maxHeartbeats 4000000 in
theorem t_Rn_state_66 {p : Program} {l : Launch} {e : Env} {s : State} {m : MethodId} {args : Array Value} {below : List Frame} {meth : Method} {c : Code} {D : va_G} {A : Nat → Prop} {g : Nat → ClassId} {rest : va_W} {K : Nat → Nat → Nat} {ls : Array Slot} {H : Heap} {locs : List Loc} {s0 : S_Rn} {s1 : S_Bs} {s2 : S_Mg} {s3 : S_Ou} {s4 : S_Bs} {s5 : S_Rs} {out : Int32} (X : Cx p s m args meth c prog_1_method_13_code 2 ws_Rn_state R_Rn (some .int) D g) (hl : lv_has ls 2 [(0, .ref (K 0 0))]) (hI : Iw D A (w_Rn g (K 0) (fun j => K (j + 1) 0) s0 ++ (w_Bs g (K 4) s1 ++ (w_Mg g (K 9) s2 ++ (w_Ou g (K 7) s3 ++ (w_Bs g (K 5) s4 ++ (w_Rs g (K 10) (fun k => K (16 + 2 * k)) (fun k => K (17 + 2 * k)) s5 ++ (rest))))))) H) (hS : va_S A s.heap H locs) (h : B_Rn_state_66  s0 s1 s2 s3 s4 s5 = some out) : W p l e (headSpec ws_Rn_state { frames := 1, cells := 0, slots := 0, locals := 20 }).room s m args below meth c H locs 0 0 (MQ below (QcI D A g out (fun (_ : Unit) => w_Rn g (K 0) (fun j => K (j + 1) 0) s0 ++ (w_Bs g (K 4) s1 ++ (w_Mg g (K 9) s2 ++ (w_Ou g (K 7) s3 ++ (w_Bs g (K 5) s4 ++ (w_Rs g (K 10) (fun k => K (16 + 2 * k)) (fun k => K (17 + 2 * k)) s5 ++ (rest)))))))) args s 0 0 A) (F0 m 66 ls []) := by
  have X1 := X
  obtain ⟨hx, hb, hml, hown, hts, hr, hlocks, hKK⟩ := X1
  have ht : ∀ w ∈ TB, w.before args s = true := fun w h => hts w (List.mem_cons_of_mem _ h)
  have hK := hKK.1
  unfold B_Rn_state_66 at h
  refine lv_aload_n hx hb d_Rn_state_66 rfl (lv_at hl 0 rfl) ?_
  refine va_get (D := D) (ci := 8) (v := .ref (K 4 0)) (C := R_Rn) (T := T_Rn) (N := 16) hx hb ht in_Rn hown hK hI.1 0 rfl rfl 3 (by decide) (ht _ m_206) (fun _ h9 => h9) rfl d_Rn_state_67 ?_
  obtain ⟨o1, ho2, h⟩ := bd_s h
  refine cl_i (W1 := fun (_ : Unit) => w_Rn g (K 0) (fun j => K (j + 1) 0) s0 ++ (w_Bs g (K 4) s1 ++ (w_Mg g (K 9) s2 ++ (w_Ou g (K 7) s3 ++ (w_Bs g (K 5) s4 ++ (w_Rs g (K 10) (fun k => K (16 + 2 * k)) (fun k => K (17 + 2 * k)) s5 ++ (rest))))))) (va_runV (As := []) (rest := []) ⟨hx, hb, hml, hown, ht⟩ (c_Bs_count (l := l) (D := D) (A := A) (g := g) (rest := w_Rn g (K 0) (fun j => K (j + 1) 0) s0 ++ (w_Mg g (K 9) s2 ++ (w_Ou g (K 7) s3 ++ (w_Bs g (K 5) s4 ++ (w_Rs g (K 10) (fun k => K (16 + 2 * k)) (fun k => K (17 + 2 * k)) s5 ++ (rest)))))) (a0 := K 4) ho2) (cwV 0 ht (gd_V m_302 m_303 m_304 m_2 m_305) rfl rfl rfl (by decide +kernel) ⟨(Nat.le_of_ble_eq_true rfl), (Nat.le_of_ble_eq_true rfl)⟩) (prV (ci := 0) (q0 := 0) hKK hI (mv_1) rfl rfl rfl) rfl rfl hl.1 rfl (lv_room (Nat.le_of_ble_eq_true rfl)) d_Rn_state_70 ⟨(Nat.le_of_ble_eq_true rfl), (Nat.le_of_ble_eq_true rfl)⟩) hS (fun _ => ((mv_1)).symm) (fun _ H locs hI hS => ?_)
  have hI : Iw D A (w_Rn g (K 0) (fun j => K (j + 1) 0) s0 ++ (w_Bs g (K 4) s1 ++ (w_Mg g (K 9) s2 ++ (w_Ou g (K 7) s3 ++ (w_Bs g (K 5) s4 ++ (w_Rs g (K 10) (fun k => K (16 + 2 * k)) (fun k => K (17 + 2 * k)) s5 ++ (rest))))))) H := hI
  have h9 := Option.some.inj h
  subst h9
  exact W.iret (v := o1) hx hb hr (fun t ht hW => ⟨⟨_, (), rfl, rfl, ⟨by rw [ht]; exact hI, hKK.moved hW⟩⟩, hS.F ht⟩) hS.2.2 d_Rn_state_73
set_option maxRecDepth 100000 in
set_option maxHeartbeats 4000000 in
theorem t_Rn_state_97 {p : Program} {l : Launch} {e : Env} {s : State} {m : MethodId} {args : Array Value} {below : List Frame} {meth : Method} {c : Code} {D : va_G} {A : Nat → Prop} {g : Nat → ClassId} {rest : va_W} {K : Nat → Nat → Nat} {ls : Array Slot} {H : Heap} {locs : List Loc} {s0 : S_Rn} {s1 : S_Bs} {s2 : S_Mg} {s3 : S_Ou} {s4 : S_Bs} {s5 : S_Rs} {y0 : Int32} {out : Int32} (X : Cx p s m args meth c prog_1_method_13_code 2 ws_Rn_state R_Rn (some .int) D g) (hl : lv_has ls 2 []) (hI : Iw D A (w_Rn g (K 0) (fun j => K (j + 1) 0) s0 ++ (w_Bs g (K 4) s1 ++ (w_Mg g (K 9) s2 ++ (w_Ou g (K 7) s3 ++ (w_Bs g (K 5) s4 ++ (w_Rs g (K 10) (fun k => K (16 + 2 * k)) (fun k => K (17 + 2 * k)) s5 ++ (rest))))))) H) (hS : va_S A s.heap H locs) (h : B_Rn_state_97  s0 s1 s2 s3 s4 s5 y0 = some out) : W p l e (headSpec ws_Rn_state { frames := 1, cells := 0, slots := 0, locals := 20 }).room s m args below meth c H locs 0 0 (MQ below (QcI D A g out (fun (_ : Unit) => w_Rn g (K 0) (fun j => K (j + 1) 0) s0 ++ (w_Bs g (K 4) s1 ++ (w_Mg g (K 9) s2 ++ (w_Ou g (K 7) s3 ++ (w_Bs g (K 5) s4 ++ (w_Rs g (K 10) (fun k => K (16 + 2 * k)) (fun k => K (17 + 2 * k)) s5 ++ (rest)))))))) args s 0 0 A) (F0 m 97 ls [.int y0]) := by
  have X1 := X
  obtain ⟨hx, hb, hml, hown, hts, hr, hlocks, hKK⟩ := X1
  have ht : ∀ w ∈ TB, w.before args s = true := fun w h => hts w (List.mem_cons_of_mem _ h)
  have hK := hKK.1
  unfold B_Rn_state_97 at h
  have h9 := Option.some.inj h
  subst h9
  exact W.iret (v := y0) hx hb hr (fun t ht hW => ⟨⟨_, (), rfl, rfl, ⟨by rw [ht]; exact hI, hKK.moved hW⟩⟩, hS.F ht⟩) hS.2.2 d_Rn_state_97
set_option maxRecDepth 100000 in
set_option maxHeartbeats 4000000 in
theorem t_Rn_state_96 {p : Program} {l : Launch} {e : Env} {s : State} {m : MethodId} {args : Array Value} {below : List Frame} {meth : Method} {c : Code} {D : va_G} {A : Nat → Prop} {g : Nat → ClassId} {rest : va_W} {K : Nat → Nat → Nat} {ls : Array Slot} {H : Heap} {locs : List Loc} {s0 : S_Rn} {s1 : S_Bs} {s2 : S_Mg} {s3 : S_Ou} {s4 : S_Bs} {s5 : S_Rs} {out : Int32} (X : Cx p s m args meth c prog_1_method_13_code 2 ws_Rn_state R_Rn (some .int) D g) (hl : lv_has ls 2 []) (hI : Iw D A (w_Rn g (K 0) (fun j => K (j + 1) 0) s0 ++ (w_Bs g (K 4) s1 ++ (w_Mg g (K 9) s2 ++ (w_Ou g (K 7) s3 ++ (w_Bs g (K 5) s4 ++ (w_Rs g (K 10) (fun k => K (16 + 2 * k)) (fun k => K (17 + 2 * k)) s5 ++ (rest))))))) H) (hS : va_S A s.heap H locs) (h : B_Rn_state_96  s0 s1 s2 s3 s4 s5 = some out) : W p l e (headSpec ws_Rn_state { frames := 1, cells := 0, slots := 0, locals := 20 }).room s m args below meth c H locs 0 0 (MQ below (QcI D A g out (fun (_ : Unit) => w_Rn g (K 0) (fun j => K (j + 1) 0) s0 ++ (w_Bs g (K 4) s1 ++ (w_Mg g (K 9) s2 ++ (w_Ou g (K 7) s3 ++ (w_Bs g (K 5) s4 ++ (w_Rs g (K 10) (fun k => K (16 + 2 * k)) (fun k => K (17 + 2 * k)) s5 ++ (rest)))))))) args s 0 0 A) (F0 m 96 ls []) := by
  have X1 := X
  obtain ⟨hx, hb, hml, hown, hts, hr, hlocks, hKK⟩ := X1
  have ht : ∀ w ∈ TB, w.before args s = true := fun w h => hts w (List.mem_cons_of_mem _ h)
  have hK := hKK.1
  unfold B_Rn_state_96 at h
  refine lv_iconst (v := 0) hx hb d_Rn_state_96 (by decide) ?_
  exact t_Rn_state_97 X (lv_sub hl [] rfl) hI hS h
set_option maxRecDepth 100000 in
set_option maxHeartbeats 4000000 in
theorem t_Rn_state_92 {p : Program} {l : Launch} {e : Env} {s : State} {m : MethodId} {args : Array Value} {below : List Frame} {meth : Method} {c : Code} {D : va_G} {A : Nat → Prop} {g : Nat → ClassId} {rest : va_W} {K : Nat → Nat → Nat} {ls : Array Slot} {H : Heap} {locs : List Loc} {s0 : S_Rn} {s1 : S_Bs} {s2 : S_Mg} {s3 : S_Ou} {s4 : S_Bs} {s5 : S_Rs} {out : Int32} (X : Cx p s m args meth c prog_1_method_13_code 2 ws_Rn_state R_Rn (some .int) D g) (hl : lv_has ls 2 []) (hI : Iw D A (w_Rn g (K 0) (fun j => K (j + 1) 0) s0 ++ (w_Bs g (K 4) s1 ++ (w_Mg g (K 9) s2 ++ (w_Ou g (K 7) s3 ++ (w_Bs g (K 5) s4 ++ (w_Rs g (K 10) (fun k => K (16 + 2 * k)) (fun k => K (17 + 2 * k)) s5 ++ (rest))))))) H) (hS : va_S A s.heap H locs) (h : B_Rn_state_92  s0 s1 s2 s3 s4 s5 = some out) : W p l e (headSpec ws_Rn_state { frames := 1, cells := 0, slots := 0, locals := 20 }).room s m args below meth c H locs 0 0 (MQ below (QcI D A g out (fun (_ : Unit) => w_Rn g (K 0) (fun j => K (j + 1) 0) s0 ++ (w_Bs g (K 4) s1 ++ (w_Mg g (K 9) s2 ++ (w_Ou g (K 7) s3 ++ (w_Bs g (K 5) s4 ++ (w_Rs g (K 10) (fun k => K (16 + 2 * k)) (fun k => K (17 + 2 * k)) s5 ++ (rest)))))))) args s 0 0 A) (F0 m 92 ls []) := by
  have X1 := X
  obtain ⟨hx, hb, hml, hown, hts, hr, hlocks, hKK⟩ := X1
  have ht : ∀ w ∈ TB, w.before args s = true := fun w h => hts w (List.mem_cons_of_mem _ h)
  have hK := hKK.1
  unfold B_Rn_state_92 at h
  refine lv_iconst (v := 1) hx hb d_Rn_state_92 (by decide) ?_
  refine lv_goto (tgt := 97) hx hb d_Rn_state_93 (by decide) ?_
  exact t_Rn_state_97 X (lv_sub hl [] rfl) hI hS h
set_option maxRecDepth 100000 in
set_option maxHeartbeats 4000000 in
theorem t_Rn_state_82 {p : Program} {l : Launch} {e : Env} {s : State} {m : MethodId} {args : Array Value} {below : List Frame} {meth : Method} {c : Code} {D : va_G} {A : Nat → Prop} {g : Nat → ClassId} {rest : va_W} {K : Nat → Nat → Nat} {ls : Array Slot} {H : Heap} {locs : List Loc} {s0 : S_Rn} {s1 : S_Bs} {s2 : S_Mg} {s3 : S_Ou} {s4 : S_Bs} {s5 : S_Rs} {out : Int32} (X : Cx p s m args meth c prog_1_method_13_code 2 ws_Rn_state R_Rn (some .int) D g) (hl : lv_has ls 2 [(0, .ref (K 0 0))]) (hI : Iw D A (w_Rn g (K 0) (fun j => K (j + 1) 0) s0 ++ (w_Bs g (K 4) s1 ++ (w_Mg g (K 9) s2 ++ (w_Ou g (K 7) s3 ++ (w_Bs g (K 5) s4 ++ (w_Rs g (K 10) (fun k => K (16 + 2 * k)) (fun k => K (17 + 2 * k)) s5 ++ (rest))))))) H) (hS : va_S A s.heap H locs) (h : B_Rn_state_82  s0 s1 s2 s3 s4 s5 = some out) : W p l e (headSpec ws_Rn_state { frames := 1, cells := 0, slots := 0, locals := 20 }).room s m args below meth c H locs 0 0 (MQ below (QcI D A g out (fun (_ : Unit) => w_Rn g (K 0) (fun j => K (j + 1) 0) s0 ++ (w_Bs g (K 4) s1 ++ (w_Mg g (K 9) s2 ++ (w_Ou g (K 7) s3 ++ (w_Bs g (K 5) s4 ++ (w_Rs g (K 10) (fun k => K (16 + 2 * k)) (fun k => K (17 + 2 * k)) s5 ++ (rest)))))))) args s 0 0 A) (F0 m 82 ls []) := by
  have X1 := X
  obtain ⟨hx, hb, hml, hown, hts, hr, hlocks, hKK⟩ := X1
  have ht : ∀ w ∈ TB, w.before args s = true := fun w h => hts w (List.mem_cons_of_mem _ h)
  have hK := hKK.1
  unfold B_Rn_state_82 at h
  refine lv_aload_n hx hb d_Rn_state_82 rfl (lv_at hl 0 rfl) ?_
  refine va_get (D := D) (ci := 8) (v := .ref (K 9 0)) (C := R_Rn) (T := T_Rn) (N := 16) hx hb ht in_Rn hown hK hI.1 0 rfl rfl 8 (by decide) (ht _ m_211) (fun _ h9 => h9) rfl d_Rn_state_83 ?_
  obtain ⟨o1, ho2, h⟩ := bd_s h
  refine cl_i (W1 := fun (_ : Unit) => w_Rn g (K 0) (fun j => K (j + 1) 0) s0 ++ (w_Bs g (K 4) s1 ++ (w_Mg g (K 9) s2 ++ (w_Ou g (K 7) s3 ++ (w_Bs g (K 5) s4 ++ (w_Rs g (K 10) (fun k => K (16 + 2 * k)) (fun k => K (17 + 2 * k)) s5 ++ (rest))))))) (va_runV (As := []) (rest := []) ⟨hx, hb, hml, hown, ht⟩ (c_Mg_wantsSet (l := l) (D := D) (A := A) (g := g) (rest := w_Rn g (K 0) (fun j => K (j + 1) 0) s0 ++ (w_Bs g (K 4) s1 ++ (w_Ou g (K 7) s3 ++ (w_Bs g (K 5) s4 ++ (w_Rs g (K 10) (fun k => K (16 + 2 * k)) (fun k => K (17 + 2 * k)) s5 ++ (rest)))))) (a0 := K 9) ho2) (cwV 0 ht (gd_V m_656 m_397 m_398 m_5 m_399) rfl rfl rfl (by decide +kernel) ⟨(Nat.le_of_ble_eq_true rfl), (Nat.le_of_ble_eq_true rfl)⟩) (prV (ci := 3) (q0 := 0) hKK hI (mv_2) rfl rfl rfl) rfl rfl hl.1 rfl (lv_room (Nat.le_of_ble_eq_true rfl)) d_Rn_state_86 ⟨(Nat.le_of_ble_eq_true rfl), (Nat.le_of_ble_eq_true rfl)⟩) hS (fun _ => ((mv_2)).symm) (fun _ H locs hI hS => ?_)
  have hI : Iw D A (w_Rn g (K 0) (fun j => K (j + 1) 0) s0 ++ (w_Bs g (K 4) s1 ++ (w_Mg g (K 9) s2 ++ (w_Ou g (K 7) s3 ++ (w_Bs g (K 5) s4 ++ (w_Rs g (K 10) (fun k => K (16 + 2 * k)) (fun k => K (17 + 2 * k)) s5 ++ (rest))))))) H := hI
  refine lv_if_eq (tgt := 96) hx hb d_Rn_state_89 (by decide) (fun hc => ?_) (fun hc => ?_)
  · have h := it_t h hc
    exact t_Rn_state_96 X (lv_sub hl [] rfl) hI hS h
  · have h := it_f h hc
    exact t_Rn_state_92 X (lv_sub hl [] rfl) hI hS h
set_option maxRecDepth 100000 in
set_option maxHeartbeats 4000000 in
theorem t_Rn_state_74 {p : Program} {l : Launch} {e : Env} {s : State} {m : MethodId} {args : Array Value} {below : List Frame} {meth : Method} {c : Code} {D : va_G} {A : Nat → Prop} {g : Nat → ClassId} {rest : va_W} {K : Nat → Nat → Nat} {ls : Array Slot} {H : Heap} {locs : List Loc} {s0 : S_Rn} {s1 : S_Bs} {s2 : S_Mg} {s3 : S_Ou} {s4 : S_Bs} {s5 : S_Rs} {out : Int32} (X : Cx p s m args meth c prog_1_method_13_code 2 ws_Rn_state R_Rn (some .int) D g) (hl : lv_has ls 2 [(0, .ref (K 0 0))]) (hI : Iw D A (w_Rn g (K 0) (fun j => K (j + 1) 0) s0 ++ (w_Bs g (K 4) s1 ++ (w_Mg g (K 9) s2 ++ (w_Ou g (K 7) s3 ++ (w_Bs g (K 5) s4 ++ (w_Rs g (K 10) (fun k => K (16 + 2 * k)) (fun k => K (17 + 2 * k)) s5 ++ (rest))))))) H) (hS : va_S A s.heap H locs) (h : B_Rn_state_74  s0 s1 s2 s3 s4 s5 = some out) : W p l e (headSpec ws_Rn_state { frames := 1, cells := 0, slots := 0, locals := 20 }).room s m args below meth c H locs 0 0 (MQ below (QcI D A g out (fun (_ : Unit) => w_Rn g (K 0) (fun j => K (j + 1) 0) s0 ++ (w_Bs g (K 4) s1 ++ (w_Mg g (K 9) s2 ++ (w_Ou g (K 7) s3 ++ (w_Bs g (K 5) s4 ++ (w_Rs g (K 10) (fun k => K (16 + 2 * k)) (fun k => K (17 + 2 * k)) s5 ++ (rest)))))))) args s 0 0 A) (F0 m 74 ls []) := by
  have X1 := X
  obtain ⟨hx, hb, hml, hown, hts, hr, hlocks, hKK⟩ := X1
  have ht : ∀ w ∈ TB, w.before args s = true := fun w h => hts w (List.mem_cons_of_mem _ h)
  have hK := hKK.1
  unfold B_Rn_state_74 at h
  refine lv_aload_n hx hb d_Rn_state_74 rfl (lv_at hl 0 rfl) ?_
  refine va_get (D := D) (ci := 8) (v := .int (Rn_phase s0)) (C := R_Rn) (T := T_Rn) (N := 16) hx hb ht in_Rn hown hK hI.1 0 rfl rfl 13 (by decide) (ht _ m_216) (fun _ h9 => h9) rfl d_Rn_state_75 ?_
  refine lv_iconst (v := 2) hx hb d_Rn_state_78 (by decide) ?_
  refine lv_icmp_ne (tgt := 96) hx hb d_Rn_state_79 (by decide) (fun hc => ?_) (fun hc => ?_)
  · have h := it_f h hc
    exact t_Rn_state_96 X (lv_sub hl [] rfl) hI hS h
  · have h := it_t h hc
    exact t_Rn_state_82 X (lv_sub hl [0] rfl) hI hS h
set_option maxRecDepth 100000 in
set_option maxHeartbeats 4000000 in
theorem t_Rn_state_117 {p : Program} {l : Launch} {e : Env} {s : State} {m : MethodId} {args : Array Value} {below : List Frame} {meth : Method} {c : Code} {D : va_G} {A : Nat → Prop} {g : Nat → ClassId} {rest : va_W} {K : Nat → Nat → Nat} {ls : Array Slot} {H : Heap} {locs : List Loc} {s0 : S_Rn} {s1 : S_Bs} {s2 : S_Mg} {s3 : S_Ou} {s4 : S_Bs} {s5 : S_Rs} {y0 : Int32} {out : Int32} (X : Cx p s m args meth c prog_1_method_13_code 2 ws_Rn_state R_Rn (some .int) D g) (hl : lv_has ls 2 []) (hI : Iw D A (w_Rn g (K 0) (fun j => K (j + 1) 0) s0 ++ (w_Bs g (K 4) s1 ++ (w_Mg g (K 9) s2 ++ (w_Ou g (K 7) s3 ++ (w_Bs g (K 5) s4 ++ (w_Rs g (K 10) (fun k => K (16 + 2 * k)) (fun k => K (17 + 2 * k)) s5 ++ (rest))))))) H) (hS : va_S A s.heap H locs) (h : B_Rn_state_117  s0 s1 s2 s3 s4 s5 y0 = some out) : W p l e (headSpec ws_Rn_state { frames := 1, cells := 0, slots := 0, locals := 20 }).room s m args below meth c H locs 0 0 (MQ below (QcI D A g out (fun (_ : Unit) => w_Rn g (K 0) (fun j => K (j + 1) 0) s0 ++ (w_Bs g (K 4) s1 ++ (w_Mg g (K 9) s2 ++ (w_Ou g (K 7) s3 ++ (w_Bs g (K 5) s4 ++ (w_Rs g (K 10) (fun k => K (16 + 2 * k)) (fun k => K (17 + 2 * k)) s5 ++ (rest)))))))) args s 0 0 A) (F0 m 117 ls [.int y0]) := by
  have X1 := X
  obtain ⟨hx, hb, hml, hown, hts, hr, hlocks, hKK⟩ := X1
  have ht : ∀ w ∈ TB, w.before args s = true := fun w h => hts w (List.mem_cons_of_mem _ h)
  have hK := hKK.1
  unfold B_Rn_state_117 at h
  have h9 := Option.some.inj h
  subst h9
  exact W.iret (v := y0) hx hb hr (fun t ht hW => ⟨⟨_, (), rfl, rfl, ⟨by rw [ht]; exact hI, hKK.moved hW⟩⟩, hS.F ht⟩) hS.2.2 d_Rn_state_117
set_option maxRecDepth 100000 in
set_option maxHeartbeats 4000000 in
theorem t_Rn_state_116 {p : Program} {l : Launch} {e : Env} {s : State} {m : MethodId} {args : Array Value} {below : List Frame} {meth : Method} {c : Code} {D : va_G} {A : Nat → Prop} {g : Nat → ClassId} {rest : va_W} {K : Nat → Nat → Nat} {ls : Array Slot} {H : Heap} {locs : List Loc} {s0 : S_Rn} {s1 : S_Bs} {s2 : S_Mg} {s3 : S_Ou} {s4 : S_Bs} {s5 : S_Rs} {out : Int32} (X : Cx p s m args meth c prog_1_method_13_code 2 ws_Rn_state R_Rn (some .int) D g) (hl : lv_has ls 2 []) (hI : Iw D A (w_Rn g (K 0) (fun j => K (j + 1) 0) s0 ++ (w_Bs g (K 4) s1 ++ (w_Mg g (K 9) s2 ++ (w_Ou g (K 7) s3 ++ (w_Bs g (K 5) s4 ++ (w_Rs g (K 10) (fun k => K (16 + 2 * k)) (fun k => K (17 + 2 * k)) s5 ++ (rest))))))) H) (hS : va_S A s.heap H locs) (h : B_Rn_state_116  s0 s1 s2 s3 s4 s5 = some out) : W p l e (headSpec ws_Rn_state { frames := 1, cells := 0, slots := 0, locals := 20 }).room s m args below meth c H locs 0 0 (MQ below (QcI D A g out (fun (_ : Unit) => w_Rn g (K 0) (fun j => K (j + 1) 0) s0 ++ (w_Bs g (K 4) s1 ++ (w_Mg g (K 9) s2 ++ (w_Ou g (K 7) s3 ++ (w_Bs g (K 5) s4 ++ (w_Rs g (K 10) (fun k => K (16 + 2 * k)) (fun k => K (17 + 2 * k)) s5 ++ (rest)))))))) args s 0 0 A) (F0 m 116 ls []) := by
  have X1 := X
  obtain ⟨hx, hb, hml, hown, hts, hr, hlocks, hKK⟩ := X1
  have ht : ∀ w ∈ TB, w.before args s = true := fun w h => hts w (List.mem_cons_of_mem _ h)
  have hK := hKK.1
  unfold B_Rn_state_116 at h
  refine lv_iconst (v := 0) hx hb d_Rn_state_116 (by decide) ?_
  exact t_Rn_state_117 X (lv_sub hl [] rfl) hI hS h
set_option maxRecDepth 100000 in
set_option maxHeartbeats 4000000 in
theorem t_Rn_state_106 {p : Program} {l : Launch} {e : Env} {s : State} {m : MethodId} {args : Array Value} {below : List Frame} {meth : Method} {c : Code} {D : va_G} {A : Nat → Prop} {g : Nat → ClassId} {rest : va_W} {K : Nat → Nat → Nat} {ls : Array Slot} {H : Heap} {locs : List Loc} {s0 : S_Rn} {s1 : S_Bs} {s2 : S_Mg} {s3 : S_Ou} {s4 : S_Bs} {s5 : S_Rs} {out : Int32} (X : Cx p s m args meth c prog_1_method_13_code 2 ws_Rn_state R_Rn (some .int) D g) (hl : lv_has ls 2 [(0, .ref (K 0 0))]) (hI : Iw D A (w_Rn g (K 0) (fun j => K (j + 1) 0) s0 ++ (w_Bs g (K 4) s1 ++ (w_Mg g (K 9) s2 ++ (w_Ou g (K 7) s3 ++ (w_Bs g (K 5) s4 ++ (w_Rs g (K 10) (fun k => K (16 + 2 * k)) (fun k => K (17 + 2 * k)) s5 ++ (rest))))))) H) (hS : va_S A s.heap H locs) (h : B_Rn_state_106  s0 s1 s2 s3 s4 s5 = some out) : W p l e (headSpec ws_Rn_state { frames := 1, cells := 0, slots := 0, locals := 20 }).room s m args below meth c H locs 0 0 (MQ below (QcI D A g out (fun (_ : Unit) => w_Rn g (K 0) (fun j => K (j + 1) 0) s0 ++ (w_Bs g (K 4) s1 ++ (w_Mg g (K 9) s2 ++ (w_Ou g (K 7) s3 ++ (w_Bs g (K 5) s4 ++ (w_Rs g (K 10) (fun k => K (16 + 2 * k)) (fun k => K (17 + 2 * k)) s5 ++ (rest)))))))) args s 0 0 A) (F0 m 106 ls []) := by
  have X1 := X
  obtain ⟨hx, hb, hml, hown, hts, hr, hlocks, hKK⟩ := X1
  have ht : ∀ w ∈ TB, w.before args s = true := fun w h => hts w (List.mem_cons_of_mem _ h)
  have hK := hKK.1
  unfold B_Rn_state_106 at h
  refine lv_aload_n hx hb d_Rn_state_106 rfl (lv_at hl 0 rfl) ?_
  refine va_get (D := D) (ci := 8) (v := .ref (K 5 0)) (C := R_Rn) (T := T_Rn) (N := 16) hx hb ht in_Rn hown hK hI.1 0 rfl rfl 4 (by decide) (ht _ m_207) (fun _ h9 => h9) rfl d_Rn_state_107 ?_
  obtain ⟨o1, ho2, h⟩ := bd_s h
  refine cl_i (W1 := fun (_ : Unit) => w_Rn g (K 0) (fun j => K (j + 1) 0) s0 ++ (w_Bs g (K 4) s1 ++ (w_Mg g (K 9) s2 ++ (w_Ou g (K 7) s3 ++ (w_Bs g (K 5) s4 ++ (w_Rs g (K 10) (fun k => K (16 + 2 * k)) (fun k => K (17 + 2 * k)) s5 ++ (rest))))))) (va_runV (As := []) (rest := []) ⟨hx, hb, hml, hown, ht⟩ (c_Bs_count (l := l) (D := D) (A := A) (g := g) (rest := w_Rn g (K 0) (fun j => K (j + 1) 0) s0 ++ (w_Bs g (K 4) s1 ++ (w_Mg g (K 9) s2 ++ (w_Ou g (K 7) s3 ++ (w_Rs g (K 10) (fun k => K (16 + 2 * k)) (fun k => K (17 + 2 * k)) s5 ++ (rest)))))) (a0 := K 5) ho2) (cwV 0 ht (gd_V m_302 m_303 m_304 m_2 m_305) rfl rfl rfl (by decide +kernel) ⟨(Nat.le_of_ble_eq_true rfl), (Nat.le_of_ble_eq_true rfl)⟩) (prV (ci := 0) (q0 := 0) hKK hI (mv_4) rfl rfl rfl) rfl rfl hl.1 rfl (lv_room (Nat.le_of_ble_eq_true rfl)) d_Rn_state_110 ⟨(Nat.le_of_ble_eq_true rfl), (Nat.le_of_ble_eq_true rfl)⟩) hS (fun _ => ((mv_4)).symm) (fun _ H locs hI hS => ?_)
  have hI : Iw D A (w_Rn g (K 0) (fun j => K (j + 1) 0) s0 ++ (w_Bs g (K 4) s1 ++ (w_Mg g (K 9) s2 ++ (w_Ou g (K 7) s3 ++ (w_Bs g (K 5) s4 ++ (w_Rs g (K 10) (fun k => K (16 + 2 * k)) (fun k => K (17 + 2 * k)) s5 ++ (rest))))))) H := hI
  refine lv_goto (tgt := 117) hx hb d_Rn_state_113 (by decide) ?_
  exact t_Rn_state_117 X (lv_sub hl [] rfl) hI hS h
set_option maxRecDepth 100000 in
set_option maxHeartbeats 4000000 in
theorem t_Rn_state_98 {p : Program} {l : Launch} {e : Env} {s : State} {m : MethodId} {args : Array Value} {below : List Frame} {meth : Method} {c : Code} {D : va_G} {A : Nat → Prop} {g : Nat → ClassId} {rest : va_W} {K : Nat → Nat → Nat} {ls : Array Slot} {H : Heap} {locs : List Loc} {s0 : S_Rn} {s1 : S_Bs} {s2 : S_Mg} {s3 : S_Ou} {s4 : S_Bs} {s5 : S_Rs} {out : Int32} (X : Cx p s m args meth c prog_1_method_13_code 2 ws_Rn_state R_Rn (some .int) D g) (hl : lv_has ls 2 [(0, .ref (K 0 0))]) (hI : Iw D A (w_Rn g (K 0) (fun j => K (j + 1) 0) s0 ++ (w_Bs g (K 4) s1 ++ (w_Mg g (K 9) s2 ++ (w_Ou g (K 7) s3 ++ (w_Bs g (K 5) s4 ++ (w_Rs g (K 10) (fun k => K (16 + 2 * k)) (fun k => K (17 + 2 * k)) s5 ++ (rest))))))) H) (hS : va_S A s.heap H locs) (h : B_Rn_state_98  s0 s1 s2 s3 s4 s5 = some out) : W p l e (headSpec ws_Rn_state { frames := 1, cells := 0, slots := 0, locals := 20 }).room s m args below meth c H locs 0 0 (MQ below (QcI D A g out (fun (_ : Unit) => w_Rn g (K 0) (fun j => K (j + 1) 0) s0 ++ (w_Bs g (K 4) s1 ++ (w_Mg g (K 9) s2 ++ (w_Ou g (K 7) s3 ++ (w_Bs g (K 5) s4 ++ (w_Rs g (K 10) (fun k => K (16 + 2 * k)) (fun k => K (17 + 2 * k)) s5 ++ (rest)))))))) args s 0 0 A) (F0 m 98 ls []) := by
  have X1 := X
  obtain ⟨hx, hb, hml, hown, hts, hr, hlocks, hKK⟩ := X1
  have ht : ∀ w ∈ TB, w.before args s = true := fun w h => hts w (List.mem_cons_of_mem _ h)
  have hK := hKK.1
  unfold B_Rn_state_98 at h
  refine lv_aload_n hx hb d_Rn_state_98 rfl (lv_at hl 0 rfl) ?_
  refine va_get (D := D) (ci := 8) (v := .int (Rn_phase s0)) (C := R_Rn) (T := T_Rn) (N := 16) hx hb ht in_Rn hown hK hI.1 0 rfl rfl 13 (by decide) (ht _ m_216) (fun _ h9 => h9) rfl d_Rn_state_99 ?_
  refine lv_iconst (v := 2) hx hb d_Rn_state_102 (by decide) ?_
  refine lv_icmp_ne (tgt := 116) hx hb d_Rn_state_103 (by decide) (fun hc => ?_) (fun hc => ?_)
  · have h := it_f h hc
    exact t_Rn_state_116 X (lv_sub hl [] rfl) hI hS h
  · have h := it_t h hc
    exact t_Rn_state_106 X (lv_sub hl [0] rfl) hI hS h
set_option maxRecDepth 100000 in
set_option maxHeartbeats 4000000 in
theorem t_Rn_state_118 {p : Program} {l : Launch} {e : Env} {s : State} {m : MethodId} {args : Array Value} {below : List Frame} {meth : Method} {c : Code} {D : va_G} {A : Nat → Prop} {g : Nat → ClassId} {rest : va_W} {K : Nat → Nat → Nat} {ls : Array Slot} {H : Heap} {locs : List Loc} {s0 : S_Rn} {s1 : S_Bs} {s2 : S_Mg} {s3 : S_Ou} {s4 : S_Bs} {s5 : S_Rs} {out : Int32} (X : Cx p s m args meth c prog_1_method_13_code 2 ws_Rn_state R_Rn (some .int) D g) (hl : lv_has ls 2 [(0, .ref (K 0 0))]) (hI : Iw D A (w_Rn g (K 0) (fun j => K (j + 1) 0) s0 ++ (w_Bs g (K 4) s1 ++ (w_Mg g (K 9) s2 ++ (w_Ou g (K 7) s3 ++ (w_Bs g (K 5) s4 ++ (w_Rs g (K 10) (fun k => K (16 + 2 * k)) (fun k => K (17 + 2 * k)) s5 ++ (rest))))))) H) (hS : va_S A s.heap H locs) (h : B_Rn_state_118  s0 s1 s2 s3 s4 s5 = some out) : W p l e (headSpec ws_Rn_state { frames := 1, cells := 0, slots := 0, locals := 20 }).room s m args below meth c H locs 0 0 (MQ below (QcI D A g out (fun (_ : Unit) => w_Rn g (K 0) (fun j => K (j + 1) 0) s0 ++ (w_Bs g (K 4) s1 ++ (w_Mg g (K 9) s2 ++ (w_Ou g (K 7) s3 ++ (w_Bs g (K 5) s4 ++ (w_Rs g (K 10) (fun k => K (16 + 2 * k)) (fun k => K (17 + 2 * k)) s5 ++ (rest)))))))) args s 0 0 A) (F0 m 118 ls []) := by
  have X1 := X
  obtain ⟨hx, hb, hml, hown, hts, hr, hlocks, hKK⟩ := X1
  have ht : ∀ w ∈ TB, w.before args s = true := fun w h => hts w (List.mem_cons_of_mem _ h)
  have hK := hKK.1
  unfold B_Rn_state_118 at h
  refine lv_aload_n hx hb d_Rn_state_118 rfl (lv_at hl 0 rfl) ?_
  refine va_get (D := D) (ci := 8) (v := .ref (K 10 0)) (C := R_Rn) (T := T_Rn) (N := 16) hx hb ht in_Rn hown hK hI.1 0 rfl rfl 9 (by decide) (ht _ m_212) (fun _ h9 => h9) rfl d_Rn_state_119 ?_
  obtain ⟨o1, ho2, h⟩ := bd_s h
  refine cl_i (W1 := fun (_ : Unit) => w_Rn g (K 0) (fun j => K (j + 1) 0) s0 ++ (w_Bs g (K 4) s1 ++ (w_Mg g (K 9) s2 ++ (w_Ou g (K 7) s3 ++ (w_Bs g (K 5) s4 ++ (w_Rs g (K 10) (fun k => K (16 + 2 * k)) (fun k => K (17 + 2 * k)) s5 ++ (rest))))))) (va_runV (As := []) (rest := []) ⟨hx, hb, hml, hown, ht⟩ (c_Rs_count (l := l) (D := D) (A := A) (g := g) (rest := w_Rn g (K 0) (fun j => K (j + 1) 0) s0 ++ (w_Bs g (K 4) s1 ++ (w_Mg g (K 9) s2 ++ (w_Ou g (K 7) s3 ++ (w_Bs g (K 5) s4 ++ (rest)))))) (a0 := K 10) (N := (fun k => K (16 + 2 * k))) (B := (fun k => K (17 + 2 * k))) ho2) (cwV 0 ht (gd_V m_610 m_611 m_612 m_6 m_613) rfl rfl rfl (by decide +kernel) ⟨(Nat.le_of_ble_eq_true rfl), (Nat.le_of_ble_eq_true rfl)⟩) (prV (ci := 6) (q0 := 0) hKK hI (mv_5) rfl rfl rfl) rfl rfl hl.1 rfl (lv_room (Nat.le_of_ble_eq_true rfl)) d_Rn_state_122 ⟨(Nat.le_of_ble_eq_true rfl), (Nat.le_of_ble_eq_true rfl)⟩) hS (fun _ => ((mv_5)).symm) (fun _ H locs hI hS => ?_)
  have hI : Iw D A (w_Rn g (K 0) (fun j => K (j + 1) 0) s0 ++ (w_Bs g (K 4) s1 ++ (w_Mg g (K 9) s2 ++ (w_Ou g (K 7) s3 ++ (w_Bs g (K 5) s4 ++ (w_Rs g (K 10) (fun k => K (16 + 2 * k)) (fun k => K (17 + 2 * k)) s5 ++ (rest))))))) H := hI
  have h9 := Option.some.inj h
  subst h9
  exact W.iret (v := o1) hx hb hr (fun t ht hW => ⟨⟨_, (), rfl, rfl, ⟨by rw [ht]; exact hI, hKK.moved hW⟩⟩, hS.F ht⟩) hS.2.2 d_Rn_state_125
set_option maxRecDepth 100000 in
set_option maxHeartbeats 4000000 in
theorem t_Rn_state_126 {p : Program} {l : Launch} {e : Env} {s : State} {m : MethodId} {args : Array Value} {below : List Frame} {meth : Method} {c : Code} {D : va_G} {A : Nat → Prop} {g : Nat → ClassId} {rest : va_W} {K : Nat → Nat → Nat} {ls : Array Slot} {H : Heap} {locs : List Loc} {s0 : S_Rn} {s1 : S_Bs} {s2 : S_Mg} {s3 : S_Ou} {s4 : S_Bs} {s5 : S_Rs} {out : Int32} (X : Cx p s m args meth c prog_1_method_13_code 2 ws_Rn_state R_Rn (some .int) D g) (hl : lv_has ls 2 [(0, .ref (K 0 0))]) (hI : Iw D A (w_Rn g (K 0) (fun j => K (j + 1) 0) s0 ++ (w_Bs g (K 4) s1 ++ (w_Mg g (K 9) s2 ++ (w_Ou g (K 7) s3 ++ (w_Bs g (K 5) s4 ++ (w_Rs g (K 10) (fun k => K (16 + 2 * k)) (fun k => K (17 + 2 * k)) s5 ++ (rest))))))) H) (hS : va_S A s.heap H locs) (h : B_Rn_state_126  s0 s1 s2 s3 s4 s5 = some out) : W p l e (headSpec ws_Rn_state { frames := 1, cells := 0, slots := 0, locals := 20 }).room s m args below meth c H locs 0 0 (MQ below (QcI D A g out (fun (_ : Unit) => w_Rn g (K 0) (fun j => K (j + 1) 0) s0 ++ (w_Bs g (K 4) s1 ++ (w_Mg g (K 9) s2 ++ (w_Ou g (K 7) s3 ++ (w_Bs g (K 5) s4 ++ (w_Rs g (K 10) (fun k => K (16 + 2 * k)) (fun k => K (17 + 2 * k)) s5 ++ (rest)))))))) args s 0 0 A) (F0 m 126 ls []) := by
  have X1 := X
  obtain ⟨hx, hb, hml, hown, hts, hr, hlocks, hKK⟩ := X1
  have ht : ∀ w ∈ TB, w.before args s = true := fun w h => hts w (List.mem_cons_of_mem _ h)
  have hK := hKK.1
  unfold B_Rn_state_126 at h
  refine lv_aload_n hx hb d_Rn_state_126 rfl (lv_at hl 0 rfl) ?_
  refine va_get (D := D) (ci := 8) (v := .int (Rn_answered s0)) (C := R_Rn) (T := T_Rn) (N := 16) hx hb ht in_Rn hown hK hI.1 0 rfl rfl 15 (by decide) (ht _ m_218) (fun _ h9 => h9) rfl d_Rn_state_127 ?_
  have h9 := Option.some.inj h
  subst h9
  exact W.iret (v := (Rn_answered s0)) hx hb hr (fun t ht hW => ⟨⟨_, (), rfl, rfl, ⟨by rw [ht]; exact hI, hKK.moved hW⟩⟩, hS.F ht⟩) hS.2.2 d_Rn_state_130
set_option maxRecDepth 100000 in
set_option maxHeartbeats 4000000 in
theorem t_Rn_state_131 {p : Program} {l : Launch} {e : Env} {s : State} {m : MethodId} {args : Array Value} {below : List Frame} {meth : Method} {c : Code} {D : va_G} {A : Nat → Prop} {g : Nat → ClassId} {rest : va_W} {K : Nat → Nat → Nat} {ls : Array Slot} {H : Heap} {locs : List Loc} {s0 : S_Rn} {s1 : S_Bs} {s2 : S_Mg} {s3 : S_Ou} {s4 : S_Bs} {s5 : S_Rs} {out : Int32} (X : Cx p s m args meth c prog_1_method_13_code 2 ws_Rn_state R_Rn (some .int) D g) (hl : lv_has ls 2 []) (hI : Iw D A (w_Rn g (K 0) (fun j => K (j + 1) 0) s0 ++ (w_Bs g (K 4) s1 ++ (w_Mg g (K 9) s2 ++ (w_Ou g (K 7) s3 ++ (w_Bs g (K 5) s4 ++ (w_Rs g (K 10) (fun k => K (16 + 2 * k)) (fun k => K (17 + 2 * k)) s5 ++ (rest))))))) H) (hS : va_S A s.heap H locs) (h : B_Rn_state_131  s0 s1 s2 s3 s4 s5 = some out) : W p l e (headSpec ws_Rn_state { frames := 1, cells := 0, slots := 0, locals := 20 }).room s m args below meth c H locs 0 0 (MQ below (QcI D A g out (fun (_ : Unit) => w_Rn g (K 0) (fun j => K (j + 1) 0) s0 ++ (w_Bs g (K 4) s1 ++ (w_Mg g (K 9) s2 ++ (w_Ou g (K 7) s3 ++ (w_Bs g (K 5) s4 ++ (w_Rs g (K 10) (fun k => K (16 + 2 * k)) (fun k => K (17 + 2 * k)) s5 ++ (rest)))))))) args s 0 0 A) (F0 m 131 ls []) := by
  have X1 := X
  obtain ⟨hx, hb, hml, hown, hts, hr, hlocks, hKK⟩ := X1
  have ht : ∀ w ∈ TB, w.before args s = true := fun w h => hts w (List.mem_cons_of_mem _ h)
  have hK := hKK.1
  unfold B_Rn_state_131 at h
  refine lv_iconst (v := (-1)) hx hb d_Rn_state_131 (by decide) ?_
  have h9 := Option.some.inj h
  subst h9
  exact W.iret (v := ((-1) : Int32)) hx hb hr (fun t ht hW => ⟨⟨_, (), rfl, rfl, ⟨by rw [ht]; exact hI, hKK.moved hW⟩⟩, hS.F ht⟩) hS.2.2 d_Rn_state_132
set_option maxRecDepth 100000 in
set_option maxHeartbeats 4000000 in
theorem t_Rn_state_0 {p : Program} {l : Launch} {e : Env} {s : State} {m : MethodId} {args : Array Value} {below : List Frame} {meth : Method} {c : Code} {D : va_G} {A : Nat → Prop} {g : Nat → ClassId} {rest : va_W} {K : Nat → Nat → Nat} {ls : Array Slot} {H : Heap} {locs : List Loc} {s0 : S_Rn} {s1 : S_Bs} {s2 : S_Mg} {s3 : S_Ou} {s4 : S_Bs} {s5 : S_Rs} {x1 : Int32} {out : Int32} (X : Cx p s m args meth c prog_1_method_13_code 2 ws_Rn_state R_Rn (some .int) D g) (hl : lv_has ls 2 [(0, .ref (K 0 0)), (1, .int x1)]) (hI : Iw D A (w_Rn g (K 0) (fun j => K (j + 1) 0) s0 ++ (w_Bs g (K 4) s1 ++ (w_Mg g (K 9) s2 ++ (w_Ou g (K 7) s3 ++ (w_Bs g (K 5) s4 ++ (w_Rs g (K 10) (fun k => K (16 + 2 * k)) (fun k => K (17 + 2 * k)) s5 ++ (rest))))))) H) (hS : va_S A s.heap H locs) (h : B_Rn_state_0  s0 s1 s2 s3 s4 s5 x1 = some out) : W p l e (headSpec ws_Rn_state { frames := 1, cells := 0, slots := 0, locals := 20 }).room s m args below meth c H locs 0 0 (MQ below (QcI D A g out (fun (_ : Unit) => w_Rn g (K 0) (fun j => K (j + 1) 0) s0 ++ (w_Bs g (K 4) s1 ++ (w_Mg g (K 9) s2 ++ (w_Ou g (K 7) s3 ++ (w_Bs g (K 5) s4 ++ (w_Rs g (K 10) (fun k => K (16 + 2 * k)) (fun k => K (17 + 2 * k)) s5 ++ (rest)))))))) args s 0 0 A) (F0 m 0 ls []) := by
  have X1 := X
  obtain ⟨hx, hb, hml, hown, hts, hr, hlocks, hKK⟩ := X1
  have ht : ∀ w ∈ TB, w.before args s = true := fun w h => hts w (List.mem_cons_of_mem _ h)
  have hK := hKK.1
  unfold B_Rn_state_0 at h
  refine lv_iload_n hx hb d_Rn_state_0 rfl (lv_at hl 1 rfl) ?_
  by_cases hs1 : x1 = 0
  · have h := it_t h hs1
    refine lv_tableIn (tgt := 48) hx hb d_Rn_state_1 (by rw [hs1]; decide) (by rw [hs1]; decide) (by rw [hs1]; rfl) (by decide) ?_
    exact t_Rn_state_48 X (lv_sub hl [0] rfl) hI hS h
  have h := it_f h hs1
  have hs1t := lv_neT (a := 0) hs1 (by decide)
  by_cases hs2 : x1 = 1
  · have h := it_t h hs2
    refine lv_tableIn (tgt := 53) hx hb d_Rn_state_1 (by rw [hs2]; decide) (by rw [hs2]; decide) (by rw [hs2]; rfl) (by decide) ?_
    exact t_Rn_state_53 X (lv_sub hl [0] rfl) hI hS h
  have h := it_f h hs2
  have hs2t := lv_neT (a := 1) hs2 (by decide)
  by_cases hs3 : x1 = 2
  · have h := it_t h hs3
    refine lv_tableIn (tgt := 58) hx hb d_Rn_state_1 (by rw [hs3]; decide) (by rw [hs3]; decide) (by rw [hs3]; rfl) (by decide) ?_
    exact t_Rn_state_58 X (lv_sub hl [0] rfl) hI hS h
  have h := it_f h hs3
  have hs3t := lv_neT (a := 2) hs3 (by decide)
  by_cases hs4 : x1 = 3
  · have h := it_t h hs4
    refine lv_tableIn (tgt := 66) hx hb d_Rn_state_1 (by rw [hs4]; decide) (by rw [hs4]; decide) (by rw [hs4]; rfl) (by decide) ?_
    exact t_Rn_state_66 X (lv_sub hl [0] rfl) hI hS h
  have h := it_f h hs4
  have hs4t := lv_neT (a := 3) hs4 (by decide)
  by_cases hs5 : x1 = 4
  · have h := it_t h hs5
    refine lv_tableIn (tgt := 74) hx hb d_Rn_state_1 (by rw [hs5]; decide) (by rw [hs5]; decide) (by rw [hs5]; rfl) (by decide) ?_
    exact t_Rn_state_74 X (lv_sub hl [0] rfl) hI hS h
  have h := it_f h hs5
  have hs5t := lv_neT (a := 4) hs5 (by decide)
  by_cases hs6 : x1 = 5
  · have h := it_t h hs6
    refine lv_tableIn (tgt := 98) hx hb d_Rn_state_1 (by rw [hs6]; decide) (by rw [hs6]; decide) (by rw [hs6]; rfl) (by decide) ?_
    exact t_Rn_state_98 X (lv_sub hl [0] rfl) hI hS h
  have h := it_f h hs6
  have hs6t := lv_neT (a := 5) hs6 (by decide)
  by_cases hs7 : x1 = 6
  · have h := it_t h hs7
    refine lv_tableIn (tgt := 118) hx hb d_Rn_state_1 (by rw [hs7]; decide) (by rw [hs7]; decide) (by rw [hs7]; rfl) (by decide) ?_
    exact t_Rn_state_118 X (lv_sub hl [0] rfl) hI hS h
  have h := it_f h hs7
  have hs7t := lv_neT (a := 6) hs7 (by decide)
  by_cases hs8 : x1 = 7
  · have h := it_t h hs8
    refine lv_tableIn (tgt := 126) hx hb d_Rn_state_1 (by rw [hs8]; decide) (by rw [hs8]; decide) (by rw [hs8]; rfl) (by decide) ?_
    exact t_Rn_state_126 X (lv_sub hl [0] rfl) hI hS h
  have h := it_f h hs8
  have hs8t := lv_neT (a := 7) hs8 (by decide)
  refine lv_tableOut (tgt := 131) hx hb d_Rn_state_1 (by omega) (by decide) ?_
  exact t_Rn_state_131 X (lv_sub hl [] rfl) hI hS h
set_option maxRecDepth 100000 in
set_option maxHeartbeats 4000000 in
theorem c_Rn_state {l : Launch} {D : va_G} {A : Nat → Prop} {g : Nat → ClassId} {rest : va_W} {K : Nat → Nat → Nat} {s0 : S_Rn} {s1 : S_Bs} {s2 : S_Mg} {s3 : S_Ou} {s4 : S_Bs} {s5 : S_Rs} {x1 : Int32} {out : Int32} (h : F_Rn_state s0 s1 s2 s3 s4 s5 x1 = some out) : Met l y_Rn_state ws_Rn_state { frames := 1, cells := 0, slots := 0, locals := 20 } (PcW D A g [.ref (K 0 0), .int x1] (w_Rn g (K 0) (fun j => K (j + 1) 0) s0 ++ (w_Bs g (K 4) s1 ++ (w_Mg g (K 9) s2 ++ (w_Ou g (K 7) s3 ++ (w_Bs g (K 5) s4 ++ (w_Rs g (K 10) (fun k => K (16 + 2 * k)) (fun k => K (17 + 2 * k)) s5 ++ (rest)))))))) (QcI D A g out (fun (_ : Unit) => w_Rn g (K 0) (fun j => K (j + 1) 0) s0 ++ (w_Bs g (K 4) s1 ++ (w_Mg g (K 9) s2 ++ (w_Ou g (K 7) s3 ++ (w_Bs g (K 5) s4 ++ (w_Rs g (K 10) (fun k => K (16 + 2 * k)) (fun k => K (17 + 2 * k)) s5 ++ (rest)))))))) 0 0 A := by
  refine Met.ofW (cc := prog_1_method_13_code) (maxL := 2) (ret := (some .int)) (by decide) rfl ?_
  intro p e s m args below meth c s₁ B hml hv
  obtain ⟨rfl, hI, hK⟩ := hv
  have hl := lv_entry [.ref (K 0 0), .int x1] (n := 2) (Nat.le_of_ble_eq_true rfl)
  rw [lg_entry_eq]
  generalize (lg_sl [.ref (K 0 0), .int x1] ++ List.replicate (2 - (lg_sl [.ref (K 0 0), .int x1]).length) Slot.unset).toArray = ls at hl ⊢
  have hl : lv_has ls 2 [(0, .ref (K 0 0)), (1, .int x1)] := hl
  exact t_Rn_state_0 ⟨B.exec, B.bytes, hml, findClass_of_methodNamed B.named, atoms_spec (ws := ws_Rn_state) B.pre, B.returns, B.notSynchronized, hK⟩ (lv_sub hl [0, 1] rfl) hI va_S.rf h
def ws_Rn_context : List Cond := .code y_Rn_context prog_1_method_14_code 2 (some .int) :: TB
def B_Rn_context_27 (s0 : S_Rn) (s1 : S_Cs) (y0 : Int32) : Option Int32 :=
  some y0
def B_Rn_context_26 (s0 : S_Rn) (s1 : S_Cs) : Option Int32 :=
  (B_Rn_context_27 s0 s1 ((-1) : Int32))
def B_Rn_context_8 (s0 : S_Rn) (s1 : S_Cs) (x1 : Int32) : Option Int32 :=
  ((F_Cs_find s1 x1).bind fun o1 => ((F_Cs_result s1 o1).bind fun o3 => (B_Rn_context_27 s0 s1 o3)))
def B_Rn_context_0 (s0 : S_Rn) (s1 : S_Cs) (x1 : Int32) : Option Int32 :=
  (if (Rn_phase s0) = (2 : Int32) then (B_Rn_context_8 s0 s1 x1) else (B_Rn_context_26 s0 s1))
def F_Rn_context (s0 : S_Rn) (s1 : S_Cs) (x1 : Int32) : Option Int32 := B_Rn_context_0 s0 s1 x1
set_option maxRecDepth 100000 in
set_option maxHeartbeats 4000000 in
theorem t_Rn_context_27 {p : Program} {l : Launch} {e : Env} {s : State} {m : MethodId} {args : Array Value} {below : List Frame} {meth : Method} {c : Code} {D : va_G} {A : Nat → Prop} {g : Nat → ClassId} {rest : va_W} {K : Nat → Nat → Nat} {ls : Array Slot} {H : Heap} {locs : List Loc} {s0 : S_Rn} {s1 : S_Cs} {y0 : Int32} {out : Int32} (X : Cx p s m args meth c prog_1_method_14_code 2 ws_Rn_context R_Rn (some .int) D g) (hl : lv_has ls 2 []) (hI : Iw D A (w_Rn g (K 0) (fun j => K (j + 1) 0) s0 ++ (w_Cs g (K 8) s1 ++ (rest))) H) (hS : va_S A s.heap H locs) (h : B_Rn_context_27  s0 s1 y0 = some out) : W p l e (headSpec ws_Rn_context { frames := 2, cells := 0, slots := 0, locals := 42 }).room s m args below meth c H locs 0 0 (MQ below (QcI D A g out (fun (_ : Unit) => w_Rn g (K 0) (fun j => K (j + 1) 0) s0 ++ (w_Cs g (K 8) s1 ++ (rest)))) args s 0 0 A) (F0 m 27 ls [.int y0]) := by
  have X1 := X
  obtain ⟨hx, hb, hml, hown, hts, hr, hlocks, hKK⟩ := X1
  have ht : ∀ w ∈ TB, w.before args s = true := fun w h => hts w (List.mem_cons_of_mem _ h)
  have hK := hKK.1
  unfold B_Rn_context_27 at h
  have h9 := Option.some.inj h
  subst h9
  exact W.iret (v := y0) hx hb hr (fun t ht hW => ⟨⟨_, (), rfl, rfl, ⟨by rw [ht]; exact hI, hKK.moved hW⟩⟩, hS.F ht⟩) hS.2.2 d_Rn_context_27
set_option maxRecDepth 100000 in
set_option maxHeartbeats 4000000 in
theorem t_Rn_context_26 {p : Program} {l : Launch} {e : Env} {s : State} {m : MethodId} {args : Array Value} {below : List Frame} {meth : Method} {c : Code} {D : va_G} {A : Nat → Prop} {g : Nat → ClassId} {rest : va_W} {K : Nat → Nat → Nat} {ls : Array Slot} {H : Heap} {locs : List Loc} {s0 : S_Rn} {s1 : S_Cs} {out : Int32} (X : Cx p s m args meth c prog_1_method_14_code 2 ws_Rn_context R_Rn (some .int) D g) (hl : lv_has ls 2 []) (hI : Iw D A (w_Rn g (K 0) (fun j => K (j + 1) 0) s0 ++ (w_Cs g (K 8) s1 ++ (rest))) H) (hS : va_S A s.heap H locs) (h : B_Rn_context_26  s0 s1 = some out) : W p l e (headSpec ws_Rn_context { frames := 2, cells := 0, slots := 0, locals := 42 }).room s m args below meth c H locs 0 0 (MQ below (QcI D A g out (fun (_ : Unit) => w_Rn g (K 0) (fun j => K (j + 1) 0) s0 ++ (w_Cs g (K 8) s1 ++ (rest)))) args s 0 0 A) (F0 m 26 ls []) := by
  have X1 := X
  obtain ⟨hx, hb, hml, hown, hts, hr, hlocks, hKK⟩ := X1
  have ht : ∀ w ∈ TB, w.before args s = true := fun w h => hts w (List.mem_cons_of_mem _ h)
  have hK := hKK.1
  unfold B_Rn_context_26 at h
  refine lv_iconst (v := (-1)) hx hb d_Rn_context_26 (by decide) ?_
  exact t_Rn_context_27 X (lv_sub hl [] rfl) hI hS h
set_option maxRecDepth 100000 in
set_option maxHeartbeats 4000000 in
theorem t_Rn_context_8 {p : Program} {l : Launch} {e : Env} {s : State} {m : MethodId} {args : Array Value} {below : List Frame} {meth : Method} {c : Code} {D : va_G} {A : Nat → Prop} {g : Nat → ClassId} {rest : va_W} {K : Nat → Nat → Nat} {ls : Array Slot} {H : Heap} {locs : List Loc} {s0 : S_Rn} {s1 : S_Cs} {x1 : Int32} {out : Int32} (X : Cx p s m args meth c prog_1_method_14_code 2 ws_Rn_context R_Rn (some .int) D g) (hl : lv_has ls 2 [(0, .ref (K 0 0)), (1, .int x1)]) (hI : Iw D A (w_Rn g (K 0) (fun j => K (j + 1) 0) s0 ++ (w_Cs g (K 8) s1 ++ (rest))) H) (hS : va_S A s.heap H locs) (h : B_Rn_context_8  s0 s1 x1 = some out) : W p l e (headSpec ws_Rn_context { frames := 2, cells := 0, slots := 0, locals := 42 }).room s m args below meth c H locs 0 0 (MQ below (QcI D A g out (fun (_ : Unit) => w_Rn g (K 0) (fun j => K (j + 1) 0) s0 ++ (w_Cs g (K 8) s1 ++ (rest)))) args s 0 0 A) (F0 m 8 ls []) := by
  have X1 := X
  obtain ⟨hx, hb, hml, hown, hts, hr, hlocks, hKK⟩ := X1
  have ht : ∀ w ∈ TB, w.before args s = true := fun w h => hts w (List.mem_cons_of_mem _ h)
  have hK := hKK.1
  unfold B_Rn_context_8 at h
  refine lv_aload_n hx hb d_Rn_context_8 rfl (lv_at hl 0 rfl) ?_
  refine va_get (D := D) (ci := 8) (v := .ref (K 8 0)) (C := R_Rn) (T := T_Rn) (N := 16) hx hb ht in_Rn hown hK hI.1 0 rfl rfl 7 (by decide) (ht _ m_210) (fun _ h9 => h9) rfl d_Rn_context_9 ?_
  refine lv_aload_n hx hb d_Rn_context_12 rfl (lv_at hl 0 rfl) ?_
  refine va_get (D := D) (ci := 8) (v := .ref (K 8 0)) (C := R_Rn) (T := T_Rn) (N := 16) hx hb ht in_Rn hown hK hI.1 0 rfl rfl 7 (by decide) (ht _ m_210) (fun _ h9 => h9) rfl d_Rn_context_13 ?_
  refine lv_iload_n hx hb d_Rn_context_16 rfl (lv_at hl 1 rfl) ?_
  obtain ⟨o1, ho2, h⟩ := bd_s h
  refine cl_i (W1 := fun (_ : Unit) => w_Rn g (K 0) (fun j => K (j + 1) 0) s0 ++ (w_Cs g (K 8) s1 ++ (rest))) (va_runV (As := [.int x1]) (rest := [.ref (K 8 0)]) ⟨hx, hb, hml, hown, ht⟩ (c_Cs_find (l := l) (D := D) (A := A) (g := g) (rest := w_Rn g (K 0) (fun j => K (j + 1) 0) s0 ++ (rest)) (a0 := K 8) ho2) (cwV 1 ht (gd_V m_387 m_349 m_350 m_4 m_351) rfl rfl rfl (by decide +kernel) ⟨(Nat.le_of_ble_eq_true rfl), (Nat.le_of_ble_eq_true rfl)⟩) (prV (ci := 1) (q0 := 0) hKK hI (mv_1) rfl rfl rfl) rfl rfl hl.1 rfl (lv_room (Nat.le_of_ble_eq_true rfl)) d_Rn_context_17 ⟨(Nat.le_of_ble_eq_true rfl), (Nat.le_of_ble_eq_true rfl)⟩) hS (fun _ => ((mv_1)).symm) (fun _ H locs hI hS => ?_)
  have hI : Iw D A (w_Rn g (K 0) (fun j => K (j + 1) 0) s0 ++ (w_Cs g (K 8) s1 ++ (rest))) H := hI
  obtain ⟨o3, ho4, h⟩ := bd_s h
  refine cl_i (W1 := fun (_ : Unit) => w_Rn g (K 0) (fun j => K (j + 1) 0) s0 ++ (w_Cs g (K 8) s1 ++ (rest))) (va_runV (As := [.int o1]) (rest := []) ⟨hx, hb, hml, hown, ht⟩ (c_Cs_result (l := l) (D := D) (A := A) (g := g) (rest := w_Rn g (K 0) (fun j => K (j + 1) 0) s0 ++ (rest)) (a0 := K 8) ho4) (cwV 1 ht (gd_V m_375 m_376 m_377 m_4 m_378) rfl rfl rfl (by decide +kernel) ⟨(Nat.le_of_ble_eq_true rfl), (Nat.le_of_ble_eq_true rfl)⟩) (prV (ci := 1) (q0 := 0) hKK hI (mv_1) rfl rfl rfl) rfl rfl hl.1 rfl (lv_room (Nat.le_of_ble_eq_true rfl)) d_Rn_context_20 ⟨(Nat.le_of_ble_eq_true rfl), (Nat.le_of_ble_eq_true rfl)⟩) hS (fun _ => ((mv_1)).symm) (fun _ H locs hI hS => ?_)
  have hI : Iw D A (w_Rn g (K 0) (fun j => K (j + 1) 0) s0 ++ (w_Cs g (K 8) s1 ++ (rest))) H := hI
  refine lv_goto (tgt := 27) hx hb d_Rn_context_23 (by decide) ?_
  exact t_Rn_context_27 X (lv_sub hl [] rfl) hI hS h
set_option maxRecDepth 100000 in
set_option maxHeartbeats 4000000 in
theorem t_Rn_context_0 {p : Program} {l : Launch} {e : Env} {s : State} {m : MethodId} {args : Array Value} {below : List Frame} {meth : Method} {c : Code} {D : va_G} {A : Nat → Prop} {g : Nat → ClassId} {rest : va_W} {K : Nat → Nat → Nat} {ls : Array Slot} {H : Heap} {locs : List Loc} {s0 : S_Rn} {s1 : S_Cs} {x1 : Int32} {out : Int32} (X : Cx p s m args meth c prog_1_method_14_code 2 ws_Rn_context R_Rn (some .int) D g) (hl : lv_has ls 2 [(0, .ref (K 0 0)), (1, .int x1)]) (hI : Iw D A (w_Rn g (K 0) (fun j => K (j + 1) 0) s0 ++ (w_Cs g (K 8) s1 ++ (rest))) H) (hS : va_S A s.heap H locs) (h : B_Rn_context_0  s0 s1 x1 = some out) : W p l e (headSpec ws_Rn_context { frames := 2, cells := 0, slots := 0, locals := 42 }).room s m args below meth c H locs 0 0 (MQ below (QcI D A g out (fun (_ : Unit) => w_Rn g (K 0) (fun j => K (j + 1) 0) s0 ++ (w_Cs g (K 8) s1 ++ (rest)))) args s 0 0 A) (F0 m 0 ls []) := by
  have X1 := X
  obtain ⟨hx, hb, hml, hown, hts, hr, hlocks, hKK⟩ := X1
  have ht : ∀ w ∈ TB, w.before args s = true := fun w h => hts w (List.mem_cons_of_mem _ h)
  have hK := hKK.1
  unfold B_Rn_context_0 at h
  refine lv_aload_n hx hb d_Rn_context_0 rfl (lv_at hl 0 rfl) ?_
  refine va_get (D := D) (ci := 8) (v := .int (Rn_phase s0)) (C := R_Rn) (T := T_Rn) (N := 16) hx hb ht in_Rn hown hK hI.1 0 rfl rfl 13 (by decide) (ht _ m_216) (fun _ h9 => h9) rfl d_Rn_context_1 ?_
  refine lv_iconst (v := 2) hx hb d_Rn_context_4 (by decide) ?_
  refine lv_icmp_ne (tgt := 26) hx hb d_Rn_context_5 (by decide) (fun hc => ?_) (fun hc => ?_)
  · have h := it_f h hc
    exact t_Rn_context_26 X (lv_sub hl [] rfl) hI hS h
  · have h := it_t h hc
    exact t_Rn_context_8 X (lv_sub hl [0, 1] rfl) hI hS h
set_option maxRecDepth 100000 in
set_option maxHeartbeats 4000000 in
theorem c_Rn_context {l : Launch} {D : va_G} {A : Nat → Prop} {g : Nat → ClassId} {rest : va_W} {K : Nat → Nat → Nat} {s0 : S_Rn} {s1 : S_Cs} {x1 : Int32} {out : Int32} (h : F_Rn_context s0 s1 x1 = some out) : Met l y_Rn_context ws_Rn_context { frames := 2, cells := 0, slots := 0, locals := 42 } (PcW D A g [.ref (K 0 0), .int x1] (w_Rn g (K 0) (fun j => K (j + 1) 0) s0 ++ (w_Cs g (K 8) s1 ++ (rest)))) (QcI D A g out (fun (_ : Unit) => w_Rn g (K 0) (fun j => K (j + 1) 0) s0 ++ (w_Cs g (K 8) s1 ++ (rest)))) 0 0 A := by
  refine Met.ofW (cc := prog_1_method_14_code) (maxL := 2) (ret := (some .int)) (by decide) rfl ?_
  intro p e s m args below meth c s₁ B hml hv
  obtain ⟨rfl, hI, hK⟩ := hv
  have hl := lv_entry [.ref (K 0 0), .int x1] (n := 2) (Nat.le_of_ble_eq_true rfl)
  rw [lg_entry_eq]
  generalize (lg_sl [.ref (K 0 0), .int x1] ++ List.replicate (2 - (lg_sl [.ref (K 0 0), .int x1]).length) Slot.unset).toArray = ls at hl ⊢
  have hl : lv_has ls 2 [(0, .ref (K 0 0)), (1, .int x1)] := hl
  exact t_Rn_context_0 ⟨B.exec, B.bytes, hml, findClass_of_methodNamed B.named, atoms_spec (ws := ws_Rn_context) B.pre, B.returns, B.notSynchronized, hK⟩ (lv_sub hl [0, 1] rfl) hI va_S.rf h
def ws_Rn_check : List Cond := .code y_Rn_check prog_1_method_4_code 2 (some .int) :: TB
def B_Rn_check_15 (s0 : S_Rn) (s1 : S_Bs) (s2 : S_Rd) (s3 : S_Tr) (x1 : Int32) : Option (Int32 × S_Rd × S_Tr) :=
  ((F_Rd_read s2 s3 s1 x1).bind fun o1 => some (o1.1, o1.2.1, o1.2.2))
def B_Rn_check_7 (s0 : S_Rn) (s1 : S_Bs) (s2 : S_Rd) (s3 : S_Tr) : Option (Int32 × S_Rd × S_Tr) :=
  none
def B_Rn_check_0 (s0 : S_Rn) (s1 : S_Bs) (s2 : S_Rd) (s3 : S_Tr) (x1 : Int32) : Option (Int32 × S_Rd × S_Tr) :=
  ((F_Rn_isSyntax x1).bind fun o1 => (if o1 = 0 then (B_Rn_check_7 s0 s1 s2 s3) else (B_Rn_check_15 s0 s1 s2 s3 x1)))
def F_Rn_check (s0 : S_Rn) (s1 : S_Bs) (s2 : S_Rd) (s3 : S_Tr) (x1 : Int32) : Option (Int32 × S_Rd × S_Tr) := B_Rn_check_0 s0 s1 s2 s3 x1
set_option maxRecDepth 100000 in
set_option maxHeartbeats 4000000 in
theorem t_Rn_check_15 {p : Program} {l : Launch} {e : Env} {s : State} {m : MethodId} {args : Array Value} {below : List Frame} {meth : Method} {c : Code} {D : va_G} {A : Nat → Prop} {g : Nat → ClassId} {rest : va_W} {K : Nat → Nat → Nat} {g1 : Nat} {ls : Array Slot} {H : Heap} {locs : List Loc} {s0 : S_Rn} {s1 : S_Bs} {s2 : S_Rd} {s3 : S_Tr} {x1 : Int32} {out : Int32 × S_Rd × S_Tr} (X : Cx p s m args meth c prog_1_method_4_code 2 ws_Rn_check R_Rn (some .int) D g) (hl : lv_has ls 2 [(0, .ref (K 0 0)), (1, .int x1)]) (hI : Iw D A (w_Rn g (K 0) (fun j => K (j + 1) 0) s0 ++ (w_Bs g (K 1) s1 ++ (w_Rd g (K 11) (tw (K 14 0) g1) s2 ++ (w_Tr g (K 14) s3 ++ (rest))))) H) (hS : va_S A s.heap H locs) (h : B_Rn_check_15  s0 s1 s2 s3 x1 = some out) : W p l e (headSpec ws_Rn_check { frames := 4, cells := 0, slots := 0, locals := 96 }).room s m args below meth c H locs 0 0 (MQ below (QcI D A g out.1 (fun (u : Nat) => w_Rn g (K 0) (fun j => K (j + 1) 0) s0 ++ (w_Bs g (K 1) s1 ++ (w_Rd g (K 11) (tw (K 14 0) u) out.2.1 ++ (w_Tr g (K 14) out.2.2 ++ (rest)))))) args s 0 0 A) (F0 m 15 ls []) := by
  have X1 := X
  obtain ⟨hx, hb, hml, hown, hts, hr, hlocks, hKK⟩ := X1
  have ht : ∀ w ∈ TB, w.before args s = true := fun w h => hts w (List.mem_cons_of_mem _ h)
  have hK := hKK.1
  unfold B_Rn_check_15 at h
  refine lv_aload_n hx hb d_Rn_check_15 rfl (lv_at hl 0 rfl) ?_
  refine va_get (D := D) (ci := 8) (v := .ref (K 11 0)) (C := R_Rn) (T := T_Rn) (N := 16) hx hb ht in_Rn hown hK hI.1 0 rfl rfl 10 (by decide) (ht _ m_213) (fun _ h9 => h9) rfl d_Rn_check_16 ?_
  refine lv_aload_n hx hb d_Rn_check_19 rfl (lv_at hl 0 rfl) ?_
  refine va_get (D := D) (ci := 8) (v := .ref (K 1 0)) (C := R_Rn) (T := T_Rn) (N := 16) hx hb ht in_Rn hown hK hI.1 0 rfl rfl 0 (by decide) (ht _ m_203) (fun _ h9 => h9) rfl d_Rn_check_20 ?_
  refine lv_iload_n hx hb d_Rn_check_23 rfl (lv_at hl 1 rfl) ?_
  obtain ⟨o1, ho2, h⟩ := bd_s h
  refine cl_i (W1 := fun (_ : Unit) => w_Rn g (K 0) (fun j => K (j + 1) 0) s0 ++ (w_Bs g (K 1) s1 ++ (w_Rd g (K 11) (tw (K 14 0) (K 1 0)) o1.2.1 ++ (w_Tr g (K 14) o1.2.2 ++ (rest))))) (va_runV (As := [.ref (K 1 0), .int x1]) (rest := []) ⟨hx, hb, hml, hown, ht⟩ (c_Rd_read (l := l) (D := D) (A := A) (g := g) (rest := w_Rn g (K 0) (fun j => K (j + 1) 0) s0 ++ (rest)) (a0 := K 11) (a1 := K 14) (a2 := K 1) (u0 := g1) ho2) (cwV 2 ht (gd_V m_412 m_413 m_414 m_8 m_415) rfl rfl rfl (by decide +kernel) ⟨(Nat.le_of_ble_eq_true rfl), (Nat.le_of_ble_eq_true rfl)⟩) (prV (ci := 5) (q0 := 0) hKK hI ((mv_1).trans ((mv_3).trans (mv_3))) rfl rfl rfl) rfl rfl hl.1 rfl (lv_room (Nat.le_of_ble_eq_true rfl)) d_Rn_check_24 ⟨(Nat.le_of_ble_eq_true rfl), (Nat.le_of_ble_eq_true rfl)⟩) hS (fun _ => (((mv_1).trans ((mv_3).trans (mv_3)))).symm) (fun _ H locs hI hS => ?_)
  have hI : Iw D A (w_Rn g (K 0) (fun j => K (j + 1) 0) s0 ++ (w_Bs g (K 1) s1 ++ (w_Rd g (K 11) (tw (K 14 0) (K 1 0)) o1.2.1 ++ (w_Tr g (K 14) o1.2.2 ++ (rest))))) H := hI
  have h9 := Option.some.inj h
  subst h9
  exact W.iret (v := o1.1) hx hb hr (fun t ht hW => ⟨⟨_, (K 1 0), rfl, rfl, ⟨by rw [ht]; exact hI, hKK.moved hW⟩⟩, hS.F ht⟩) hS.2.2 d_Rn_check_27
set_option maxRecDepth 100000 in
set_option maxHeartbeats 4000000 in
theorem t_Rn_check_7 {p : Program} {l : Launch} {e : Env} {s : State} {m : MethodId} {args : Array Value} {below : List Frame} {meth : Method} {c : Code} {D : va_G} {A : Nat → Prop} {g : Nat → ClassId} {rest : va_W} {K : Nat → Nat → Nat} {g1 : Nat} {ls : Array Slot} {H : Heap} {locs : List Loc} {s0 : S_Rn} {s1 : S_Bs} {s2 : S_Rd} {s3 : S_Tr} {out : Int32 × S_Rd × S_Tr} (X : Cx p s m args meth c prog_1_method_4_code 2 ws_Rn_check R_Rn (some .int) D g) (hl : lv_has ls 2 []) (hI : Iw D A (w_Rn g (K 0) (fun j => K (j + 1) 0) s0 ++ (w_Bs g (K 1) s1 ++ (w_Rd g (K 11) (tw (K 14 0) g1) s2 ++ (w_Tr g (K 14) s3 ++ (rest))))) H) (hS : va_S A s.heap H locs) (h : B_Rn_check_7  s0 s1 s2 s3 = some out) : W p l e (headSpec ws_Rn_check { frames := 4, cells := 0, slots := 0, locals := 96 }).room s m args below meth c H locs 0 0 (MQ below (QcI D A g out.1 (fun (u : Nat) => w_Rn g (K 0) (fun j => K (j + 1) 0) s0 ++ (w_Bs g (K 1) s1 ++ (w_Rd g (K 11) (tw (K 14 0) u) out.2.1 ++ (w_Tr g (K 14) out.2.2 ++ (rest)))))) args s 0 0 A) (F0 m 7 ls []) := by
  have X1 := X
  obtain ⟨hx, hb, hml, hown, hts, hr, hlocks, hKK⟩ := X1
  have ht : ∀ w ∈ TB, w.before args s = true := fun w h => hts w (List.mem_cons_of_mem _ h)
  have hK := hKK.1
  unfold B_Rn_check_7 at h
  exact no_s h
set_option maxRecDepth 100000 in
set_option maxHeartbeats 4000000 in
theorem t_Rn_check_0 {p : Program} {l : Launch} {e : Env} {s : State} {m : MethodId} {args : Array Value} {below : List Frame} {meth : Method} {c : Code} {D : va_G} {A : Nat → Prop} {g : Nat → ClassId} {rest : va_W} {K : Nat → Nat → Nat} {g1 : Nat} {ls : Array Slot} {H : Heap} {locs : List Loc} {s0 : S_Rn} {s1 : S_Bs} {s2 : S_Rd} {s3 : S_Tr} {x1 : Int32} {out : Int32 × S_Rd × S_Tr} (X : Cx p s m args meth c prog_1_method_4_code 2 ws_Rn_check R_Rn (some .int) D g) (hl : lv_has ls 2 [(0, .ref (K 0 0)), (1, .int x1)]) (hI : Iw D A (w_Rn g (K 0) (fun j => K (j + 1) 0) s0 ++ (w_Bs g (K 1) s1 ++ (w_Rd g (K 11) (tw (K 14 0) g1) s2 ++ (w_Tr g (K 14) s3 ++ (rest))))) H) (hS : va_S A s.heap H locs) (h : B_Rn_check_0  s0 s1 s2 s3 x1 = some out) : W p l e (headSpec ws_Rn_check { frames := 4, cells := 0, slots := 0, locals := 96 }).room s m args below meth c H locs 0 0 (MQ below (QcI D A g out.1 (fun (u : Nat) => w_Rn g (K 0) (fun j => K (j + 1) 0) s0 ++ (w_Bs g (K 1) s1 ++ (w_Rd g (K 11) (tw (K 14 0) u) out.2.1 ++ (w_Tr g (K 14) out.2.2 ++ (rest)))))) args s 0 0 A) (F0 m 0 ls []) := by
  have X1 := X
  obtain ⟨hx, hb, hml, hown, hts, hr, hlocks, hKK⟩ := X1
  have ht : ∀ w ∈ TB, w.before args s = true := fun w h => hts w (List.mem_cons_of_mem _ h)
  have hK := hKK.1
  unfold B_Rn_check_0 at h
  refine lv_iload_n hx hb d_Rn_check_0 rfl (lv_at hl 1 rfl) ?_
  obtain ⟨o1, ho2, h⟩ := bd_s h
  refine cl_i (W1 := fun (_ : Unit) => w_Rn g (K 0) (fun j => K (j + 1) 0) s0 ++ (w_Bs g (K 1) s1 ++ (w_Rd g (K 11) (tw (K 14 0) g1) s2 ++ (w_Tr g (K 14) s3 ++ (rest))))) (va_runS (As := [.int x1]) (rest := []) ⟨hx, hb, hml, hown, ht⟩ (c_Rn_isSyntax (l := l) (D := D) (A := A) (g := g) (rest := w_Rn g (K 0) (fun j => K (j + 1) 0) s0 ++ (w_Bs g (K 1) s1 ++ (w_Rd g (K 11) (tw (K 14 0) g1) s2 ++ (w_Tr g (K 14) s3 ++ (rest)))))  ho2) (va_cwS 1 ht (gd_S m_672 m_673 m_1 m_674) rfl rfl rfl (by decide +kernel) ⟨(Nat.le_of_ble_eq_true rfl), (Nat.le_of_ble_eq_true rfl)⟩) (prS hKK hI (List.Perm.refl _)) rfl rfl hl.1 rfl (lv_room (Nat.le_of_ble_eq_true rfl)) d_Rn_check_1 ⟨(Nat.le_of_ble_eq_true rfl), (Nat.le_of_ble_eq_true rfl)⟩) hS (fun _ => ((List.Perm.refl _)).symm) (fun _ H locs hI hS => ?_)
  have hI : Iw D A (w_Rn g (K 0) (fun j => K (j + 1) 0) s0 ++ (w_Bs g (K 1) s1 ++ (w_Rd g (K 11) (tw (K 14 0) g1) s2 ++ (w_Tr g (K 14) s3 ++ (rest))))) H := hI
  refine lv_if_ne (tgt := 15) hx hb d_Rn_check_4 (by decide) (fun hc => ?_) (fun hc => ?_)
  · have h := it_f h hc
    exact t_Rn_check_15 X (lv_sub hl [0, 1] rfl) hI hS h
  · have h := it_t h hc
    exact t_Rn_check_7 X (lv_sub hl [] rfl) hI hS h
set_option maxRecDepth 100000 in
set_option maxHeartbeats 4000000 in
theorem c_Rn_check {l : Launch} {D : va_G} {A : Nat → Prop} {g : Nat → ClassId} {rest : va_W} {K : Nat → Nat → Nat} {g1 : Nat} {s0 : S_Rn} {s1 : S_Bs} {s2 : S_Rd} {s3 : S_Tr} {x1 : Int32} {out : Int32 × S_Rd × S_Tr} (h : F_Rn_check s0 s1 s2 s3 x1 = some out) : Met l y_Rn_check ws_Rn_check { frames := 4, cells := 0, slots := 0, locals := 96 } (PcW D A g [.ref (K 0 0), .int x1] (w_Rn g (K 0) (fun j => K (j + 1) 0) s0 ++ (w_Bs g (K 1) s1 ++ (w_Rd g (K 11) (tw (K 14 0) g1) s2 ++ (w_Tr g (K 14) s3 ++ (rest)))))) (QcI D A g out.1 (fun (u : Nat) => w_Rn g (K 0) (fun j => K (j + 1) 0) s0 ++ (w_Bs g (K 1) s1 ++ (w_Rd g (K 11) (tw (K 14 0) u) out.2.1 ++ (w_Tr g (K 14) out.2.2 ++ (rest)))))) 0 0 A := by
  refine Met.ofW (cc := prog_1_method_4_code) (maxL := 2) (ret := (some .int)) (by decide) rfl ?_
  intro p e s m args below meth c s₁ B hml hv
  obtain ⟨rfl, hI, hK⟩ := hv
  have hl := lv_entry [.ref (K 0 0), .int x1] (n := 2) (Nat.le_of_ble_eq_true rfl)
  rw [lg_entry_eq]
  generalize (lg_sl [.ref (K 0 0), .int x1] ++ List.replicate (2 - (lg_sl [.ref (K 0 0), .int x1]).length) Slot.unset).toArray = ls at hl ⊢
  have hl : lv_has ls 2 [(0, .ref (K 0 0)), (1, .int x1)] := hl
  exact t_Rn_check_0 ⟨B.exec, B.bytes, hml, findClass_of_methodNamed B.named, atoms_spec (ws := ws_Rn_check) B.pre, B.returns, B.notSynchronized, hK⟩ (lv_sub hl [0, 1] rfl) hI va_S.rf h
def ws_Rn_convert : List Cond := .code y_Rn_convert prog_1_method_5_code 4 (some .int) :: TB
def B_Rn_convert_14 (s0 : S_Rn) (s1 : S_Bs) (s2 : S_Bs) (s3 : S_Rd) (s4 : S_Tr) : Option (Int32 × S_Bs × S_Bs × S_Rd × S_Tr) :=
  none
def B_Rn_convert_77 (s0 : S_Rn) (s1 : S_Bs) (s2 : S_Bs) (s3 : S_Rd) (s4 : S_Tr) : Option (Int32 × S_Bs × S_Bs × S_Rd × S_Tr) :=
  none
def B_Rn_convert_85 (s0 : S_Rn) (s1 : S_Bs) (s2 : S_Bs) (s3 : S_Rd) (s4 : S_Tr) : Option (Int32 × S_Bs × S_Bs × S_Rd × S_Tr) :=
  ((F_Bs_become s2 s1).bind fun o1 => ((F_Bs_count o1).bind fun o3 => some (o3, s1, o1, s3, s4)))
def B_Rn_convert_65 (s0 : S_Rn) (s1 : S_Bs) (s2 : S_Bs) (s3 : S_Rd) (s4 : S_Tr) : Option (Int32 × S_Bs × S_Bs × S_Rd × S_Tr) :=
  ((F_Bs_count s1).bind fun o1 => (if o1 ≤ (120 : Int32) then (B_Rn_convert_85 s0 s1 s2 s3 s4) else (B_Rn_convert_77 s0 s1 s2 s3 s4)))
def B_Rn_convert_60 (s0 : S_Rn) (s1 : S_Bs) (s2 : S_Bs) (s3 : S_Rd) (s4 : S_Tr) (y0 : Int32) : Option (Int32 × S_Bs × S_Bs × S_Rd × S_Tr) :=
  (if y0 = 0 then (B_Rn_convert_77 s0 s1 s2 s3 s4) else (B_Rn_convert_65 s0 s1 s2 s3 s4))
def B_Rn_convert_59 (s0 : S_Rn) (s1 : S_Bs) (s2 : S_Bs) (s3 : S_Rd) (s4 : S_Tr) : Option (Int32 × S_Bs × S_Bs × S_Rd × S_Tr) :=
  (B_Rn_convert_60 s0 s1 s2 s3 s4 (0 : Int32))
def B_Rn_convert_55 (s0 : S_Rn) (s1 : S_Bs) (s2 : S_Bs) (s3 : S_Rd) (s4 : S_Tr) : Option (Int32 × S_Bs × S_Bs × S_Rd × S_Tr) :=
  (B_Rn_convert_60 s0 s1 s2 s3 s4 (1 : Int32))
def B_Rn_convert_37 (s0 : S_Rn) (s1 : S_Bs) (s2 : S_Bs) (s3 : S_Rd) (s4 : S_Tr) (x2 : Int32) : Option (Int32 × S_Bs × S_Bs × S_Rd × S_Tr) :=
  ((F_Rd_tree s3).bind fun o1 => ((F_Tr_writeAll s4 s1 x2).bind fun o3 => (if o3.1 = 0 then (B_Rn_convert_59 s0 o3.2 s2 s3 s4) else (B_Rn_convert_55 s0 o3.2 s2 s3 s4))))
def B_Rn_convert_22 (s0 : S_Rn) (s1 : S_Bs) (s2 : S_Bs) (s3 : S_Rd) (s4 : S_Tr) (x1 : Int32) (x2 : Int32) : Option (Int32 × S_Bs × S_Bs × S_Rd × S_Tr) :=
  ((F_Rd_read s3 s4 s2 x1).bind fun o1 => (if o1.1 = 0 then (B_Rn_convert_37 s0 s1 s2 o1.2.1 o1.2.2 x2) else (B_Rn_convert_59 s0 s1 s2 o1.2.1 o1.2.2)))
def B_Rn_convert_7 (s0 : S_Rn) (s1 : S_Bs) (s2 : S_Bs) (s3 : S_Rd) (s4 : S_Tr) (x1 : Int32) (x2 : Int32) : Option (Int32 × S_Bs × S_Bs × S_Rd × S_Tr) :=
  ((F_Rn_isSyntax x2).bind fun o1 => (if o1 = 0 then (B_Rn_convert_14 s0 s1 s2 s3 s4) else (B_Rn_convert_22 s0 s1 s2 s3 s4 x1 x2)))
def B_Rn_convert_0 (s0 : S_Rn) (s1 : S_Bs) (s2 : S_Bs) (s3 : S_Rd) (s4 : S_Tr) (x1 : Int32) (x2 : Int32) : Option (Int32 × S_Bs × S_Bs × S_Rd × S_Tr) :=
  ((F_Rn_isSyntax x1).bind fun o1 => (if o1 = 0 then (B_Rn_convert_14 s0 s1 s2 s3 s4) else (B_Rn_convert_7 s0 s1 s2 s3 s4 x1 x2)))
def F_Rn_convert (s0 : S_Rn) (s1 : S_Bs) (s2 : S_Bs) (s3 : S_Rd) (s4 : S_Tr) (x1 : Int32) (x2 : Int32) : Option (Int32 × S_Bs × S_Bs × S_Rd × S_Tr) := B_Rn_convert_0 s0 s1 s2 s3 s4 x1 x2
set_option maxRecDepth 100000 in
set_option maxHeartbeats 4000000 in
theorem t_Rn_convert_14 {p : Program} {l : Launch} {e : Env} {s : State} {m : MethodId} {args : Array Value} {below : List Frame} {meth : Method} {c : Code} {D : va_G} {A : Nat → Prop} {g : Nat → ClassId} {rest : va_W} {K : Nat → Nat → Nat} {g1 : Nat} {ls : Array Slot} {H : Heap} {locs : List Loc} {s0 : S_Rn} {s1 : S_Bs} {s2 : S_Bs} {s3 : S_Rd} {s4 : S_Tr} {out : Int32 × S_Bs × S_Bs × S_Rd × S_Tr} (X : Cx p s m args meth c prog_1_method_5_code 4 ws_Rn_convert R_Rn (some .int) D g) (hl : lv_has ls 4 []) (hI : Iw D A (w_Rn g (K 0) (fun j => K (j + 1) 0) s0 ++ (w_Bs g (K 2) s1 ++ (w_Bs g (K 1) s2 ++ (w_Rd g (K 11) (tw (K 14 0) g1) s3 ++ (w_Tr g (K 14) s4 ++ (rest)))))) H) (hS : va_S A s.heap H locs) (h : B_Rn_convert_14  s0 s1 s2 s3 s4 = some out) : W p l e (headSpec ws_Rn_convert { frames := 4, cells := 0, slots := 0, locals := 98 }).room s m args below meth c H locs 0 0 (MQ below (QcI D A g out.1 (fun (u : Nat) => w_Rn g (K 0) (fun j => K (j + 1) 0) s0 ++ (w_Bs g (K 2) out.2.1 ++ (w_Bs g (K 1) out.2.2.1 ++ (w_Rd g (K 11) (tw (K 14 0) u) out.2.2.2.1 ++ (w_Tr g (K 14) out.2.2.2.2 ++ (rest))))))) args s 0 0 A) (F0 m 14 ls []) := by
  have X1 := X
  obtain ⟨hx, hb, hml, hown, hts, hr, hlocks, hKK⟩ := X1
  have ht : ∀ w ∈ TB, w.before args s = true := fun w h => hts w (List.mem_cons_of_mem _ h)
  have hK := hKK.1
  unfold B_Rn_convert_14 at h
  exact no_s h
set_option maxRecDepth 100000 in
set_option maxHeartbeats 4000000 in
theorem t_Rn_convert_77 {p : Program} {l : Launch} {e : Env} {s : State} {m : MethodId} {args : Array Value} {below : List Frame} {meth : Method} {c : Code} {D : va_G} {A : Nat → Prop} {g : Nat → ClassId} {rest : va_W} {K : Nat → Nat → Nat} {g1 : Nat} {ls : Array Slot} {H : Heap} {locs : List Loc} {s0 : S_Rn} {s1 : S_Bs} {s2 : S_Bs} {s3 : S_Rd} {s4 : S_Tr} {out : Int32 × S_Bs × S_Bs × S_Rd × S_Tr} (X : Cx p s m args meth c prog_1_method_5_code 4 ws_Rn_convert R_Rn (some .int) D g) (hl : lv_has ls 4 []) (hI : Iw D A (w_Rn g (K 0) (fun j => K (j + 1) 0) s0 ++ (w_Bs g (K 2) s1 ++ (w_Bs g (K 1) s2 ++ (w_Rd g (K 11) (tw (K 14 0) g1) s3 ++ (w_Tr g (K 14) s4 ++ (rest)))))) H) (hS : va_S A s.heap H locs) (h : B_Rn_convert_77  s0 s1 s2 s3 s4 = some out) : W p l e (headSpec ws_Rn_convert { frames := 4, cells := 0, slots := 0, locals := 98 }).room s m args below meth c H locs 0 0 (MQ below (QcI D A g out.1 (fun (u : Nat) => w_Rn g (K 0) (fun j => K (j + 1) 0) s0 ++ (w_Bs g (K 2) out.2.1 ++ (w_Bs g (K 1) out.2.2.1 ++ (w_Rd g (K 11) (tw (K 14 0) u) out.2.2.2.1 ++ (w_Tr g (K 14) out.2.2.2.2 ++ (rest))))))) args s 0 0 A) (F0 m 77 ls []) := by
  have X1 := X
  obtain ⟨hx, hb, hml, hown, hts, hr, hlocks, hKK⟩ := X1
  have ht : ∀ w ∈ TB, w.before args s = true := fun w h => hts w (List.mem_cons_of_mem _ h)
  have hK := hKK.1
  unfold B_Rn_convert_77 at h
  exact no_s h
set_option maxRecDepth 100000 in
set_option maxHeartbeats 4000000 in
theorem t_Rn_convert_85 {p : Program} {l : Launch} {e : Env} {s : State} {m : MethodId} {args : Array Value} {below : List Frame} {meth : Method} {c : Code} {D : va_G} {A : Nat → Prop} {g : Nat → ClassId} {rest : va_W} {K : Nat → Nat → Nat} {g1 : Nat} {ls : Array Slot} {H : Heap} {locs : List Loc} {s0 : S_Rn} {s1 : S_Bs} {s2 : S_Bs} {s3 : S_Rd} {s4 : S_Tr} {out : Int32 × S_Bs × S_Bs × S_Rd × S_Tr} (X : Cx p s m args meth c prog_1_method_5_code 4 ws_Rn_convert R_Rn (some .int) D g) (hl : lv_has ls 4 [(0, .ref (K 0 0))]) (hI : Iw D A (w_Rn g (K 0) (fun j => K (j + 1) 0) s0 ++ (w_Bs g (K 2) s1 ++ (w_Bs g (K 1) s2 ++ (w_Rd g (K 11) (tw (K 14 0) g1) s3 ++ (w_Tr g (K 14) s4 ++ (rest)))))) H) (hS : va_S A s.heap H locs) (h : B_Rn_convert_85  s0 s1 s2 s3 s4 = some out) : W p l e (headSpec ws_Rn_convert { frames := 4, cells := 0, slots := 0, locals := 98 }).room s m args below meth c H locs 0 0 (MQ below (QcI D A g out.1 (fun (u : Nat) => w_Rn g (K 0) (fun j => K (j + 1) 0) s0 ++ (w_Bs g (K 2) out.2.1 ++ (w_Bs g (K 1) out.2.2.1 ++ (w_Rd g (K 11) (tw (K 14 0) u) out.2.2.2.1 ++ (w_Tr g (K 14) out.2.2.2.2 ++ (rest))))))) args s 0 0 A) (F0 m 85 ls []) := by
  have X1 := X
  obtain ⟨hx, hb, hml, hown, hts, hr, hlocks, hKK⟩ := X1
  have ht : ∀ w ∈ TB, w.before args s = true := fun w h => hts w (List.mem_cons_of_mem _ h)
  have hK := hKK.1
  unfold B_Rn_convert_85 at h
  refine lv_aload_n hx hb d_Rn_convert_85 rfl (lv_at hl 0 rfl) ?_
  refine va_get (D := D) (ci := 8) (v := .ref (K 1 0)) (C := R_Rn) (T := T_Rn) (N := 16) hx hb ht in_Rn hown hK hI.1 0 rfl rfl 0 (by decide) (ht _ m_203) (fun _ h9 => h9) rfl d_Rn_convert_86 ?_
  refine lv_aload_n hx hb d_Rn_convert_89 rfl (lv_at hl 0 rfl) ?_
  refine va_get (D := D) (ci := 8) (v := .ref (K 2 0)) (C := R_Rn) (T := T_Rn) (N := 16) hx hb ht in_Rn hown hK hI.1 0 rfl rfl 1 (by decide) (ht _ m_204) (fun _ h9 => h9) rfl d_Rn_convert_90 ?_
  obtain ⟨o1, ho2, h⟩ := bd_s h
  refine cl_v (W1 := fun (_ : Unit) => w_Rn g (K 0) (fun j => K (j + 1) 0) s0 ++ (w_Bs g (K 2) s1 ++ (w_Bs g (K 1) o1 ++ (w_Rd g (K 11) (tw (K 14 0) g1) s3 ++ (w_Tr g (K 14) s4 ++ (rest)))))) (va_runV (As := [.ref (K 2 0)]) (rest := []) ⟨hx, hb, hml, hown, ht⟩ (c_Bs_become (l := l) (D := D) (A := A) (g := g) (rest := w_Rn g (K 0) (fun j => K (j + 1) 0) s0 ++ (w_Rd g (K 11) (tw (K 14 0) g1) s3 ++ (w_Tr g (K 14) s4 ++ (rest)))) (a0 := K 1) (a1 := K 2) ho2) (cwV 1 ht (gd_V m_761 m_602 m_603 m_2 m_604) rfl rfl rfl (by decide +kernel) ⟨(Nat.le_of_ble_eq_true rfl), (Nat.le_of_ble_eq_true rfl)⟩) (prV (ci := 0) (q0 := 0) hKK hI ((mv_1).trans (mv_2)) rfl rfl rfl) rfl rfl hl.1 rfl (lv_room (Nat.le_of_ble_eq_true rfl)) d_Rn_convert_93 ⟨(Nat.le_of_ble_eq_true rfl), (Nat.le_of_ble_eq_true rfl)⟩) hS (fun _ => (((mv_1).trans (mv_2))).symm) (fun _ H locs hI hS => ?_)
  have hI : Iw D A (w_Rn g (K 0) (fun j => K (j + 1) 0) s0 ++ (w_Bs g (K 2) s1 ++ (w_Bs g (K 1) o1 ++ (w_Rd g (K 11) (tw (K 14 0) g1) s3 ++ (w_Tr g (K 14) s4 ++ (rest)))))) H := hI
  refine lv_aload_n hx hb d_Rn_convert_96 rfl (lv_at hl 0 rfl) ?_
  refine va_get (D := D) (ci := 8) (v := .ref (K 1 0)) (C := R_Rn) (T := T_Rn) (N := 16) hx hb ht in_Rn hown hK hI.1 0 rfl rfl 0 (by decide) (ht _ m_203) (fun _ h9 => h9) rfl d_Rn_convert_97 ?_
  obtain ⟨o3, ho4, h⟩ := bd_s h
  refine cl_i (W1 := fun (_ : Unit) => w_Rn g (K 0) (fun j => K (j + 1) 0) s0 ++ (w_Bs g (K 2) s1 ++ (w_Bs g (K 1) o1 ++ (w_Rd g (K 11) (tw (K 14 0) g1) s3 ++ (w_Tr g (K 14) s4 ++ (rest)))))) (va_runV (As := []) (rest := []) ⟨hx, hb, hml, hown, ht⟩ (c_Bs_count (l := l) (D := D) (A := A) (g := g) (rest := w_Rn g (K 0) (fun j => K (j + 1) 0) s0 ++ (w_Bs g (K 2) s1 ++ (w_Rd g (K 11) (tw (K 14 0) g1) s3 ++ (w_Tr g (K 14) s4 ++ (rest))))) (a0 := K 1) ho4) (cwV 0 ht (gd_V m_302 m_303 m_304 m_2 m_305) rfl rfl rfl (by decide +kernel) ⟨(Nat.le_of_ble_eq_true rfl), (Nat.le_of_ble_eq_true rfl)⟩) (prV (ci := 0) (q0 := 0) hKK hI (mv_2) rfl rfl rfl) rfl rfl hl.1 rfl (lv_room (Nat.le_of_ble_eq_true rfl)) d_Rn_convert_100 ⟨(Nat.le_of_ble_eq_true rfl), (Nat.le_of_ble_eq_true rfl)⟩) hS (fun _ => ((mv_2)).symm) (fun _ H locs hI hS => ?_)
  have hI : Iw D A (w_Rn g (K 0) (fun j => K (j + 1) 0) s0 ++ (w_Bs g (K 2) s1 ++ (w_Bs g (K 1) o1 ++ (w_Rd g (K 11) (tw (K 14 0) g1) s3 ++ (w_Tr g (K 14) s4 ++ (rest)))))) H := hI
  have h9 := Option.some.inj h
  subst h9
  exact W.iret (v := o3) hx hb hr (fun t ht hW => ⟨⟨_, g1, rfl, rfl, ⟨by rw [ht]; exact hI, hKK.moved hW⟩⟩, hS.F ht⟩) hS.2.2 d_Rn_convert_103
set_option maxRecDepth 100000 in
set_option maxHeartbeats 4000000 in
theorem t_Rn_convert_65 {p : Program} {l : Launch} {e : Env} {s : State} {m : MethodId} {args : Array Value} {below : List Frame} {meth : Method} {c : Code} {D : va_G} {A : Nat → Prop} {g : Nat → ClassId} {rest : va_W} {K : Nat → Nat → Nat} {g1 : Nat} {ls : Array Slot} {H : Heap} {locs : List Loc} {s0 : S_Rn} {s1 : S_Bs} {s2 : S_Bs} {s3 : S_Rd} {s4 : S_Tr} {out : Int32 × S_Bs × S_Bs × S_Rd × S_Tr} (X : Cx p s m args meth c prog_1_method_5_code 4 ws_Rn_convert R_Rn (some .int) D g) (hl : lv_has ls 4 [(0, .ref (K 0 0))]) (hI : Iw D A (w_Rn g (K 0) (fun j => K (j + 1) 0) s0 ++ (w_Bs g (K 2) s1 ++ (w_Bs g (K 1) s2 ++ (w_Rd g (K 11) (tw (K 14 0) g1) s3 ++ (w_Tr g (K 14) s4 ++ (rest)))))) H) (hS : va_S A s.heap H locs) (h : B_Rn_convert_65  s0 s1 s2 s3 s4 = some out) : W p l e (headSpec ws_Rn_convert { frames := 4, cells := 0, slots := 0, locals := 98 }).room s m args below meth c H locs 0 0 (MQ below (QcI D A g out.1 (fun (u : Nat) => w_Rn g (K 0) (fun j => K (j + 1) 0) s0 ++ (w_Bs g (K 2) out.2.1 ++ (w_Bs g (K 1) out.2.2.1 ++ (w_Rd g (K 11) (tw (K 14 0) u) out.2.2.2.1 ++ (w_Tr g (K 14) out.2.2.2.2 ++ (rest))))))) args s 0 0 A) (F0 m 65 ls []) := by
  have X1 := X
  obtain ⟨hx, hb, hml, hown, hts, hr, hlocks, hKK⟩ := X1
  have ht : ∀ w ∈ TB, w.before args s = true := fun w h => hts w (List.mem_cons_of_mem _ h)
  have hK := hKK.1
  unfold B_Rn_convert_65 at h
  refine lv_aload_n hx hb d_Rn_convert_65 rfl (lv_at hl 0 rfl) ?_
  refine va_get (D := D) (ci := 8) (v := .ref (K 2 0)) (C := R_Rn) (T := T_Rn) (N := 16) hx hb ht in_Rn hown hK hI.1 0 rfl rfl 1 (by decide) (ht _ m_204) (fun _ h9 => h9) rfl d_Rn_convert_66 ?_
  obtain ⟨o1, ho2, h⟩ := bd_s h
  refine cl_i (W1 := fun (_ : Unit) => w_Rn g (K 0) (fun j => K (j + 1) 0) s0 ++ (w_Bs g (K 2) s1 ++ (w_Bs g (K 1) s2 ++ (w_Rd g (K 11) (tw (K 14 0) g1) s3 ++ (w_Tr g (K 14) s4 ++ (rest)))))) (va_runV (As := []) (rest := []) ⟨hx, hb, hml, hown, ht⟩ (c_Bs_count (l := l) (D := D) (A := A) (g := g) (rest := w_Rn g (K 0) (fun j => K (j + 1) 0) s0 ++ (w_Bs g (K 1) s2 ++ (w_Rd g (K 11) (tw (K 14 0) g1) s3 ++ (w_Tr g (K 14) s4 ++ (rest))))) (a0 := K 2) ho2) (cwV 0 ht (gd_V m_302 m_303 m_304 m_2 m_305) rfl rfl rfl (by decide +kernel) ⟨(Nat.le_of_ble_eq_true rfl), (Nat.le_of_ble_eq_true rfl)⟩) (prV (ci := 0) (q0 := 0) hKK hI (mv_1) rfl rfl rfl) rfl rfl hl.1 rfl (lv_room (Nat.le_of_ble_eq_true rfl)) d_Rn_convert_69 ⟨(Nat.le_of_ble_eq_true rfl), (Nat.le_of_ble_eq_true rfl)⟩) hS (fun _ => ((mv_1)).symm) (fun _ H locs hI hS => ?_)
  have hI : Iw D A (w_Rn g (K 0) (fun j => K (j + 1) 0) s0 ++ (w_Bs g (K 2) s1 ++ (w_Bs g (K 1) s2 ++ (w_Rd g (K 11) (tw (K 14 0) g1) s3 ++ (w_Tr g (K 14) s4 ++ (rest)))))) H := hI
  refine lv_bipush (v := 120) hx hb d_Rn_convert_72 (by decide) ?_
  refine lv_icmp_le (tgt := 85) hx hb d_Rn_convert_74 (by decide) (fun hc => ?_) (fun hc => ?_)
  · have h := it_t h hc
    exact t_Rn_convert_85 X (lv_sub hl [0] rfl) hI hS h
  · have h := it_f h hc
    exact t_Rn_convert_77 X (lv_sub hl [] rfl) hI hS h
set_option maxRecDepth 100000 in
set_option maxHeartbeats 4000000 in
theorem t_Rn_convert_60 {p : Program} {l : Launch} {e : Env} {s : State} {m : MethodId} {args : Array Value} {below : List Frame} {meth : Method} {c : Code} {D : va_G} {A : Nat → Prop} {g : Nat → ClassId} {rest : va_W} {K : Nat → Nat → Nat} {g1 : Nat} {ls : Array Slot} {H : Heap} {locs : List Loc} {s0 : S_Rn} {s1 : S_Bs} {s2 : S_Bs} {s3 : S_Rd} {s4 : S_Tr} {y0 : Int32} {out : Int32 × S_Bs × S_Bs × S_Rd × S_Tr} (X : Cx p s m args meth c prog_1_method_5_code 4 ws_Rn_convert R_Rn (some .int) D g) (hl : lv_has ls 4 [(0, .ref (K 0 0))]) (hI : Iw D A (w_Rn g (K 0) (fun j => K (j + 1) 0) s0 ++ (w_Bs g (K 2) s1 ++ (w_Bs g (K 1) s2 ++ (w_Rd g (K 11) (tw (K 14 0) g1) s3 ++ (w_Tr g (K 14) s4 ++ (rest)))))) H) (hS : va_S A s.heap H locs) (h : B_Rn_convert_60  s0 s1 s2 s3 s4 y0 = some out) : W p l e (headSpec ws_Rn_convert { frames := 4, cells := 0, slots := 0, locals := 98 }).room s m args below meth c H locs 0 0 (MQ below (QcI D A g out.1 (fun (u : Nat) => w_Rn g (K 0) (fun j => K (j + 1) 0) s0 ++ (w_Bs g (K 2) out.2.1 ++ (w_Bs g (K 1) out.2.2.1 ++ (w_Rd g (K 11) (tw (K 14 0) u) out.2.2.2.1 ++ (w_Tr g (K 14) out.2.2.2.2 ++ (rest))))))) args s 0 0 A) (F0 m 60 ls [.int y0]) := by
  have X1 := X
  obtain ⟨hx, hb, hml, hown, hts, hr, hlocks, hKK⟩ := X1
  have ht : ∀ w ∈ TB, w.before args s = true := fun w h => hts w (List.mem_cons_of_mem _ h)
  have hK := hKK.1
  unfold B_Rn_convert_60 at h
  refine lv_istore_n hx hb d_Rn_convert_60 rfl hl (Nat.le_of_ble_eq_true rfl) rfl (fun ls hl => ?_)
  have hl : lv_has ls 4 [(3, .int y0), (0, .ref (K 0 0))] := hl
  refine lv_iload_n hx hb d_Rn_convert_61 rfl (lv_at hl 0 rfl) ?_
  refine lv_if_eq (tgt := 77) hx hb d_Rn_convert_62 (by decide) (fun hc => ?_) (fun hc => ?_)
  · have h := it_t h hc
    exact t_Rn_convert_77 X (lv_sub hl [] rfl) hI hS h
  · have h := it_f h hc
    exact t_Rn_convert_65 X (lv_sub hl [1] rfl) hI hS h
set_option maxRecDepth 100000 in
set_option maxHeartbeats 4000000 in
theorem t_Rn_convert_59 {p : Program} {l : Launch} {e : Env} {s : State} {m : MethodId} {args : Array Value} {below : List Frame} {meth : Method} {c : Code} {D : va_G} {A : Nat → Prop} {g : Nat → ClassId} {rest : va_W} {K : Nat → Nat → Nat} {g1 : Nat} {ls : Array Slot} {H : Heap} {locs : List Loc} {s0 : S_Rn} {s1 : S_Bs} {s2 : S_Bs} {s3 : S_Rd} {s4 : S_Tr} {out : Int32 × S_Bs × S_Bs × S_Rd × S_Tr} (X : Cx p s m args meth c prog_1_method_5_code 4 ws_Rn_convert R_Rn (some .int) D g) (hl : lv_has ls 4 [(0, .ref (K 0 0))]) (hI : Iw D A (w_Rn g (K 0) (fun j => K (j + 1) 0) s0 ++ (w_Bs g (K 2) s1 ++ (w_Bs g (K 1) s2 ++ (w_Rd g (K 11) (tw (K 14 0) g1) s3 ++ (w_Tr g (K 14) s4 ++ (rest)))))) H) (hS : va_S A s.heap H locs) (h : B_Rn_convert_59  s0 s1 s2 s3 s4 = some out) : W p l e (headSpec ws_Rn_convert { frames := 4, cells := 0, slots := 0, locals := 98 }).room s m args below meth c H locs 0 0 (MQ below (QcI D A g out.1 (fun (u : Nat) => w_Rn g (K 0) (fun j => K (j + 1) 0) s0 ++ (w_Bs g (K 2) out.2.1 ++ (w_Bs g (K 1) out.2.2.1 ++ (w_Rd g (K 11) (tw (K 14 0) u) out.2.2.2.1 ++ (w_Tr g (K 14) out.2.2.2.2 ++ (rest))))))) args s 0 0 A) (F0 m 59 ls []) := by
  have X1 := X
  obtain ⟨hx, hb, hml, hown, hts, hr, hlocks, hKK⟩ := X1
  have ht : ∀ w ∈ TB, w.before args s = true := fun w h => hts w (List.mem_cons_of_mem _ h)
  have hK := hKK.1
  unfold B_Rn_convert_59 at h
  refine lv_iconst (v := 0) hx hb d_Rn_convert_59 (by decide) ?_
  exact t_Rn_convert_60 X (lv_sub hl [0] rfl) hI hS h
set_option maxRecDepth 100000 in
set_option maxHeartbeats 4000000 in
theorem t_Rn_convert_55 {p : Program} {l : Launch} {e : Env} {s : State} {m : MethodId} {args : Array Value} {below : List Frame} {meth : Method} {c : Code} {D : va_G} {A : Nat → Prop} {g : Nat → ClassId} {rest : va_W} {K : Nat → Nat → Nat} {g1 : Nat} {ls : Array Slot} {H : Heap} {locs : List Loc} {s0 : S_Rn} {s1 : S_Bs} {s2 : S_Bs} {s3 : S_Rd} {s4 : S_Tr} {out : Int32 × S_Bs × S_Bs × S_Rd × S_Tr} (X : Cx p s m args meth c prog_1_method_5_code 4 ws_Rn_convert R_Rn (some .int) D g) (hl : lv_has ls 4 [(0, .ref (K 0 0))]) (hI : Iw D A (w_Rn g (K 0) (fun j => K (j + 1) 0) s0 ++ (w_Bs g (K 2) s1 ++ (w_Bs g (K 1) s2 ++ (w_Rd g (K 11) (tw (K 14 0) g1) s3 ++ (w_Tr g (K 14) s4 ++ (rest)))))) H) (hS : va_S A s.heap H locs) (h : B_Rn_convert_55  s0 s1 s2 s3 s4 = some out) : W p l e (headSpec ws_Rn_convert { frames := 4, cells := 0, slots := 0, locals := 98 }).room s m args below meth c H locs 0 0 (MQ below (QcI D A g out.1 (fun (u : Nat) => w_Rn g (K 0) (fun j => K (j + 1) 0) s0 ++ (w_Bs g (K 2) out.2.1 ++ (w_Bs g (K 1) out.2.2.1 ++ (w_Rd g (K 11) (tw (K 14 0) u) out.2.2.2.1 ++ (w_Tr g (K 14) out.2.2.2.2 ++ (rest))))))) args s 0 0 A) (F0 m 55 ls []) := by
  have X1 := X
  obtain ⟨hx, hb, hml, hown, hts, hr, hlocks, hKK⟩ := X1
  have ht : ∀ w ∈ TB, w.before args s = true := fun w h => hts w (List.mem_cons_of_mem _ h)
  have hK := hKK.1
  unfold B_Rn_convert_55 at h
  refine lv_iconst (v := 1) hx hb d_Rn_convert_55 (by decide) ?_
  refine lv_goto (tgt := 60) hx hb d_Rn_convert_56 (by decide) ?_
  exact t_Rn_convert_60 X (lv_sub hl [0] rfl) hI hS h
set_option maxRecDepth 100000 in
set_option maxHeartbeats 4000000 in
theorem t_Rn_convert_37 {p : Program} {l : Launch} {e : Env} {s : State} {m : MethodId} {args : Array Value} {below : List Frame} {meth : Method} {c : Code} {D : va_G} {A : Nat → Prop} {g : Nat → ClassId} {rest : va_W} {K : Nat → Nat → Nat} {g1 : Nat} {ls : Array Slot} {H : Heap} {locs : List Loc} {s0 : S_Rn} {s1 : S_Bs} {s2 : S_Bs} {s3 : S_Rd} {s4 : S_Tr} {x2 : Int32} {out : Int32 × S_Bs × S_Bs × S_Rd × S_Tr} (X : Cx p s m args meth c prog_1_method_5_code 4 ws_Rn_convert R_Rn (some .int) D g) (hl : lv_has ls 4 [(0, .ref (K 0 0)), (2, .int x2)]) (hI : Iw D A (w_Rn g (K 0) (fun j => K (j + 1) 0) s0 ++ (w_Bs g (K 2) s1 ++ (w_Bs g (K 1) s2 ++ (w_Rd g (K 11) (tw (K 14 0) g1) s3 ++ (w_Tr g (K 14) s4 ++ (rest)))))) H) (hS : va_S A s.heap H locs) (h : B_Rn_convert_37  s0 s1 s2 s3 s4 x2 = some out) : W p l e (headSpec ws_Rn_convert { frames := 4, cells := 0, slots := 0, locals := 98 }).room s m args below meth c H locs 0 0 (MQ below (QcI D A g out.1 (fun (u : Nat) => w_Rn g (K 0) (fun j => K (j + 1) 0) s0 ++ (w_Bs g (K 2) out.2.1 ++ (w_Bs g (K 1) out.2.2.1 ++ (w_Rd g (K 11) (tw (K 14 0) u) out.2.2.2.1 ++ (w_Tr g (K 14) out.2.2.2.2 ++ (rest))))))) args s 0 0 A) (F0 m 37 ls []) := by
  have X1 := X
  obtain ⟨hx, hb, hml, hown, hts, hr, hlocks, hKK⟩ := X1
  have ht : ∀ w ∈ TB, w.before args s = true := fun w h => hts w (List.mem_cons_of_mem _ h)
  have hK := hKK.1
  unfold B_Rn_convert_37 at h
  refine lv_aload_n hx hb d_Rn_convert_37 rfl (lv_at hl 0 rfl) ?_
  refine va_get (D := D) (ci := 8) (v := .ref (K 11 0)) (C := R_Rn) (T := T_Rn) (N := 16) hx hb ht in_Rn hown hK hI.1 0 rfl rfl 10 (by decide) (ht _ m_213) (fun _ h9 => h9) rfl d_Rn_convert_38 ?_
  obtain ⟨o1, ho2, h⟩ := bd_s h
  refine cl_a (W1 := fun (_ : Unit) => w_Rn g (K 0) (fun j => K (j + 1) 0) s0 ++ (w_Bs g (K 2) s1 ++ (w_Bs g (K 1) s2 ++ (w_Rd g (K 11) (tw (K 14 0) g1) s3 ++ (w_Tr g (K 14) s4 ++ (rest)))))) (va_runV (As := []) (rest := []) ⟨hx, hb, hml, hown, ht⟩ (c_Rd_tree (l := l) (D := D) (A := A) (g := g) (rest := w_Rn g (K 0) (fun j => K (j + 1) 0) s0 ++ (w_Bs g (K 2) s1 ++ (w_Bs g (K 1) s2 ++ (w_Tr g (K 14) s4 ++ (rest))))) (a0 := K 11) (a1 := K 14) (sr := fun _ => g1) ho2) (cwV 0 ht (gd_V m_495 m_496 m_497 m_8 m_498) rfl rfl rfl (by decide +kernel) ⟨(Nat.le_of_ble_eq_true rfl), (Nat.le_of_ble_eq_true rfl)⟩) (prV (ci := 5) (q0 := 0) hKK hI (mv_3) rfl rfl rfl) rfl rfl hl.1 rfl (lv_room (Nat.le_of_ble_eq_true rfl)) d_Rn_convert_41 ⟨(Nat.le_of_ble_eq_true rfl), (Nat.le_of_ble_eq_true rfl)⟩) hS (fun _ => ((mv_3)).symm) (fun _ H locs hI hS => ?_)
  have hI : Iw D A (w_Rn g (K 0) (fun j => K (j + 1) 0) s0 ++ (w_Bs g (K 2) s1 ++ (w_Bs g (K 1) s2 ++ (w_Rd g (K 11) (tw (K 14 0) g1) s3 ++ (w_Tr g (K 14) s4 ++ (rest)))))) H := hI
  refine lv_iload_n hx hb d_Rn_convert_44 rfl (lv_at hl 1 rfl) ?_
  refine lv_aload_n hx hb d_Rn_convert_45 rfl (lv_at hl 0 rfl) ?_
  refine va_get (D := D) (ci := 8) (v := .ref (K 2 0)) (C := R_Rn) (T := T_Rn) (N := 16) hx hb ht in_Rn hown hK hI.1 0 rfl rfl 1 (by decide) (ht _ m_204) (fun _ h9 => h9) rfl d_Rn_convert_46 ?_
  obtain ⟨o3, ho4, h⟩ := bd_s h
  refine cl_i (W1 := fun (_ : Unit) => w_Rn g (K 0) (fun j => K (j + 1) 0) s0 ++ (w_Bs g (K 2) o3.2 ++ (w_Bs g (K 1) s2 ++ (w_Rd g (K 11) (tw (K 14 0) g1) s3 ++ (w_Tr g (K 14) s4 ++ (rest)))))) (va_runV (As := [.int x2, .ref (K 2 0)]) (rest := []) ⟨hx, hb, hml, hown, ht⟩ (c_Tr_writeAll (l := l) (D := D) (A := A) (g := g) (rest := w_Rn g (K 0) (fun j => K (j + 1) 0) s0 ++ (w_Bs g (K 1) s2 ++ (w_Rd g (K 11) (tw (K 14 0) g1) s3 ++ (rest)))) (a0 := K 14) (a1 := K 2) ho4) (cwV 2 ht (gd_V m_564 m_565 m_566 m_9 m_567) rfl rfl rfl (by decide +kernel) ⟨(Nat.le_of_ble_eq_true rfl), (Nat.le_of_ble_eq_true rfl)⟩) (prV (ci := 7) (q0 := 0) hKK hI ((mv_1).trans (mv_4)) rfl rfl rfl) rfl rfl hl.1 rfl (lv_room (Nat.le_of_ble_eq_true rfl)) d_Rn_convert_49 ⟨(Nat.le_of_ble_eq_true rfl), (Nat.le_of_ble_eq_true rfl)⟩) hS (fun _ => (((mv_1).trans (mv_4))).symm) (fun _ H locs hI hS => ?_)
  have hI : Iw D A (w_Rn g (K 0) (fun j => K (j + 1) 0) s0 ++ (w_Bs g (K 2) o3.2 ++ (w_Bs g (K 1) s2 ++ (w_Rd g (K 11) (tw (K 14 0) g1) s3 ++ (w_Tr g (K 14) s4 ++ (rest)))))) H := hI
  refine lv_if_eq (tgt := 59) hx hb d_Rn_convert_52 (by decide) (fun hc => ?_) (fun hc => ?_)
  · have h := it_t h hc
    exact t_Rn_convert_59 X (lv_sub hl [0] rfl) hI hS h
  · have h := it_f h hc
    exact t_Rn_convert_55 X (lv_sub hl [0] rfl) hI hS h
set_option maxRecDepth 100000 in
set_option maxHeartbeats 4000000 in
theorem t_Rn_convert_22 {p : Program} {l : Launch} {e : Env} {s : State} {m : MethodId} {args : Array Value} {below : List Frame} {meth : Method} {c : Code} {D : va_G} {A : Nat → Prop} {g : Nat → ClassId} {rest : va_W} {K : Nat → Nat → Nat} {g1 : Nat} {ls : Array Slot} {H : Heap} {locs : List Loc} {s0 : S_Rn} {s1 : S_Bs} {s2 : S_Bs} {s3 : S_Rd} {s4 : S_Tr} {x1 : Int32} {x2 : Int32} {out : Int32 × S_Bs × S_Bs × S_Rd × S_Tr} (X : Cx p s m args meth c prog_1_method_5_code 4 ws_Rn_convert R_Rn (some .int) D g) (hl : lv_has ls 4 [(0, .ref (K 0 0)), (1, .int x1), (2, .int x2)]) (hI : Iw D A (w_Rn g (K 0) (fun j => K (j + 1) 0) s0 ++ (w_Bs g (K 2) s1 ++ (w_Bs g (K 1) s2 ++ (w_Rd g (K 11) (tw (K 14 0) g1) s3 ++ (w_Tr g (K 14) s4 ++ (rest)))))) H) (hS : va_S A s.heap H locs) (h : B_Rn_convert_22  s0 s1 s2 s3 s4 x1 x2 = some out) : W p l e (headSpec ws_Rn_convert { frames := 4, cells := 0, slots := 0, locals := 98 }).room s m args below meth c H locs 0 0 (MQ below (QcI D A g out.1 (fun (u : Nat) => w_Rn g (K 0) (fun j => K (j + 1) 0) s0 ++ (w_Bs g (K 2) out.2.1 ++ (w_Bs g (K 1) out.2.2.1 ++ (w_Rd g (K 11) (tw (K 14 0) u) out.2.2.2.1 ++ (w_Tr g (K 14) out.2.2.2.2 ++ (rest))))))) args s 0 0 A) (F0 m 22 ls []) := by
  have X1 := X
  obtain ⟨hx, hb, hml, hown, hts, hr, hlocks, hKK⟩ := X1
  have ht : ∀ w ∈ TB, w.before args s = true := fun w h => hts w (List.mem_cons_of_mem _ h)
  have hK := hKK.1
  unfold B_Rn_convert_22 at h
  refine lv_aload_n hx hb d_Rn_convert_22 rfl (lv_at hl 0 rfl) ?_
  refine va_get (D := D) (ci := 8) (v := .ref (K 11 0)) (C := R_Rn) (T := T_Rn) (N := 16) hx hb ht in_Rn hown hK hI.1 0 rfl rfl 10 (by decide) (ht _ m_213) (fun _ h9 => h9) rfl d_Rn_convert_23 ?_
  refine lv_aload_n hx hb d_Rn_convert_26 rfl (lv_at hl 0 rfl) ?_
  refine va_get (D := D) (ci := 8) (v := .ref (K 1 0)) (C := R_Rn) (T := T_Rn) (N := 16) hx hb ht in_Rn hown hK hI.1 0 rfl rfl 0 (by decide) (ht _ m_203) (fun _ h9 => h9) rfl d_Rn_convert_27 ?_
  refine lv_iload_n hx hb d_Rn_convert_30 rfl (lv_at hl 1 rfl) ?_
  obtain ⟨o1, ho2, h⟩ := bd_s h
  refine cl_i (W1 := fun (_ : Unit) => w_Rn g (K 0) (fun j => K (j + 1) 0) s0 ++ (w_Bs g (K 2) s1 ++ (w_Bs g (K 1) s2 ++ (w_Rd g (K 11) (tw (K 14 0) (K 1 0)) o1.2.1 ++ (w_Tr g (K 14) o1.2.2 ++ (rest)))))) (va_runV (As := [.ref (K 1 0), .int x1]) (rest := []) ⟨hx, hb, hml, hown, ht⟩ (c_Rd_read (l := l) (D := D) (A := A) (g := g) (rest := w_Rn g (K 0) (fun j => K (j + 1) 0) s0 ++ (w_Bs g (K 2) s1 ++ (rest))) (a0 := K 11) (a1 := K 14) (a2 := K 1) (u0 := g1) ho2) (cwV 2 ht (gd_V m_412 m_413 m_414 m_8 m_415) rfl rfl rfl (by decide +kernel) ⟨(Nat.le_of_ble_eq_true rfl), (Nat.le_of_ble_eq_true rfl)⟩) (prV (ci := 5) (q0 := 0) hKK hI ((mv_2).trans ((mv_4).trans (mv_4))) rfl rfl rfl) rfl rfl hl.1 rfl (lv_room (Nat.le_of_ble_eq_true rfl)) d_Rn_convert_31 ⟨(Nat.le_of_ble_eq_true rfl), (Nat.le_of_ble_eq_true rfl)⟩) hS (fun _ => (((mv_2).trans ((mv_4).trans (mv_4)))).symm) (fun _ H locs hI hS => ?_)
  have hI : Iw D A (w_Rn g (K 0) (fun j => K (j + 1) 0) s0 ++ (w_Bs g (K 2) s1 ++ (w_Bs g (K 1) s2 ++ (w_Rd g (K 11) (tw (K 14 0) (K 1 0)) o1.2.1 ++ (w_Tr g (K 14) o1.2.2 ++ (rest)))))) H := hI
  refine lv_if_ne (tgt := 59) hx hb d_Rn_convert_34 (by decide) (fun hc => ?_) (fun hc => ?_)
  · have h := it_f h hc
    exact t_Rn_convert_59 X (lv_sub hl [0] rfl) hI hS h
  · have h := it_t h hc
    exact t_Rn_convert_37 X (lv_sub hl [0, 2] rfl) hI hS h
set_option maxRecDepth 100000 in
set_option maxHeartbeats 4000000 in
theorem t_Rn_convert_7 {p : Program} {l : Launch} {e : Env} {s : State} {m : MethodId} {args : Array Value} {below : List Frame} {meth : Method} {c : Code} {D : va_G} {A : Nat → Prop} {g : Nat → ClassId} {rest : va_W} {K : Nat → Nat → Nat} {g1 : Nat} {ls : Array Slot} {H : Heap} {locs : List Loc} {s0 : S_Rn} {s1 : S_Bs} {s2 : S_Bs} {s3 : S_Rd} {s4 : S_Tr} {x1 : Int32} {x2 : Int32} {out : Int32 × S_Bs × S_Bs × S_Rd × S_Tr} (X : Cx p s m args meth c prog_1_method_5_code 4 ws_Rn_convert R_Rn (some .int) D g) (hl : lv_has ls 4 [(0, .ref (K 0 0)), (1, .int x1), (2, .int x2)]) (hI : Iw D A (w_Rn g (K 0) (fun j => K (j + 1) 0) s0 ++ (w_Bs g (K 2) s1 ++ (w_Bs g (K 1) s2 ++ (w_Rd g (K 11) (tw (K 14 0) g1) s3 ++ (w_Tr g (K 14) s4 ++ (rest)))))) H) (hS : va_S A s.heap H locs) (h : B_Rn_convert_7  s0 s1 s2 s3 s4 x1 x2 = some out) : W p l e (headSpec ws_Rn_convert { frames := 4, cells := 0, slots := 0, locals := 98 }).room s m args below meth c H locs 0 0 (MQ below (QcI D A g out.1 (fun (u : Nat) => w_Rn g (K 0) (fun j => K (j + 1) 0) s0 ++ (w_Bs g (K 2) out.2.1 ++ (w_Bs g (K 1) out.2.2.1 ++ (w_Rd g (K 11) (tw (K 14 0) u) out.2.2.2.1 ++ (w_Tr g (K 14) out.2.2.2.2 ++ (rest))))))) args s 0 0 A) (F0 m 7 ls []) := by
  have X1 := X
  obtain ⟨hx, hb, hml, hown, hts, hr, hlocks, hKK⟩ := X1
  have ht : ∀ w ∈ TB, w.before args s = true := fun w h => hts w (List.mem_cons_of_mem _ h)
  have hK := hKK.1
  unfold B_Rn_convert_7 at h
  refine lv_iload_n hx hb d_Rn_convert_7 rfl (lv_at hl 2 rfl) ?_
  obtain ⟨o1, ho2, h⟩ := bd_s h
  refine cl_i (W1 := fun (_ : Unit) => w_Rn g (K 0) (fun j => K (j + 1) 0) s0 ++ (w_Bs g (K 2) s1 ++ (w_Bs g (K 1) s2 ++ (w_Rd g (K 11) (tw (K 14 0) g1) s3 ++ (w_Tr g (K 14) s4 ++ (rest)))))) (va_runS (As := [.int x2]) (rest := []) ⟨hx, hb, hml, hown, ht⟩ (c_Rn_isSyntax (l := l) (D := D) (A := A) (g := g) (rest := w_Rn g (K 0) (fun j => K (j + 1) 0) s0 ++ (w_Bs g (K 2) s1 ++ (w_Bs g (K 1) s2 ++ (w_Rd g (K 11) (tw (K 14 0) g1) s3 ++ (w_Tr g (K 14) s4 ++ (rest))))))  ho2) (va_cwS 1 ht (gd_S m_672 m_673 m_1 m_674) rfl rfl rfl (by decide +kernel) ⟨(Nat.le_of_ble_eq_true rfl), (Nat.le_of_ble_eq_true rfl)⟩) (prS hKK hI (List.Perm.refl _)) rfl rfl hl.1 rfl (lv_room (Nat.le_of_ble_eq_true rfl)) d_Rn_convert_8 ⟨(Nat.le_of_ble_eq_true rfl), (Nat.le_of_ble_eq_true rfl)⟩) hS (fun _ => ((List.Perm.refl _)).symm) (fun _ H locs hI hS => ?_)
  have hI : Iw D A (w_Rn g (K 0) (fun j => K (j + 1) 0) s0 ++ (w_Bs g (K 2) s1 ++ (w_Bs g (K 1) s2 ++ (w_Rd g (K 11) (tw (K 14 0) g1) s3 ++ (w_Tr g (K 14) s4 ++ (rest)))))) H := hI
  refine lv_if_ne (tgt := 22) hx hb d_Rn_convert_11 (by decide) (fun hc => ?_) (fun hc => ?_)
  · have h := it_f h hc
    exact t_Rn_convert_22 X (lv_sub hl [0, 1, 2] rfl) hI hS h
  · have h := it_t h hc
    exact t_Rn_convert_14 X (lv_sub hl [] rfl) hI hS h
set_option maxRecDepth 100000 in
set_option maxHeartbeats 4000000 in
theorem t_Rn_convert_0 {p : Program} {l : Launch} {e : Env} {s : State} {m : MethodId} {args : Array Value} {below : List Frame} {meth : Method} {c : Code} {D : va_G} {A : Nat → Prop} {g : Nat → ClassId} {rest : va_W} {K : Nat → Nat → Nat} {g1 : Nat} {ls : Array Slot} {H : Heap} {locs : List Loc} {s0 : S_Rn} {s1 : S_Bs} {s2 : S_Bs} {s3 : S_Rd} {s4 : S_Tr} {x1 : Int32} {x2 : Int32} {out : Int32 × S_Bs × S_Bs × S_Rd × S_Tr} (X : Cx p s m args meth c prog_1_method_5_code 4 ws_Rn_convert R_Rn (some .int) D g) (hl : lv_has ls 4 [(0, .ref (K 0 0)), (1, .int x1), (2, .int x2)]) (hI : Iw D A (w_Rn g (K 0) (fun j => K (j + 1) 0) s0 ++ (w_Bs g (K 2) s1 ++ (w_Bs g (K 1) s2 ++ (w_Rd g (K 11) (tw (K 14 0) g1) s3 ++ (w_Tr g (K 14) s4 ++ (rest)))))) H) (hS : va_S A s.heap H locs) (h : B_Rn_convert_0  s0 s1 s2 s3 s4 x1 x2 = some out) : W p l e (headSpec ws_Rn_convert { frames := 4, cells := 0, slots := 0, locals := 98 }).room s m args below meth c H locs 0 0 (MQ below (QcI D A g out.1 (fun (u : Nat) => w_Rn g (K 0) (fun j => K (j + 1) 0) s0 ++ (w_Bs g (K 2) out.2.1 ++ (w_Bs g (K 1) out.2.2.1 ++ (w_Rd g (K 11) (tw (K 14 0) u) out.2.2.2.1 ++ (w_Tr g (K 14) out.2.2.2.2 ++ (rest))))))) args s 0 0 A) (F0 m 0 ls []) := by
  have X1 := X
  obtain ⟨hx, hb, hml, hown, hts, hr, hlocks, hKK⟩ := X1
  have ht : ∀ w ∈ TB, w.before args s = true := fun w h => hts w (List.mem_cons_of_mem _ h)
  have hK := hKK.1
  unfold B_Rn_convert_0 at h
  refine lv_iload_n hx hb d_Rn_convert_0 rfl (lv_at hl 1 rfl) ?_
  obtain ⟨o1, ho2, h⟩ := bd_s h
  refine cl_i (W1 := fun (_ : Unit) => w_Rn g (K 0) (fun j => K (j + 1) 0) s0 ++ (w_Bs g (K 2) s1 ++ (w_Bs g (K 1) s2 ++ (w_Rd g (K 11) (tw (K 14 0) g1) s3 ++ (w_Tr g (K 14) s4 ++ (rest)))))) (va_runS (As := [.int x1]) (rest := []) ⟨hx, hb, hml, hown, ht⟩ (c_Rn_isSyntax (l := l) (D := D) (A := A) (g := g) (rest := w_Rn g (K 0) (fun j => K (j + 1) 0) s0 ++ (w_Bs g (K 2) s1 ++ (w_Bs g (K 1) s2 ++ (w_Rd g (K 11) (tw (K 14 0) g1) s3 ++ (w_Tr g (K 14) s4 ++ (rest))))))  ho2) (va_cwS 1 ht (gd_S m_672 m_673 m_1 m_674) rfl rfl rfl (by decide +kernel) ⟨(Nat.le_of_ble_eq_true rfl), (Nat.le_of_ble_eq_true rfl)⟩) (prS hKK hI (List.Perm.refl _)) rfl rfl hl.1 rfl (lv_room (Nat.le_of_ble_eq_true rfl)) d_Rn_convert_1 ⟨(Nat.le_of_ble_eq_true rfl), (Nat.le_of_ble_eq_true rfl)⟩) hS (fun _ => ((List.Perm.refl _)).symm) (fun _ H locs hI hS => ?_)
  have hI : Iw D A (w_Rn g (K 0) (fun j => K (j + 1) 0) s0 ++ (w_Bs g (K 2) s1 ++ (w_Bs g (K 1) s2 ++ (w_Rd g (K 11) (tw (K 14 0) g1) s3 ++ (w_Tr g (K 14) s4 ++ (rest)))))) H := hI
  refine lv_if_eq (tgt := 14) hx hb d_Rn_convert_4 (by decide) (fun hc => ?_) (fun hc => ?_)
  · have h := it_t h hc
    exact t_Rn_convert_14 X (lv_sub hl [] rfl) hI hS h
  · have h := it_f h hc
    exact t_Rn_convert_7 X (lv_sub hl [0, 1, 2] rfl) hI hS h
set_option maxRecDepth 100000 in
set_option maxHeartbeats 4000000 in
theorem c_Rn_convert {l : Launch} {D : va_G} {A : Nat → Prop} {g : Nat → ClassId} {rest : va_W} {K : Nat → Nat → Nat} {g1 : Nat} {s0 : S_Rn} {s1 : S_Bs} {s2 : S_Bs} {s3 : S_Rd} {s4 : S_Tr} {x1 : Int32} {x2 : Int32} {out : Int32 × S_Bs × S_Bs × S_Rd × S_Tr} (h : F_Rn_convert s0 s1 s2 s3 s4 x1 x2 = some out) : Met l y_Rn_convert ws_Rn_convert { frames := 4, cells := 0, slots := 0, locals := 98 } (PcW D A g [.ref (K 0 0), .int x1, .int x2] (w_Rn g (K 0) (fun j => K (j + 1) 0) s0 ++ (w_Bs g (K 2) s1 ++ (w_Bs g (K 1) s2 ++ (w_Rd g (K 11) (tw (K 14 0) g1) s3 ++ (w_Tr g (K 14) s4 ++ (rest))))))) (QcI D A g out.1 (fun (u : Nat) => w_Rn g (K 0) (fun j => K (j + 1) 0) s0 ++ (w_Bs g (K 2) out.2.1 ++ (w_Bs g (K 1) out.2.2.1 ++ (w_Rd g (K 11) (tw (K 14 0) u) out.2.2.2.1 ++ (w_Tr g (K 14) out.2.2.2.2 ++ (rest))))))) 0 0 A := by
  refine Met.ofW (cc := prog_1_method_5_code) (maxL := 4) (ret := (some .int)) (by decide) rfl ?_
  intro p e s m args below meth c s₁ B hml hv
  obtain ⟨rfl, hI, hK⟩ := hv
  have hl := lv_entry [.ref (K 0 0), .int x1, .int x2] (n := 4) (Nat.le_of_ble_eq_true rfl)
  rw [lg_entry_eq]
  generalize (lg_sl [.ref (K 0 0), .int x1, .int x2] ++ List.replicate (4 - (lg_sl [.ref (K 0 0), .int x1, .int x2]).length) Slot.unset).toArray = ls at hl ⊢
  have hl : lv_has ls 4 [(0, .ref (K 0 0)), (1, .int x1), (2, .int x2)] := hl
  exact t_Rn_convert_0 ⟨B.exec, B.bytes, hml, findClass_of_methodNamed B.named, atoms_spec (ws := ws_Rn_convert) B.pre, B.returns, B.notSynchronized, hK⟩ (lv_sub hl [0, 1, 2] rfl) hI va_S.rf h
def ws_Rn_at : List Cond := .code y_Rn_at prog_1_method_6_code 2 (some .int) :: TB
def B_Rn_at_16 (s0 : S_Rn) (s1 : S_Bs) : Option Int32 :=
  none
def B_Rn_at_47 (s0 : S_Rn) (s1 : S_Bs) (y0 : Int32) : Option Int32 :=
  some y0
def B_Rn_at_39 (s0 : S_Rn) (s1 : S_Bs) (x1 : Int32) : Option Int32 :=
  ((F_Bs_get s1 x1).bind fun o1 => (B_Rn_at_47 s0 s1 o1))
def B_Rn_at_29 (s0 : S_Rn) (s1 : S_Bs) : Option Int32 :=
  ((F_Bs_count s1).bind fun o1 => (B_Rn_at_47 s0 s1 o1))
def B_Rn_at_24 (s0 : S_Rn) (s1 : S_Bs) (x1 : Int32) : Option Int32 :=
  (if x1 = ((-1) : Int32) then (B_Rn_at_29 s0 s1) else (B_Rn_at_39 s0 s1 x1))
def B_Rn_at_5 (s0 : S_Rn) (s1 : S_Bs) (x1 : Int32) : Option Int32 :=
  ((F_Bs_count s1).bind fun o1 => (if x1 < o1 then (B_Rn_at_24 s0 s1 x1) else (B_Rn_at_16 s0 s1)))
def B_Rn_at_0 (s0 : S_Rn) (s1 : S_Bs) (x1 : Int32) : Option Int32 :=
  (if x1 < ((-1) : Int32) then (B_Rn_at_16 s0 s1) else (B_Rn_at_5 s0 s1 x1))
def F_Rn_at (s0 : S_Rn) (s1 : S_Bs) (x1 : Int32) : Option Int32 := B_Rn_at_0 s0 s1 x1
set_option maxRecDepth 100000 in
set_option maxHeartbeats 4000000 in
theorem t_Rn_at_16 {p : Program} {l : Launch} {e : Env} {s : State} {m : MethodId} {args : Array Value} {below : List Frame} {meth : Method} {c : Code} {D : va_G} {A : Nat → Prop} {g : Nat → ClassId} {rest : va_W} {K : Nat → Nat → Nat} {ls : Array Slot} {H : Heap} {locs : List Loc} {s0 : S_Rn} {s1 : S_Bs} {out : Int32} (X : Cx p s m args meth c prog_1_method_6_code 2 ws_Rn_at R_Rn (some .int) D g) (hl : lv_has ls 2 []) (hI : Iw D A (w_Rn g (K 0) (fun j => K (j + 1) 0) s0 ++ (w_Bs g (K 1) s1 ++ (rest))) H) (hS : va_S A s.heap H locs) (h : B_Rn_at_16  s0 s1 = some out) : W p l e (headSpec ws_Rn_at { frames := 1, cells := 0, slots := 0, locals := 21 }).room s m args below meth c H locs 0 0 (MQ below (QcI D A g out (fun (_ : Unit) => w_Rn g (K 0) (fun j => K (j + 1) 0) s0 ++ (w_Bs g (K 1) s1 ++ (rest)))) args s 0 0 A) (F0 m 16 ls []) := by
  have X1 := X
  obtain ⟨hx, hb, hml, hown, hts, hr, hlocks, hKK⟩ := X1
  have ht : ∀ w ∈ TB, w.before args s = true := fun w h => hts w (List.mem_cons_of_mem _ h)
  have hK := hKK.1
  unfold B_Rn_at_16 at h
  exact no_s h
set_option maxRecDepth 100000 in
set_option maxHeartbeats 4000000 in
theorem t_Rn_at_47 {p : Program} {l : Launch} {e : Env} {s : State} {m : MethodId} {args : Array Value} {below : List Frame} {meth : Method} {c : Code} {D : va_G} {A : Nat → Prop} {g : Nat → ClassId} {rest : va_W} {K : Nat → Nat → Nat} {ls : Array Slot} {H : Heap} {locs : List Loc} {s0 : S_Rn} {s1 : S_Bs} {y0 : Int32} {out : Int32} (X : Cx p s m args meth c prog_1_method_6_code 2 ws_Rn_at R_Rn (some .int) D g) (hl : lv_has ls 2 []) (hI : Iw D A (w_Rn g (K 0) (fun j => K (j + 1) 0) s0 ++ (w_Bs g (K 1) s1 ++ (rest))) H) (hS : va_S A s.heap H locs) (h : B_Rn_at_47  s0 s1 y0 = some out) : W p l e (headSpec ws_Rn_at { frames := 1, cells := 0, slots := 0, locals := 21 }).room s m args below meth c H locs 0 0 (MQ below (QcI D A g out (fun (_ : Unit) => w_Rn g (K 0) (fun j => K (j + 1) 0) s0 ++ (w_Bs g (K 1) s1 ++ (rest)))) args s 0 0 A) (F0 m 47 ls [.int y0]) := by
  have X1 := X
  obtain ⟨hx, hb, hml, hown, hts, hr, hlocks, hKK⟩ := X1
  have ht : ∀ w ∈ TB, w.before args s = true := fun w h => hts w (List.mem_cons_of_mem _ h)
  have hK := hKK.1
  unfold B_Rn_at_47 at h
  have h9 := Option.some.inj h
  subst h9
  exact W.iret (v := y0) hx hb hr (fun t ht hW => ⟨⟨_, (), rfl, rfl, ⟨by rw [ht]; exact hI, hKK.moved hW⟩⟩, hS.F ht⟩) hS.2.2 d_Rn_at_47
set_option maxRecDepth 100000 in
set_option maxHeartbeats 4000000 in
theorem t_Rn_at_39 {p : Program} {l : Launch} {e : Env} {s : State} {m : MethodId} {args : Array Value} {below : List Frame} {meth : Method} {c : Code} {D : va_G} {A : Nat → Prop} {g : Nat → ClassId} {rest : va_W} {K : Nat → Nat → Nat} {ls : Array Slot} {H : Heap} {locs : List Loc} {s0 : S_Rn} {s1 : S_Bs} {x1 : Int32} {out : Int32} (X : Cx p s m args meth c prog_1_method_6_code 2 ws_Rn_at R_Rn (some .int) D g) (hl : lv_has ls 2 [(0, .ref (K 0 0)), (1, .int x1)]) (hI : Iw D A (w_Rn g (K 0) (fun j => K (j + 1) 0) s0 ++ (w_Bs g (K 1) s1 ++ (rest))) H) (hS : va_S A s.heap H locs) (h : B_Rn_at_39  s0 s1 x1 = some out) : W p l e (headSpec ws_Rn_at { frames := 1, cells := 0, slots := 0, locals := 21 }).room s m args below meth c H locs 0 0 (MQ below (QcI D A g out (fun (_ : Unit) => w_Rn g (K 0) (fun j => K (j + 1) 0) s0 ++ (w_Bs g (K 1) s1 ++ (rest)))) args s 0 0 A) (F0 m 39 ls []) := by
  have X1 := X
  obtain ⟨hx, hb, hml, hown, hts, hr, hlocks, hKK⟩ := X1
  have ht : ∀ w ∈ TB, w.before args s = true := fun w h => hts w (List.mem_cons_of_mem _ h)
  have hK := hKK.1
  unfold B_Rn_at_39 at h
  refine lv_aload_n hx hb d_Rn_at_39 rfl (lv_at hl 0 rfl) ?_
  refine va_get (D := D) (ci := 8) (v := .ref (K 1 0)) (C := R_Rn) (T := T_Rn) (N := 16) hx hb ht in_Rn hown hK hI.1 0 rfl rfl 0 (by decide) (ht _ m_203) (fun _ h9 => h9) rfl d_Rn_at_40 ?_
  refine lv_iload_n hx hb d_Rn_at_43 rfl (lv_at hl 1 rfl) ?_
  obtain ⟨o1, ho2, h⟩ := bd_s h
  refine cl_i (W1 := fun (_ : Unit) => w_Rn g (K 0) (fun j => K (j + 1) 0) s0 ++ (w_Bs g (K 1) s1 ++ (rest))) (va_runV (As := [.int x1]) (rest := []) ⟨hx, hb, hml, hown, ht⟩ (c_Bs_get (l := l) (D := D) (A := A) (g := g) (rest := w_Rn g (K 0) (fun j => K (j + 1) 0) s0 ++ (rest)) (a0 := K 1) ho2) (cwV 1 ht (gd_V m_306 m_307 m_308 m_2 m_309) rfl rfl rfl (by decide +kernel) ⟨(Nat.le_of_ble_eq_true rfl), (Nat.le_of_ble_eq_true rfl)⟩) (prV (ci := 0) (q0 := 0) hKK hI (mv_1) rfl rfl rfl) rfl rfl hl.1 rfl (lv_room (Nat.le_of_ble_eq_true rfl)) d_Rn_at_44 ⟨(Nat.le_of_ble_eq_true rfl), (Nat.le_of_ble_eq_true rfl)⟩) hS (fun _ => ((mv_1)).symm) (fun _ H locs hI hS => ?_)
  have hI : Iw D A (w_Rn g (K 0) (fun j => K (j + 1) 0) s0 ++ (w_Bs g (K 1) s1 ++ (rest))) H := hI
  exact t_Rn_at_47 X (lv_sub hl [] rfl) hI hS h
set_option maxRecDepth 100000 in
set_option maxHeartbeats 4000000 in
theorem t_Rn_at_29 {p : Program} {l : Launch} {e : Env} {s : State} {m : MethodId} {args : Array Value} {below : List Frame} {meth : Method} {c : Code} {D : va_G} {A : Nat → Prop} {g : Nat → ClassId} {rest : va_W} {K : Nat → Nat → Nat} {ls : Array Slot} {H : Heap} {locs : List Loc} {s0 : S_Rn} {s1 : S_Bs} {out : Int32} (X : Cx p s m args meth c prog_1_method_6_code 2 ws_Rn_at R_Rn (some .int) D g) (hl : lv_has ls 2 [(0, .ref (K 0 0))]) (hI : Iw D A (w_Rn g (K 0) (fun j => K (j + 1) 0) s0 ++ (w_Bs g (K 1) s1 ++ (rest))) H) (hS : va_S A s.heap H locs) (h : B_Rn_at_29  s0 s1 = some out) : W p l e (headSpec ws_Rn_at { frames := 1, cells := 0, slots := 0, locals := 21 }).room s m args below meth c H locs 0 0 (MQ below (QcI D A g out (fun (_ : Unit) => w_Rn g (K 0) (fun j => K (j + 1) 0) s0 ++ (w_Bs g (K 1) s1 ++ (rest)))) args s 0 0 A) (F0 m 29 ls []) := by
  have X1 := X
  obtain ⟨hx, hb, hml, hown, hts, hr, hlocks, hKK⟩ := X1
  have ht : ∀ w ∈ TB, w.before args s = true := fun w h => hts w (List.mem_cons_of_mem _ h)
  have hK := hKK.1
  unfold B_Rn_at_29 at h
  refine lv_aload_n hx hb d_Rn_at_29 rfl (lv_at hl 0 rfl) ?_
  refine va_get (D := D) (ci := 8) (v := .ref (K 1 0)) (C := R_Rn) (T := T_Rn) (N := 16) hx hb ht in_Rn hown hK hI.1 0 rfl rfl 0 (by decide) (ht _ m_203) (fun _ h9 => h9) rfl d_Rn_at_30 ?_
  obtain ⟨o1, ho2, h⟩ := bd_s h
  refine cl_i (W1 := fun (_ : Unit) => w_Rn g (K 0) (fun j => K (j + 1) 0) s0 ++ (w_Bs g (K 1) s1 ++ (rest))) (va_runV (As := []) (rest := []) ⟨hx, hb, hml, hown, ht⟩ (c_Bs_count (l := l) (D := D) (A := A) (g := g) (rest := w_Rn g (K 0) (fun j => K (j + 1) 0) s0 ++ (rest)) (a0 := K 1) ho2) (cwV 0 ht (gd_V m_302 m_303 m_304 m_2 m_305) rfl rfl rfl (by decide +kernel) ⟨(Nat.le_of_ble_eq_true rfl), (Nat.le_of_ble_eq_true rfl)⟩) (prV (ci := 0) (q0 := 0) hKK hI (mv_1) rfl rfl rfl) rfl rfl hl.1 rfl (lv_room (Nat.le_of_ble_eq_true rfl)) d_Rn_at_33 ⟨(Nat.le_of_ble_eq_true rfl), (Nat.le_of_ble_eq_true rfl)⟩) hS (fun _ => ((mv_1)).symm) (fun _ H locs hI hS => ?_)
  have hI : Iw D A (w_Rn g (K 0) (fun j => K (j + 1) 0) s0 ++ (w_Bs g (K 1) s1 ++ (rest))) H := hI
  refine lv_goto (tgt := 47) hx hb d_Rn_at_36 (by decide) ?_
  exact t_Rn_at_47 X (lv_sub hl [] rfl) hI hS h
set_option maxRecDepth 100000 in
set_option maxHeartbeats 4000000 in
theorem t_Rn_at_24 {p : Program} {l : Launch} {e : Env} {s : State} {m : MethodId} {args : Array Value} {below : List Frame} {meth : Method} {c : Code} {D : va_G} {A : Nat → Prop} {g : Nat → ClassId} {rest : va_W} {K : Nat → Nat → Nat} {ls : Array Slot} {H : Heap} {locs : List Loc} {s0 : S_Rn} {s1 : S_Bs} {x1 : Int32} {out : Int32} (X : Cx p s m args meth c prog_1_method_6_code 2 ws_Rn_at R_Rn (some .int) D g) (hl : lv_has ls 2 [(0, .ref (K 0 0)), (1, .int x1)]) (hI : Iw D A (w_Rn g (K 0) (fun j => K (j + 1) 0) s0 ++ (w_Bs g (K 1) s1 ++ (rest))) H) (hS : va_S A s.heap H locs) (h : B_Rn_at_24  s0 s1 x1 = some out) : W p l e (headSpec ws_Rn_at { frames := 1, cells := 0, slots := 0, locals := 21 }).room s m args below meth c H locs 0 0 (MQ below (QcI D A g out (fun (_ : Unit) => w_Rn g (K 0) (fun j => K (j + 1) 0) s0 ++ (w_Bs g (K 1) s1 ++ (rest)))) args s 0 0 A) (F0 m 24 ls []) := by
  have X1 := X
  obtain ⟨hx, hb, hml, hown, hts, hr, hlocks, hKK⟩ := X1
  have ht : ∀ w ∈ TB, w.before args s = true := fun w h => hts w (List.mem_cons_of_mem _ h)
  have hK := hKK.1
  unfold B_Rn_at_24 at h
  refine lv_iload_n hx hb d_Rn_at_24 rfl (lv_at hl 1 rfl) ?_
  refine lv_iconst (v := (-1)) hx hb d_Rn_at_25 (by decide) ?_
  refine lv_icmp_ne (tgt := 39) hx hb d_Rn_at_26 (by decide) (fun hc => ?_) (fun hc => ?_)
  · have h := it_f h hc
    exact t_Rn_at_39 X (lv_sub hl [0, 1] rfl) hI hS h
  · have h := it_t h hc
    exact t_Rn_at_29 X (lv_sub hl [0] rfl) hI hS h
set_option maxRecDepth 100000 in
set_option maxHeartbeats 4000000 in
theorem t_Rn_at_5 {p : Program} {l : Launch} {e : Env} {s : State} {m : MethodId} {args : Array Value} {below : List Frame} {meth : Method} {c : Code} {D : va_G} {A : Nat → Prop} {g : Nat → ClassId} {rest : va_W} {K : Nat → Nat → Nat} {ls : Array Slot} {H : Heap} {locs : List Loc} {s0 : S_Rn} {s1 : S_Bs} {x1 : Int32} {out : Int32} (X : Cx p s m args meth c prog_1_method_6_code 2 ws_Rn_at R_Rn (some .int) D g) (hl : lv_has ls 2 [(0, .ref (K 0 0)), (1, .int x1)]) (hI : Iw D A (w_Rn g (K 0) (fun j => K (j + 1) 0) s0 ++ (w_Bs g (K 1) s1 ++ (rest))) H) (hS : va_S A s.heap H locs) (h : B_Rn_at_5  s0 s1 x1 = some out) : W p l e (headSpec ws_Rn_at { frames := 1, cells := 0, slots := 0, locals := 21 }).room s m args below meth c H locs 0 0 (MQ below (QcI D A g out (fun (_ : Unit) => w_Rn g (K 0) (fun j => K (j + 1) 0) s0 ++ (w_Bs g (K 1) s1 ++ (rest)))) args s 0 0 A) (F0 m 5 ls []) := by
  have X1 := X
  obtain ⟨hx, hb, hml, hown, hts, hr, hlocks, hKK⟩ := X1
  have ht : ∀ w ∈ TB, w.before args s = true := fun w h => hts w (List.mem_cons_of_mem _ h)
  have hK := hKK.1
  unfold B_Rn_at_5 at h
  refine lv_iload_n hx hb d_Rn_at_5 rfl (lv_at hl 1 rfl) ?_
  refine lv_aload_n hx hb d_Rn_at_6 rfl (lv_at hl 0 rfl) ?_
  refine va_get (D := D) (ci := 8) (v := .ref (K 1 0)) (C := R_Rn) (T := T_Rn) (N := 16) hx hb ht in_Rn hown hK hI.1 0 rfl rfl 0 (by decide) (ht _ m_203) (fun _ h9 => h9) rfl d_Rn_at_7 ?_
  obtain ⟨o1, ho2, h⟩ := bd_s h
  refine cl_i (W1 := fun (_ : Unit) => w_Rn g (K 0) (fun j => K (j + 1) 0) s0 ++ (w_Bs g (K 1) s1 ++ (rest))) (va_runV (As := []) (rest := [.int x1]) ⟨hx, hb, hml, hown, ht⟩ (c_Bs_count (l := l) (D := D) (A := A) (g := g) (rest := w_Rn g (K 0) (fun j => K (j + 1) 0) s0 ++ (rest)) (a0 := K 1) ho2) (cwV 0 ht (gd_V m_302 m_303 m_304 m_2 m_305) rfl rfl rfl (by decide +kernel) ⟨(Nat.le_of_ble_eq_true rfl), (Nat.le_of_ble_eq_true rfl)⟩) (prV (ci := 0) (q0 := 0) hKK hI (mv_1) rfl rfl rfl) rfl rfl hl.1 rfl (lv_room (Nat.le_of_ble_eq_true rfl)) d_Rn_at_10 ⟨(Nat.le_of_ble_eq_true rfl), (Nat.le_of_ble_eq_true rfl)⟩) hS (fun _ => ((mv_1)).symm) (fun _ H locs hI hS => ?_)
  have hI : Iw D A (w_Rn g (K 0) (fun j => K (j + 1) 0) s0 ++ (w_Bs g (K 1) s1 ++ (rest))) H := hI
  refine lv_icmp_lt (tgt := 24) hx hb d_Rn_at_13 (by decide) (fun hc => ?_) (fun hc => ?_)
  · have h := it_t h hc
    exact t_Rn_at_24 X (lv_sub hl [0, 1] rfl) hI hS h
  · have h := it_f h hc
    exact t_Rn_at_16 X (lv_sub hl [] rfl) hI hS h
set_option maxRecDepth 100000 in
set_option maxHeartbeats 4000000 in
theorem t_Rn_at_0 {p : Program} {l : Launch} {e : Env} {s : State} {m : MethodId} {args : Array Value} {below : List Frame} {meth : Method} {c : Code} {D : va_G} {A : Nat → Prop} {g : Nat → ClassId} {rest : va_W} {K : Nat → Nat → Nat} {ls : Array Slot} {H : Heap} {locs : List Loc} {s0 : S_Rn} {s1 : S_Bs} {x1 : Int32} {out : Int32} (X : Cx p s m args meth c prog_1_method_6_code 2 ws_Rn_at R_Rn (some .int) D g) (hl : lv_has ls 2 [(0, .ref (K 0 0)), (1, .int x1)]) (hI : Iw D A (w_Rn g (K 0) (fun j => K (j + 1) 0) s0 ++ (w_Bs g (K 1) s1 ++ (rest))) H) (hS : va_S A s.heap H locs) (h : B_Rn_at_0  s0 s1 x1 = some out) : W p l e (headSpec ws_Rn_at { frames := 1, cells := 0, slots := 0, locals := 21 }).room s m args below meth c H locs 0 0 (MQ below (QcI D A g out (fun (_ : Unit) => w_Rn g (K 0) (fun j => K (j + 1) 0) s0 ++ (w_Bs g (K 1) s1 ++ (rest)))) args s 0 0 A) (F0 m 0 ls []) := by
  have X1 := X
  obtain ⟨hx, hb, hml, hown, hts, hr, hlocks, hKK⟩ := X1
  have ht : ∀ w ∈ TB, w.before args s = true := fun w h => hts w (List.mem_cons_of_mem _ h)
  have hK := hKK.1
  unfold B_Rn_at_0 at h
  refine lv_iload_n hx hb d_Rn_at_0 rfl (lv_at hl 1 rfl) ?_
  refine lv_iconst (v := (-1)) hx hb d_Rn_at_1 (by decide) ?_
  refine lv_icmp_lt (tgt := 16) hx hb d_Rn_at_2 (by decide) (fun hc => ?_) (fun hc => ?_)
  · have h := it_t h hc
    exact t_Rn_at_16 X (lv_sub hl [] rfl) hI hS h
  · have h := it_f h hc
    exact t_Rn_at_5 X (lv_sub hl [0, 1] rfl) hI hS h
set_option maxRecDepth 100000 in
set_option maxHeartbeats 4000000 in
theorem c_Rn_at {l : Launch} {D : va_G} {A : Nat → Prop} {g : Nat → ClassId} {rest : va_W} {K : Nat → Nat → Nat} {s0 : S_Rn} {s1 : S_Bs} {x1 : Int32} {out : Int32} (h : F_Rn_at s0 s1 x1 = some out) : Met l y_Rn_at ws_Rn_at { frames := 1, cells := 0, slots := 0, locals := 21 } (PcW D A g [.ref (K 0 0), .int x1] (w_Rn g (K 0) (fun j => K (j + 1) 0) s0 ++ (w_Bs g (K 1) s1 ++ (rest)))) (QcI D A g out (fun (_ : Unit) => w_Rn g (K 0) (fun j => K (j + 1) 0) s0 ++ (w_Bs g (K 1) s1 ++ (rest)))) 0 0 A := by
  refine Met.ofW (cc := prog_1_method_6_code) (maxL := 2) (ret := (some .int)) (by decide) rfl ?_
  intro p e s m args below meth c s₁ B hml hv
  obtain ⟨rfl, hI, hK⟩ := hv
  have hl := lv_entry [.ref (K 0 0), .int x1] (n := 2) (Nat.le_of_ble_eq_true rfl)
  rw [lg_entry_eq]
  generalize (lg_sl [.ref (K 0 0), .int x1] ++ List.replicate (2 - (lg_sl [.ref (K 0 0), .int x1]).length) Slot.unset).toArray = ls at hl ⊢
  have hl : lv_has ls 2 [(0, .ref (K 0 0)), (1, .int x1)] := hl
  exact t_Rn_at_0 ⟨B.exec, B.bytes, hml, findClass_of_methodNamed B.named, atoms_spec (ws := ws_Rn_at) B.pre, B.returns, B.notSynchronized, hK⟩ (lv_sub hl [0, 1] rfl) hI va_S.rf h
def ws_Rn_take : List Cond := .code y_Rn_take prog_1_method_12_code 1 (some .int) :: TB
def B_Rn_take_18 (s0 : S_Rn) (s1 : S_Ou) : Option (Int32 × S_Ou) :=
  ((F_Ou_pull s1).bind fun o1 => some (o1.1, o1.2))
def B_Rn_take_10 (s0 : S_Rn) (s1 : S_Ou) : Option (Int32 × S_Ou) :=
  none
def B_Rn_take_0 (s0 : S_Rn) (s1 : S_Ou) : Option (Int32 × S_Ou) :=
  ((F_Ou_count s1).bind fun o1 => (if o1 = 0 then (B_Rn_take_10 s0 s1) else (B_Rn_take_18 s0 s1)))
def F_Rn_take (s0 : S_Rn) (s1 : S_Ou) : Option (Int32 × S_Ou) := B_Rn_take_0 s0 s1
set_option maxRecDepth 100000 in
set_option maxHeartbeats 4000000 in
theorem t_Rn_take_18 {p : Program} {l : Launch} {e : Env} {s : State} {m : MethodId} {args : Array Value} {below : List Frame} {meth : Method} {c : Code} {D : va_G} {A : Nat → Prop} {g : Nat → ClassId} {rest : va_W} {K : Nat → Nat → Nat} {ls : Array Slot} {H : Heap} {locs : List Loc} {s0 : S_Rn} {s1 : S_Ou} {out : Int32 × S_Ou} (X : Cx p s m args meth c prog_1_method_12_code 1 ws_Rn_take R_Rn (some .int) D g) (hl : lv_has ls 1 [(0, .ref (K 0 0))]) (hI : Iw D A (w_Rn g (K 0) (fun j => K (j + 1) 0) s0 ++ (w_Ou g (K 7) s1 ++ (rest))) H) (hS : va_S A s.heap H locs) (h : B_Rn_take_18  s0 s1 = some out) : W p l e (headSpec ws_Rn_take { frames := 1, cells := 0, slots := 0, locals := 21 }).room s m args below meth c H locs 0 0 (MQ below (QcI D A g out.1 (fun (_ : Unit) => w_Rn g (K 0) (fun j => K (j + 1) 0) s0 ++ (w_Ou g (K 7) out.2 ++ (rest)))) args s 0 0 A) (F0 m 18 ls []) := by
  have X1 := X
  obtain ⟨hx, hb, hml, hown, hts, hr, hlocks, hKK⟩ := X1
  have ht : ∀ w ∈ TB, w.before args s = true := fun w h => hts w (List.mem_cons_of_mem _ h)
  have hK := hKK.1
  unfold B_Rn_take_18 at h
  refine lv_aload_n hx hb d_Rn_take_18 rfl (lv_at hl 0 rfl) ?_
  refine va_get (D := D) (ci := 8) (v := .ref (K 7 0)) (C := R_Rn) (T := T_Rn) (N := 16) hx hb ht in_Rn hown hK hI.1 0 rfl rfl 6 (by decide) (ht _ m_209) (fun _ h9 => h9) rfl d_Rn_take_19 ?_
  obtain ⟨o1, ho2, h⟩ := bd_s h
  refine cl_i (W1 := fun (_ : Unit) => w_Rn g (K 0) (fun j => K (j + 1) 0) s0 ++ (w_Ou g (K 7) o1.2 ++ (rest))) (va_runV (As := []) (rest := []) ⟨hx, hb, hml, hown, ht⟩ (c_Ou_pull (l := l) (D := D) (A := A) (g := g) (rest := w_Rn g (K 0) (fun j => K (j + 1) 0) s0 ++ (rest)) (a0 := K 7) ho2) (cwV 0 ht (gd_V m_799 m_800 m_801 m_3 m_802) rfl rfl rfl (by decide +kernel) ⟨(Nat.le_of_ble_eq_true rfl), (Nat.le_of_ble_eq_true rfl)⟩) (prV (ci := 4) (q0 := 0) hKK hI (mv_1) rfl rfl rfl) rfl rfl hl.1 rfl (lv_room (Nat.le_of_ble_eq_true rfl)) d_Rn_take_22 ⟨(Nat.le_of_ble_eq_true rfl), (Nat.le_of_ble_eq_true rfl)⟩) hS (fun _ => ((mv_1)).symm) (fun _ H locs hI hS => ?_)
  have hI : Iw D A (w_Rn g (K 0) (fun j => K (j + 1) 0) s0 ++ (w_Ou g (K 7) o1.2 ++ (rest))) H := hI
  have h9 := Option.some.inj h
  subst h9
  exact W.iret (v := o1.1) hx hb hr (fun t ht hW => ⟨⟨_, (), rfl, rfl, ⟨by rw [ht]; exact hI, hKK.moved hW⟩⟩, hS.F ht⟩) hS.2.2 d_Rn_take_25
set_option maxRecDepth 100000 in
set_option maxHeartbeats 4000000 in
theorem t_Rn_take_10 {p : Program} {l : Launch} {e : Env} {s : State} {m : MethodId} {args : Array Value} {below : List Frame} {meth : Method} {c : Code} {D : va_G} {A : Nat → Prop} {g : Nat → ClassId} {rest : va_W} {K : Nat → Nat → Nat} {ls : Array Slot} {H : Heap} {locs : List Loc} {s0 : S_Rn} {s1 : S_Ou} {out : Int32 × S_Ou} (X : Cx p s m args meth c prog_1_method_12_code 1 ws_Rn_take R_Rn (some .int) D g) (hl : lv_has ls 1 []) (hI : Iw D A (w_Rn g (K 0) (fun j => K (j + 1) 0) s0 ++ (w_Ou g (K 7) s1 ++ (rest))) H) (hS : va_S A s.heap H locs) (h : B_Rn_take_10  s0 s1 = some out) : W p l e (headSpec ws_Rn_take { frames := 1, cells := 0, slots := 0, locals := 21 }).room s m args below meth c H locs 0 0 (MQ below (QcI D A g out.1 (fun (_ : Unit) => w_Rn g (K 0) (fun j => K (j + 1) 0) s0 ++ (w_Ou g (K 7) out.2 ++ (rest)))) args s 0 0 A) (F0 m 10 ls []) := by
  have X1 := X
  obtain ⟨hx, hb, hml, hown, hts, hr, hlocks, hKK⟩ := X1
  have ht : ∀ w ∈ TB, w.before args s = true := fun w h => hts w (List.mem_cons_of_mem _ h)
  have hK := hKK.1
  unfold B_Rn_take_10 at h
  exact no_s h
set_option maxRecDepth 100000 in
set_option maxHeartbeats 4000000 in
theorem t_Rn_take_0 {p : Program} {l : Launch} {e : Env} {s : State} {m : MethodId} {args : Array Value} {below : List Frame} {meth : Method} {c : Code} {D : va_G} {A : Nat → Prop} {g : Nat → ClassId} {rest : va_W} {K : Nat → Nat → Nat} {ls : Array Slot} {H : Heap} {locs : List Loc} {s0 : S_Rn} {s1 : S_Ou} {out : Int32 × S_Ou} (X : Cx p s m args meth c prog_1_method_12_code 1 ws_Rn_take R_Rn (some .int) D g) (hl : lv_has ls 1 [(0, .ref (K 0 0))]) (hI : Iw D A (w_Rn g (K 0) (fun j => K (j + 1) 0) s0 ++ (w_Ou g (K 7) s1 ++ (rest))) H) (hS : va_S A s.heap H locs) (h : B_Rn_take_0  s0 s1 = some out) : W p l e (headSpec ws_Rn_take { frames := 1, cells := 0, slots := 0, locals := 21 }).room s m args below meth c H locs 0 0 (MQ below (QcI D A g out.1 (fun (_ : Unit) => w_Rn g (K 0) (fun j => K (j + 1) 0) s0 ++ (w_Ou g (K 7) out.2 ++ (rest)))) args s 0 0 A) (F0 m 0 ls []) := by
  have X1 := X
  obtain ⟨hx, hb, hml, hown, hts, hr, hlocks, hKK⟩ := X1
  have ht : ∀ w ∈ TB, w.before args s = true := fun w h => hts w (List.mem_cons_of_mem _ h)
  have hK := hKK.1
  unfold B_Rn_take_0 at h
  refine lv_aload_n hx hb d_Rn_take_0 rfl (lv_at hl 0 rfl) ?_
  refine va_get (D := D) (ci := 8) (v := .ref (K 7 0)) (C := R_Rn) (T := T_Rn) (N := 16) hx hb ht in_Rn hown hK hI.1 0 rfl rfl 6 (by decide) (ht _ m_209) (fun _ h9 => h9) rfl d_Rn_take_1 ?_
  obtain ⟨o1, ho2, h⟩ := bd_s h
  refine cl_i (W1 := fun (_ : Unit) => w_Rn g (K 0) (fun j => K (j + 1) 0) s0 ++ (w_Ou g (K 7) s1 ++ (rest))) (va_runV (As := []) (rest := []) ⟨hx, hb, hml, hown, ht⟩ (c_Ou_count (l := l) (D := D) (A := A) (g := g) (rest := w_Rn g (K 0) (fun j => K (j + 1) 0) s0 ++ (rest)) (a0 := K 7) ho2) (cwV 0 ht (gd_V m_652 m_653 m_654 m_3 m_655) rfl rfl rfl (by decide +kernel) ⟨(Nat.le_of_ble_eq_true rfl), (Nat.le_of_ble_eq_true rfl)⟩) (prV (ci := 4) (q0 := 0) hKK hI (mv_1) rfl rfl rfl) rfl rfl hl.1 rfl (lv_room (Nat.le_of_ble_eq_true rfl)) d_Rn_take_4 ⟨(Nat.le_of_ble_eq_true rfl), (Nat.le_of_ble_eq_true rfl)⟩) hS (fun _ => ((mv_1)).symm) (fun _ H locs hI hS => ?_)
  have hI : Iw D A (w_Rn g (K 0) (fun j => K (j + 1) 0) s0 ++ (w_Ou g (K 7) s1 ++ (rest))) H := hI
  refine lv_if_ne (tgt := 18) hx hb d_Rn_take_7 (by decide) (fun hc => ?_) (fun hc => ?_)
  · have h := it_f h hc
    exact t_Rn_take_18 X (lv_sub hl [0] rfl) hI hS h
  · have h := it_t h hc
    exact t_Rn_take_10 X (lv_sub hl [] rfl) hI hS h
set_option maxRecDepth 100000 in
set_option maxHeartbeats 4000000 in
theorem c_Rn_take {l : Launch} {D : va_G} {A : Nat → Prop} {g : Nat → ClassId} {rest : va_W} {K : Nat → Nat → Nat} {s0 : S_Rn} {s1 : S_Ou} {out : Int32 × S_Ou} (h : F_Rn_take s0 s1 = some out) : Met l y_Rn_take ws_Rn_take { frames := 1, cells := 0, slots := 0, locals := 21 } (PcW D A g [.ref (K 0 0)] (w_Rn g (K 0) (fun j => K (j + 1) 0) s0 ++ (w_Ou g (K 7) s1 ++ (rest)))) (QcI D A g out.1 (fun (_ : Unit) => w_Rn g (K 0) (fun j => K (j + 1) 0) s0 ++ (w_Ou g (K 7) out.2 ++ (rest)))) 0 0 A := by
  refine Met.ofW (cc := prog_1_method_12_code) (maxL := 1) (ret := (some .int)) (by decide) rfl ?_
  intro p e s m args below meth c s₁ B hml hv
  obtain ⟨rfl, hI, hK⟩ := hv
  have hl := lv_entry [.ref (K 0 0)] (n := 1) (Nat.le_of_ble_eq_true rfl)
  rw [lg_entry_eq]
  generalize (lg_sl [.ref (K 0 0)] ++ List.replicate (1 - (lg_sl [.ref (K 0 0)]).length) Slot.unset).toArray = ls at hl ⊢
  have hl : lv_has ls 1 [(0, .ref (K 0 0))] := hl
  exact t_Rn_take_0 ⟨B.exec, B.bytes, hml, findClass_of_methodNamed B.named, atoms_spec (ws := ws_Rn_take) B.pre, B.returns, B.notSynchronized, hK⟩ (lv_sub hl [0] rfl) hI va_S.rf h
