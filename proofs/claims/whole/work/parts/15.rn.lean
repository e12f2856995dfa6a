theorem d_Rn_type_0 : decode prog_1_method_2_code 0 = .ok (.iload_n 3, 1) := by decide +kernel
theorem d_Rn_type_1 : decode prog_1_method_2_code 1 = .ok (.invokestatic 88, 3) := by decide +kernel
theorem d_Rn_type_4 : decode prog_1_method_2_code 4 = .ok (.ifCond .eq 14, 3) := by decide +kernel
theorem d_Rn_type_7 : decode prog_1_method_2_code 7 = .ok (.aload_n 0, 1) := by decide +kernel
theorem d_Rn_type_8 : decode prog_1_method_2_code 8 = .ok (.getfield 14, 3) := by decide +kernel
theorem d_Rn_type_11 : decode prog_1_method_2_code 11 = .ok (.iload_n 3, 1) := by decide +kernel
theorem d_Rn_type_12 : decode prog_1_method_2_code 12 = .ok (.invokevirtual 92, 3) := by decide +kernel
theorem d_Rn_type_15 : decode prog_1_method_2_code 15 = .ok (.ifCond .ne 5, 3) := by decide +kernel
theorem d_Rn_type_18 : decode prog_1_method_2_code 18 = .ok (.iconst 0, 1) := by decide +kernel
theorem d_Rn_type_19 : decode prog_1_method_2_code 19 = .ok (.ireturn, 1) := by decide +kernel
theorem d_Rn_type_20 : decode prog_1_method_2_code 20 = .ok (.iload_n 3, 1) := by decide +kernel
theorem d_Rn_type_21 : decode prog_1_method_2_code 21 = .ok (.iconst 1, 1) := by decide +kernel
theorem d_Rn_type_22 : decode prog_1_method_2_code 22 = .ok (.isub, 1) := by decide +kernel
theorem d_Rn_type_23 : decode prog_1_method_2_code 23 = .ok (.istore 4, 2) := by decide +kernel
theorem d_Rn_type_25 : decode prog_1_method_2_code 25 = .ok (.iload 4, 2) := by decide +kernel
theorem d_Rn_type_27 : decode prog_1_method_2_code 27 = .ok (.ifCond .lt 22, 3) := by decide +kernel
theorem d_Rn_type_30 : decode prog_1_method_2_code 30 = .ok (.aload_n 0, 1) := by decide +kernel
theorem d_Rn_type_31 : decode prog_1_method_2_code 31 = .ok (.getfield 14, 3) := by decide +kernel
theorem d_Rn_type_34 : decode prog_1_method_2_code 34 = .ok (.lload_n 1, 1) := by decide +kernel
theorem d_Rn_type_35 : decode prog_1_method_2_code 35 = .ok (.iload 4, 2) := by decide +kernel
theorem d_Rn_type_37 : decode prog_1_method_2_code 37 = .ok (.invokestatic 95, 3) := by decide +kernel
theorem d_Rn_type_40 : decode prog_1_method_2_code 40 = .ok (.invokevirtual 99, 3) := by decide +kernel
theorem d_Rn_type_43 : decode prog_1_method_2_code 43 = .ok (.iinc 4 (-1), 3) := by decide +kernel
theorem d_Rn_type_46 : decode prog_1_method_2_code 46 = .ok (.goto (-21), 3) := by decide +kernel
theorem d_Rn_type_49 : decode prog_1_method_2_code 49 = .ok (.iconst 1, 1) := by decide +kernel
theorem d_Rn_type_50 : decode prog_1_method_2_code 50 = .ok (.ireturn, 1) := by decide +kernel
theorem d_Rn_clear_0 : decode prog_1_method_3_code 0 = .ok (.aload_n 0, 1) := by decide +kernel
theorem d_Rn_clear_1 : decode prog_1_method_3_code 1 = .ok (.getfield 14, 3) := by decide +kernel
theorem d_Rn_clear_4 : decode prog_1_method_3_code 4 = .ok (.invokevirtual 102, 3) := by decide +kernel
theorem d_Rn_clear_7 : decode prog_1_method_3_code 7 = .ok (.return_, 1) := by decide +kernel
theorem d_Rn_begin_0 : decode prog_1_method_20_code 0 = .ok (.aload_n 0, 1) := by decide +kernel
theorem d_Rn_begin_1 : decode prog_1_method_20_code 1 = .ok (.iload_n 1, 1) := by decide +kernel
theorem d_Rn_begin_2 : decode prog_1_method_20_code 2 = .ok (.putfield 78, 3) := by decide +kernel
theorem d_Rn_begin_5 : decode prog_1_method_20_code 5 = .ok (.aload_n 0, 1) := by decide +kernel
theorem d_Rn_begin_6 : decode prog_1_method_20_code 6 = .ok (.iload_n 1, 1) := by decide +kernel
theorem d_Rn_begin_7 : decode prog_1_method_20_code 7 = .ok (.iconst 1, 1) := by decide +kernel
theorem d_Rn_begin_8 : decode prog_1_method_20_code 8 = .ok (.if_icmp .eq 8, 3) := by decide +kernel
theorem d_Rn_begin_11 : decode prog_1_method_20_code 11 = .ok (.iload_n 1, 1) := by decide +kernel
theorem d_Rn_begin_12 : decode prog_1_method_20_code 12 = .ok (.iconst 3, 1) := by decide +kernel
theorem d_Rn_begin_13 : decode prog_1_method_20_code 13 = .ok (.if_icmp .ne 7, 3) := by decide +kernel
theorem d_Rn_begin_16 : decode prog_1_method_20_code 16 = .ok (.iconst 5, 1) := by decide +kernel
theorem d_Rn_begin_17 : decode prog_1_method_20_code 17 = .ok (.goto 4, 3) := by decide +kernel
theorem d_Rn_begin_20 : decode prog_1_method_20_code 20 = .ok (.iconst 0, 1) := by decide +kernel
theorem d_Rn_begin_21 : decode prog_1_method_20_code 21 = .ok (.putfield 82, 3) := by decide +kernel
theorem d_Rn_begin_24 : decode prog_1_method_20_code 24 = .ok (.return_, 1) := by decide +kernel
theorem d_Rn_open_0 : decode prog_1_method_7_code 0 = .ok (.aload_n 0, 1) := by decide +kernel
theorem d_Rn_open_1 : decode prog_1_method_7_code 1 = .ok (.getfield 78, 3) := by decide +kernel
theorem d_Rn_open_4 : decode prog_1_method_7_code 4 = .ok (.ifCond .eq 5, 3) := by decide +kernel
theorem d_Rn_open_7 : decode prog_1_method_7_code 7 = .ok (.iconst 0, 1) := by decide +kernel
theorem d_Rn_open_8 : decode prog_1_method_7_code 8 = .ok (.ireturn, 1) := by decide +kernel
theorem d_Rn_open_9 : decode prog_1_method_7_code 9 = .ok (.aload_n 0, 1) := by decide +kernel
theorem d_Rn_open_10 : decode prog_1_method_7_code 10 = .ok (.iconst 1, 1) := by decide +kernel
theorem d_Rn_open_11 : decode prog_1_method_7_code 11 = .ok (.invokevirtual 143, 3) := by decide +kernel
theorem d_Rn_open_14 : decode prog_1_method_7_code 14 = .ok (.iconst 1, 1) := by decide +kernel
theorem d_Rn_open_15 : decode prog_1_method_7_code 15 = .ok (.ireturn, 1) := by decide +kernel
theorem d_Rn_shut_0 : decode prog_1_method_21_code 0 = .ok (.aload_n 0, 1) := by decide +kernel
theorem d_Rn_shut_1 : decode prog_1_method_21_code 1 = .ok (.iconst 0, 1) := by decide +kernel
theorem d_Rn_shut_2 : decode prog_1_method_21_code 2 = .ok (.invokevirtual 143, 3) := by decide +kernel
theorem d_Rn_shut_5 : decode prog_1_method_21_code 5 = .ok (.aload_n 0, 1) := by decide +kernel
theorem d_Rn_shut_6 : decode prog_1_method_21_code 6 = .ok (.getfield 24, 3) := by decide +kernel
theorem d_Rn_shut_9 : decode prog_1_method_21_code 9 = .ok (.invokevirtual 102, 3) := by decide +kernel
theorem d_Rn_shut_12 : decode prog_1_method_21_code 12 = .ok (.aload_n 0, 1) := by decide +kernel
theorem d_Rn_shut_13 : decode prog_1_method_21_code 13 = .ok (.getfield 27, 3) := by decide +kernel
theorem d_Rn_shut_16 : decode prog_1_method_21_code 16 = .ok (.invokevirtual 102, 3) := by decide +kernel
theorem d_Rn_shut_19 : decode prog_1_method_21_code 19 = .ok (.aload_n 0, 1) := by decide +kernel
theorem d_Rn_shut_20 : decode prog_1_method_21_code 20 = .ok (.getfield 50, 3) := by decide +kernel
theorem d_Rn_shut_23 : decode prog_1_method_21_code 23 = .ok (.invokevirtual 171, 3) := by decide +kernel
theorem d_Rn_shut_26 : decode prog_1_method_21_code 26 = .ok (.return_, 1) := by decide +kernel
theorem d_Rn_close_0 : decode prog_1_method_8_code 0 = .ok (.aload_n 0, 1) := by decide +kernel
theorem d_Rn_close_1 : decode prog_1_method_8_code 1 = .ok (.getfield 78, 3) := by decide +kernel
theorem d_Rn_close_4 : decode prog_1_method_8_code 4 = .ok (.ifCond .ne 5, 3) := by decide +kernel
theorem d_Rn_close_7 : decode prog_1_method_8_code 7 = .ok (.iconst 0, 1) := by decide +kernel
theorem d_Rn_close_8 : decode prog_1_method_8_code 8 = .ok (.ireturn, 1) := by decide +kernel
theorem d_Rn_close_9 : decode prog_1_method_8_code 9 = .ok (.aload_n 0, 1) := by decide +kernel
theorem d_Rn_close_10 : decode prog_1_method_8_code 10 = .ok (.invokevirtual 146, 3) := by decide +kernel
theorem d_Rn_close_13 : decode prog_1_method_8_code 13 = .ok (.iconst 1, 1) := by decide +kernel
theorem d_Rn_close_14 : decode prog_1_method_8_code 14 = .ok (.ireturn, 1) := by decide +kernel
theorem d_Rn_put_0 : decode prog_1_method_23_code 0 = .ok (.aload_n 0, 1) := by decide +kernel
theorem d_Rn_put_1 : decode prog_1_method_23_code 1 = .ok (.getfield 36, 3) := by decide +kernel
theorem d_Rn_put_4 : decode prog_1_method_23_code 4 = .ok (.iconst 2, 1) := by decide +kernel
theorem d_Rn_put_5 : decode prog_1_method_23_code 5 = .ok (.aload_n 0, 1) := by decide +kernel
theorem d_Rn_put_6 : decode prog_1_method_23_code 6 = .ok (.getfield 30, 3) := by decide +kernel
theorem d_Rn_put_9 : decode prog_1_method_23_code 9 = .ok (.invokevirtual 125, 3) := by decide +kernel
theorem d_Rn_put_12 : decode prog_1_method_23_code 12 = .ok (.iadd, 1) := by decide +kernel
theorem d_Rn_put_13 : decode prog_1_method_23_code 13 = .ok (.invokevirtual 175, 3) := by decide +kernel
theorem d_Rn_put_16 : decode prog_1_method_23_code 16 = .ok (.ifCond .ne 9, 3) := by decide +kernel
theorem d_Rn_put_19 : decode prog_1_method_23_code 19 = .ok (.aload_n 0, 1) := by decide +kernel
theorem d_Rn_put_20 : decode prog_1_method_23_code 20 = .ok (.invokevirtual 146, 3) := by decide +kernel
theorem d_Rn_put_23 : decode prog_1_method_23_code 23 = .ok (.iconst 0, 1) := by decide +kernel
theorem d_Rn_put_24 : decode prog_1_method_23_code 24 = .ok (.ireturn, 1) := by decide +kernel
theorem d_Rn_put_25 : decode prog_1_method_23_code 25 = .ok (.aload_n 0, 1) := by decide +kernel
theorem d_Rn_put_26 : decode prog_1_method_23_code 26 = .ok (.getfield 36, 3) := by decide +kernel
theorem d_Rn_put_29 : decode prog_1_method_23_code 29 = .ok (.iload_n 1, 1) := by decide +kernel
theorem d_Rn_put_30 : decode prog_1_method_23_code 30 = .ok (.invokevirtual 176, 3) := by decide +kernel
theorem d_Rn_put_33 : decode prog_1_method_23_code 33 = .ok (.aload_n 0, 1) := by decide +kernel
theorem d_Rn_put_34 : decode prog_1_method_23_code 34 = .ok (.getfield 36, 3) := by decide +kernel
theorem d_Rn_put_37 : decode prog_1_method_23_code 37 = .ok (.aload_n 0, 1) := by decide +kernel
theorem d_Rn_put_38 : decode prog_1_method_23_code 38 = .ok (.getfield 30, 3) := by decide +kernel
theorem d_Rn_put_41 : decode prog_1_method_23_code 41 = .ok (.invokevirtual 125, 3) := by decide +kernel
theorem d_Rn_put_44 : decode prog_1_method_23_code 44 = .ok (.invokevirtual 176, 3) := by decide +kernel
theorem d_Rn_put_47 : decode prog_1_method_23_code 47 = .ok (.iconst 0, 1) := by decide +kernel
theorem d_Rn_put_48 : decode prog_1_method_23_code 48 = .ok (.istore_n 2, 1) := by decide +kernel
theorem d_Rn_put_49 : decode prog_1_method_23_code 49 = .ok (.iload_n 2, 1) := by decide +kernel
theorem d_Rn_put_50 : decode prog_1_method_23_code 50 = .ok (.aload_n 0, 1) := by decide +kernel
theorem d_Rn_put_51 : decode prog_1_method_23_code 51 = .ok (.getfield 30, 3) := by decide +kernel
theorem d_Rn_put_54 : decode prog_1_method_23_code 54 = .ok (.invokevirtual 125, 3) := by decide +kernel
theorem d_Rn_put_57 : decode prog_1_method_23_code 57 = .ok (.if_icmp .ge 24, 3) := by decide +kernel
theorem d_Rn_put_60 : decode prog_1_method_23_code 60 = .ok (.aload_n 0, 1) := by decide +kernel
theorem d_Rn_put_61 : decode prog_1_method_23_code 61 = .ok (.getfield 36, 3) := by decide +kernel
theorem d_Rn_put_64 : decode prog_1_method_23_code 64 = .ok (.aload_n 0, 1) := by decide +kernel
theorem d_Rn_put_65 : decode prog_1_method_23_code 65 = .ok (.getfield 30, 3) := by decide +kernel
theorem d_Rn_put_68 : decode prog_1_method_23_code 68 = .ok (.iload_n 2, 1) := by decide +kernel
theorem d_Rn_put_69 : decode prog_1_method_23_code 69 = .ok (.invokevirtual 139, 3) := by decide +kernel
theorem d_Rn_put_72 : decode prog_1_method_23_code 72 = .ok (.invokevirtual 176, 3) := by decide +kernel
theorem d_Rn_put_75 : decode prog_1_method_23_code 75 = .ok (.iinc 2 1, 3) := by decide +kernel
theorem d_Rn_put_78 : decode prog_1_method_23_code 78 = .ok (.goto (-29), 3) := by decide +kernel
theorem d_Rn_put_81 : decode prog_1_method_23_code 81 = .ok (.iconst 1, 1) := by decide +kernel
theorem d_Rn_put_82 : decode prog_1_method_23_code 82 = .ok (.ireturn, 1) := by decide +kernel
theorem d_Rn_breakOff_0 : decode prog_1_method_22_code 0 = .ok (.aload_n 0, 1) := by decide +kernel
theorem d_Rn_breakOff_1 : decode prog_1_method_22_code 1 = .ok (.getfield 30, 3) := by decide +kernel
theorem d_Rn_breakOff_4 : decode prog_1_method_22_code 4 = .ok (.invokevirtual 102, 3) := by decide +kernel
theorem d_Rn_breakOff_7 : decode prog_1_method_22_code 7 = .ok (.aload_n 0, 1) := by decide +kernel
theorem d_Rn_breakOff_8 : decode prog_1_method_22_code 8 = .ok (.bipush 7, 2) := by decide +kernel
theorem d_Rn_breakOff_10 : decode prog_1_method_22_code 10 = .ok (.invokevirtual 172, 3) := by decide +kernel
theorem d_Rn_breakOff_13 : decode prog_1_method_22_code 13 = .ok (.ifCond .eq 8, 3) := by decide +kernel
theorem d_Rn_breakOff_16 : decode prog_1_method_22_code 16 = .ok (.aload_n 0, 1) := by decide +kernel
theorem d_Rn_breakOff_17 : decode prog_1_method_22_code 17 = .ok (.iconst 3, 1) := by decide +kernel
theorem d_Rn_breakOff_18 : decode prog_1_method_22_code 18 = .ok (.invokevirtual 143, 3) := by decide +kernel
theorem d_Rn_breakOff_21 : decode prog_1_method_22_code 21 = .ok (.return_, 1) := by decide +kernel
theorem d_Rn_refuseLength_0 : decode prog_1_method_25_code 0 = .ok (.aload_n 0, 1) := by decide +kernel
theorem d_Rn_refuseLength_1 : decode prog_1_method_25_code 1 = .ok (.getfield 78, 3) := by decide +kernel
theorem d_Rn_refuseLength_4 : decode prog_1_method_25_code 4 = .ok (.iconst 3, 1) := by decide +kernel
theorem d_Rn_refuseLength_5 : decode prog_1_method_25_code 5 = .ok (.if_icmp .ne 10, 3) := by decide +kernel
theorem d_Rn_refuseLength_8 : decode prog_1_method_25_code 8 = .ok (.aload_n 0, 1) := by decide +kernel
theorem d_Rn_refuseLength_9 : decode prog_1_method_25_code 9 = .ok (.invokevirtual 146, 3) := by decide +kernel
theorem d_Rn_refuseLength_12 : decode prog_1_method_25_code 12 = .ok (.goto 7, 3) := by decide +kernel
theorem d_Rn_refuseLength_15 : decode prog_1_method_25_code 15 = .ok (.aload_n 0, 1) := by decide +kernel
theorem d_Rn_refuseLength_16 : decode prog_1_method_25_code 16 = .ok (.invokevirtual 197, 3) := by decide +kernel
theorem d_Rn_refuseLength_19 : decode prog_1_method_25_code 19 = .ok (.return_, 1) := by decide +kernel
theorem d_Rn_accept_0 : decode prog_1_method_29_code 0 = .ok (.aload_n 0, 1) := by decide +kernel
theorem d_Rn_accept_1 : decode prog_1_method_29_code 1 = .ok (.getfield 30, 3) := by decide +kernel
theorem d_Rn_accept_4 : decode prog_1_method_29_code 4 = .ok (.invokevirtual 102, 3) := by decide +kernel
theorem d_Rn_accept_7 : decode prog_1_method_29_code 7 = .ok (.iconst 0, 1) := by decide +kernel
theorem d_Rn_accept_8 : decode prog_1_method_29_code 8 = .ok (.istore_n 1, 1) := by decide +kernel
theorem d_Rn_accept_9 : decode prog_1_method_29_code 9 = .ok (.iload_n 1, 1) := by decide +kernel
theorem d_Rn_accept_10 : decode prog_1_method_29_code 10 = .ok (.aload_n 0, 1) := by decide +kernel
theorem d_Rn_accept_11 : decode prog_1_method_29_code 11 = .ok (.getfield 43, 3) := by decide +kernel
theorem d_Rn_accept_14 : decode prog_1_method_29_code 14 = .ok (.invokevirtual 219, 3) := by decide +kernel
theorem d_Rn_accept_17 : decode prog_1_method_29_code 17 = .ok (.if_icmp .ge 39, 3) := by decide +kernel
theorem d_Rn_accept_20 : decode prog_1_method_29_code 20 = .ok (.aload_n 0, 1) := by decide +kernel
theorem d_Rn_accept_21 : decode prog_1_method_29_code 21 = .ok (.getfield 30, 3) := by decide +kernel
theorem d_Rn_accept_24 : decode prog_1_method_29_code 24 = .ok (.aload_n 0, 1) := by decide +kernel
theorem d_Rn_accept_25 : decode prog_1_method_29_code 25 = .ok (.getfield 43, 3) := by decide +kernel
theorem d_Rn_accept_28 : decode prog_1_method_29_code 28 = .ok (.iload_n 1, 1) := by decide +kernel
theorem d_Rn_accept_29 : decode prog_1_method_29_code 29 = .ok (.invokevirtual 220, 3) := by decide +kernel
theorem d_Rn_accept_32 : decode prog_1_method_29_code 32 = .ok (.invokevirtual 99, 3) := by decide +kernel
theorem d_Rn_accept_35 : decode prog_1_method_29_code 35 = .ok (.aload_n 0, 1) := by decide +kernel
theorem d_Rn_accept_36 : decode prog_1_method_29_code 36 = .ok (.getfield 30, 3) := by decide +kernel
theorem d_Rn_accept_39 : decode prog_1_method_29_code 39 = .ok (.aload_n 0, 1) := by decide +kernel
theorem d_Rn_accept_40 : decode prog_1_method_29_code 40 = .ok (.getfield 43, 3) := by decide +kernel
theorem d_Rn_accept_43 : decode prog_1_method_29_code 43 = .ok (.iload_n 1, 1) := by decide +kernel
theorem d_Rn_accept_44 : decode prog_1_method_29_code 44 = .ok (.invokevirtual 164, 3) := by decide +kernel
theorem d_Rn_accept_47 : decode prog_1_method_29_code 47 = .ok (.invokevirtual 99, 3) := by decide +kernel
theorem d_Rn_accept_50 : decode prog_1_method_29_code 50 = .ok (.iinc 1 1, 3) := by decide +kernel
theorem d_Rn_accept_53 : decode prog_1_method_29_code 53 = .ok (.goto (-44), 3) := by decide +kernel
theorem d_Rn_accept_56 : decode prog_1_method_29_code 56 = .ok (.aload_n 0, 1) := by decide +kernel
theorem d_Rn_accept_57 : decode prog_1_method_29_code 57 = .ok (.iconst 2, 1) := by decide +kernel
theorem d_Rn_accept_58 : decode prog_1_method_29_code 58 = .ok (.invokevirtual 172, 3) := by decide +kernel
theorem d_Rn_accept_61 : decode prog_1_method_29_code 61 = .ok (.ifCond .eq 8, 3) := by decide +kernel
theorem d_Rn_accept_64 : decode prog_1_method_29_code 64 = .ok (.aload_n 0, 1) := by decide +kernel
theorem d_Rn_accept_65 : decode prog_1_method_29_code 65 = .ok (.iconst 2, 1) := by decide +kernel
theorem d_Rn_accept_66 : decode prog_1_method_29_code 66 = .ok (.invokevirtual 143, 3) := by decide +kernel
theorem d_Rn_accept_69 : decode prog_1_method_29_code 69 = .ok (.return_, 1) := by decide +kernel
theorem d_Rn_refuse_0 : decode prog_1_method_28_code 0 = .ok (.aload_n 0, 1) := by decide +kernel
theorem d_Rn_refuse_1 : decode prog_1_method_28_code 1 = .ok (.getfield 30, 3) := by decide +kernel
theorem d_Rn_refuse_4 : decode prog_1_method_28_code 4 = .ok (.invokevirtual 102, 3) := by decide +kernel
theorem d_Rn_refuse_7 : decode prog_1_method_28_code 7 = .ok (.aload_n 0, 1) := by decide +kernel
theorem d_Rn_refuse_8 : decode prog_1_method_28_code 8 = .ok (.getfield 30, 3) := by decide +kernel
theorem d_Rn_refuse_11 : decode prog_1_method_28_code 11 = .ok (.iload_n 1, 1) := by decide +kernel
theorem d_Rn_refuse_12 : decode prog_1_method_28_code 12 = .ok (.invokevirtual 99, 3) := by decide +kernel
theorem d_Rn_refuse_15 : decode prog_1_method_28_code 15 = .ok (.aload_n 0, 1) := by decide +kernel
theorem d_Rn_refuse_16 : decode prog_1_method_28_code 16 = .ok (.iconst 3, 1) := by decide +kernel
theorem d_Rn_refuse_17 : decode prog_1_method_28_code 17 = .ok (.invokevirtual 172, 3) := by decide +kernel
theorem d_Rn_refuse_20 : decode prog_1_method_28_code 20 = .ok (.ifCond .eq 8, 3) := by decide +kernel
theorem d_Rn_refuse_23 : decode prog_1_method_28_code 23 = .ok (.aload_n 0, 1) := by decide +kernel
theorem d_Rn_refuse_24 : decode prog_1_method_28_code 24 = .ok (.iconst 3, 1) := by decide +kernel
theorem d_Rn_refuse_25 : decode prog_1_method_28_code 25 = .ok (.invokevirtual 143, 3) := by decide +kernel
theorem d_Rn_refuse_28 : decode prog_1_method_28_code 28 = .ok (.return_, 1) := by decide +kernel
theorem d_Rn_lookAtRequest_0 : decode prog_1_method_27_code 0 = .ok (.iload_n 1, 1) := by decide +kernel
theorem d_Rn_lookAtRequest_1 : decode prog_1_method_27_code 1 = .ok (.iconst 1, 1) := by decide +kernel
theorem d_Rn_lookAtRequest_2 : decode prog_1_method_27_code 2 = .ok (.if_icmp .ne 17, 3) := by decide +kernel
theorem d_Rn_lookAtRequest_5 : decode prog_1_method_27_code 5 = .ok (.aload_n 0, 1) := by decide +kernel
theorem d_Rn_lookAtRequest_6 : decode prog_1_method_27_code 6 = .ok (.getfield 43, 3) := by decide +kernel
theorem d_Rn_lookAtRequest_9 : decode prog_1_method_27_code 9 = .ok (.aload_n 0, 1) := by decide +kernel
theorem d_Rn_lookAtRequest_10 : decode prog_1_method_27_code 10 = .ok (.getfield 24, 3) := by decide +kernel
theorem d_Rn_lookAtRequest_13 : decode prog_1_method_27_code 13 = .ok (.invokevirtual 209, 3) := by decide +kernel
theorem d_Rn_lookAtRequest_16 : decode prog_1_method_27_code 16 = .ok (.ifCond .ne 10, 3) := by decide +kernel
theorem d_Rn_lookAtRequest_19 : decode prog_1_method_27_code 19 = .ok (.aload_n 0, 1) := by decide +kernel
theorem d_Rn_lookAtRequest_20 : decode prog_1_method_27_code 20 = .ok (.invokevirtual 197, 3) := by decide +kernel
theorem d_Rn_lookAtRequest_23 : decode prog_1_method_27_code 23 = .ok (.goto 48, 3) := by decide +kernel
theorem d_Rn_lookAtRequest_26 : decode prog_1_method_27_code 26 = .ok (.aload_n 0, 1) := by decide +kernel
theorem d_Rn_lookAtRequest_27 : decode prog_1_method_27_code 27 = .ok (.getfield 24, 3) := by decide +kernel
theorem d_Rn_lookAtRequest_30 : decode prog_1_method_27_code 30 = .ok (.iconst 2, 1) := by decide +kernel
theorem d_Rn_lookAtRequest_31 : decode prog_1_method_27_code 31 = .ok (.invokevirtual 139, 3) := by decide +kernel
theorem d_Rn_lookAtRequest_34 : decode prog_1_method_27_code 34 = .ok (.iconst 2, 1) := by decide +kernel
theorem d_Rn_lookAtRequest_35 : decode prog_1_method_27_code 35 = .ok (.irem, 1) := by decide +kernel
theorem d_Rn_lookAtRequest_36 : decode prog_1_method_27_code 36 = .ok (.ifCond .ne 11, 3) := by decide +kernel
theorem d_Rn_lookAtRequest_39 : decode prog_1_method_27_code 39 = .ok (.aload_n 0, 1) := by decide +kernel
theorem d_Rn_lookAtRequest_40 : decode prog_1_method_27_code 40 = .ok (.iconst 1, 1) := by decide +kernel
theorem d_Rn_lookAtRequest_41 : decode prog_1_method_27_code 41 = .ok (.invokevirtual 213, 3) := by decide +kernel
theorem d_Rn_lookAtRequest_44 : decode prog_1_method_27_code 44 = .ok (.goto 27, 3) := by decide +kernel
theorem d_Rn_lookAtRequest_47 : decode prog_1_method_27_code 47 = .ok (.aload_n 0, 1) := by decide +kernel
theorem d_Rn_lookAtRequest_48 : decode prog_1_method_27_code 48 = .ok (.getfield 24, 3) := by decide +kernel
theorem d_Rn_lookAtRequest_51 : decode prog_1_method_27_code 51 = .ok (.iconst 3, 1) := by decide +kernel
theorem d_Rn_lookAtRequest_52 : decode prog_1_method_27_code 52 = .ok (.invokevirtual 139, 3) := by decide +kernel
theorem d_Rn_lookAtRequest_55 : decode prog_1_method_27_code 55 = .ok (.iconst 1, 1) := by decide +kernel
theorem d_Rn_lookAtRequest_56 : decode prog_1_method_27_code 56 = .ok (.if_icmp .eq 11, 3) := by decide +kernel
theorem d_Rn_lookAtRequest_59 : decode prog_1_method_27_code 59 = .ok (.aload_n 0, 1) := by decide +kernel
theorem d_Rn_lookAtRequest_60 : decode prog_1_method_27_code 60 = .ok (.iconst 2, 1) := by decide +kernel
theorem d_Rn_lookAtRequest_61 : decode prog_1_method_27_code 61 = .ok (.invokevirtual 213, 3) := by decide +kernel
theorem d_Rn_lookAtRequest_64 : decode prog_1_method_27_code 64 = .ok (.goto 7, 3) := by decide +kernel
theorem d_Rn_lookAtRequest_67 : decode prog_1_method_27_code 67 = .ok (.aload_n 0, 1) := by decide +kernel
theorem d_Rn_lookAtRequest_68 : decode prog_1_method_27_code 68 = .ok (.invokevirtual 216, 3) := by decide +kernel
theorem d_Rn_lookAtRequest_71 : decode prog_1_method_27_code 71 = .ok (.return_, 1) := by decide +kernel
theorem d_Rn_release_0 : decode prog_1_method_30_code 0 = .ok (.aload_n 0, 1) := by decide +kernel
theorem d_Rn_release_1 : decode prog_1_method_30_code 1 = .ok (.getfield 30, 3) := by decide +kernel
theorem d_Rn_release_4 : decode prog_1_method_30_code 4 = .ok (.invokevirtual 102, 3) := by decide +kernel
theorem d_Rn_release_7 : decode prog_1_method_30_code 7 = .ok (.aload_n 0, 1) := by decide +kernel
theorem d_Rn_release_8 : decode prog_1_method_30_code 8 = .ok (.bipush 6, 2) := by decide +kernel
theorem d_Rn_release_10 : decode prog_1_method_30_code 10 = .ok (.invokevirtual 172, 3) := by decide +kernel
theorem d_Rn_release_13 : decode prog_1_method_30_code 13 = .ok (.ifCond .eq 8, 3) := by decide +kernel
theorem d_Rn_release_16 : decode prog_1_method_30_code 16 = .ok (.aload_n 0, 1) := by decide +kernel
theorem d_Rn_release_17 : decode prog_1_method_30_code 17 = .ok (.iconst 3, 1) := by decide +kernel
theorem d_Rn_release_18 : decode prog_1_method_30_code 18 = .ok (.invokevirtual 143, 3) := by decide +kernel
theorem d_Rn_release_21 : decode prog_1_method_30_code 21 = .ok (.return_, 1) := by decide +kernel
theorem d_Rn_takeFragment_0 : decode prog_1_method_31_code 0 = .ok (.aload_n 0, 1) := by decide +kernel
theorem d_Rn_takeFragment_1 : decode prog_1_method_31_code 1 = .ok (.getfield 24, 3) := by decide +kernel
theorem d_Rn_takeFragment_4 : decode prog_1_method_31_code 4 = .ok (.invokevirtual 125, 3) := by decide +kernel
theorem d_Rn_takeFragment_7 : decode prog_1_method_31_code 7 = .ok (.iconst 4, 1) := by decide +kernel
theorem d_Rn_takeFragment_8 : decode prog_1_method_31_code 8 = .ok (.if_icmp .ge 5, 3) := by decide +kernel
theorem d_Rn_takeFragment_11 : decode prog_1_method_31_code 11 = .ok (.iconst 0, 1) := by decide +kernel
theorem d_Rn_takeFragment_12 : decode prog_1_method_31_code 12 = .ok (.ireturn, 1) := by decide +kernel
theorem d_Rn_takeFragment_13 : decode prog_1_method_31_code 13 = .ok (.aload_n 0, 1) := by decide +kernel
theorem d_Rn_takeFragment_14 : decode prog_1_method_31_code 14 = .ok (.getfield 43, 3) := by decide +kernel
theorem d_Rn_takeFragment_17 : decode prog_1_method_31_code 17 = .ok (.aload_n 0, 1) := by decide +kernel
theorem d_Rn_takeFragment_18 : decode prog_1_method_31_code 18 = .ok (.getfield 24, 3) := by decide +kernel
theorem d_Rn_takeFragment_21 : decode prog_1_method_31_code 21 = .ok (.iconst 2, 1) := by decide +kernel
theorem d_Rn_takeFragment_22 : decode prog_1_method_31_code 22 = .ok (.invokevirtual 139, 3) := by decide +kernel
theorem d_Rn_takeFragment_25 : decode prog_1_method_31_code 25 = .ok (.invokevirtual 161, 3) := by decide +kernel
theorem d_Rn_takeFragment_28 : decode prog_1_method_31_code 28 = .ok (.istore_n 1, 1) := by decide +kernel
theorem d_Rn_takeFragment_29 : decode prog_1_method_31_code 29 = .ok (.aload_n 0, 1) := by decide +kernel
theorem d_Rn_takeFragment_30 : decode prog_1_method_31_code 30 = .ok (.getfield 24, 3) := by decide +kernel
theorem d_Rn_takeFragment_33 : decode prog_1_method_31_code 33 = .ok (.iconst 3, 1) := by decide +kernel
theorem d_Rn_takeFragment_34 : decode prog_1_method_31_code 34 = .ok (.invokevirtual 139, 3) := by decide +kernel
theorem d_Rn_takeFragment_37 : decode prog_1_method_31_code 37 = .ok (.istore_n 2, 1) := by decide +kernel
theorem d_Rn_takeFragment_38 : decode prog_1_method_31_code 38 = .ok (.aload_n 0, 1) := by decide +kernel
theorem d_Rn_takeFragment_39 : decode prog_1_method_31_code 39 = .ok (.getfield 43, 3) := by decide +kernel
theorem d_Rn_takeFragment_42 : decode prog_1_method_31_code 42 = .ok (.iload_n 1, 1) := by decide +kernel
theorem d_Rn_takeFragment_43 : decode prog_1_method_31_code 43 = .ok (.invokevirtual 223, 3) := by decide +kernel
theorem d_Rn_takeFragment_46 : decode prog_1_method_31_code 46 = .ok (.ifCond .eq 8, 3) := by decide +kernel
theorem d_Rn_takeFragment_49 : decode prog_1_method_31_code 49 = .ok (.iload_n 2, 1) := by decide +kernel
theorem d_Rn_takeFragment_50 : decode prog_1_method_31_code 50 = .ok (.iconst 3, 1) := by decide +kernel
theorem d_Rn_takeFragment_51 : decode prog_1_method_31_code 51 = .ok (.if_icmp .le 5, 3) := by decide +kernel
theorem d_Rn_takeFragment_54 : decode prog_1_method_31_code 54 = .ok (.iconst 0, 1) := by decide +kernel
theorem d_Rn_takeFragment_55 : decode prog_1_method_31_code 55 = .ok (.ireturn, 1) := by decide +kernel
theorem d_Rn_takeFragment_56 : decode prog_1_method_31_code 56 = .ok (.iload_n 2, 1) := by decide +kernel
theorem d_Rn_takeFragment_57 : decode prog_1_method_31_code 57 = .ok (.iconst 1, 1) := by decide +kernel
theorem d_Rn_takeFragment_58 : decode prog_1_method_31_code 58 = .ok (.iand, 1) := by decide +kernel
theorem d_Rn_takeFragment_59 : decode prog_1_method_31_code 59 = .ok (.ifCond .ne 7, 3) := by decide +kernel
theorem d_Rn_takeFragment_62 : decode prog_1_method_31_code 62 = .ok (.iconst 1, 1) := by decide +kernel
theorem d_Rn_takeFragment_63 : decode prog_1_method_31_code 63 = .ok (.goto 4, 3) := by decide +kernel
theorem d_Rn_takeFragment_66 : decode prog_1_method_31_code 66 = .ok (.iconst 0, 1) := by decide +kernel
theorem d_Rn_takeFragment_67 : decode prog_1_method_31_code 67 = .ok (.istore_n 3, 1) := by decide +kernel
theorem d_Rn_takeFragment_68 : decode prog_1_method_31_code 68 = .ok (.aload_n 0, 1) := by decide +kernel
theorem d_Rn_takeFragment_69 : decode prog_1_method_31_code 69 = .ok (.getfield 50, 3) := by decide +kernel
theorem d_Rn_takeFragment_72 : decode prog_1_method_31_code 72 = .ok (.iload_n 3, 1) := by decide +kernel
theorem d_Rn_takeFragment_73 : decode prog_1_method_31_code 73 = .ok (.iload_n 1, 1) := by decide +kernel
theorem d_Rn_takeFragment_74 : decode prog_1_method_31_code 74 = .ok (.invokevirtual 226, 3) := by decide +kernel
theorem d_Rn_takeFragment_77 : decode prog_1_method_31_code 77 = .ok (.ifCond .eq 22, 3) := by decide +kernel
theorem d_Rn_takeFragment_80 : decode prog_1_method_31_code 80 = .ok (.aload_n 0, 1) := by decide +kernel
theorem d_Rn_takeFragment_81 : decode prog_1_method_31_code 81 = .ok (.getfield 27, 3) := by decide +kernel
theorem d_Rn_takeFragment_84 : decode prog_1_method_31_code 84 = .ok (.aload_n 0, 1) := by decide +kernel
theorem d_Rn_takeFragment_85 : decode prog_1_method_31_code 85 = .ok (.getfield 24, 3) := by decide +kernel
theorem d_Rn_takeFragment_88 : decode prog_1_method_31_code 88 = .ok (.invokevirtual 125, 3) := by decide +kernel
theorem d_Rn_takeFragment_91 : decode prog_1_method_31_code 91 = .ok (.iconst 4, 1) := by decide +kernel
theorem d_Rn_takeFragment_92 : decode prog_1_method_31_code 92 = .ok (.isub, 1) := by decide +kernel
theorem d_Rn_takeFragment_93 : decode prog_1_method_31_code 93 = .ok (.invokevirtual 92, 3) := by decide +kernel
theorem d_Rn_takeFragment_96 : decode prog_1_method_31_code 96 = .ok (.ifCond .ne 5, 3) := by decide +kernel
theorem d_Rn_takeFragment_99 : decode prog_1_method_31_code 99 = .ok (.iconst 0, 1) := by decide +kernel
theorem d_Rn_takeFragment_100 : decode prog_1_method_31_code 100 = .ok (.ireturn, 1) := by decide +kernel
theorem d_Rn_takeFragment_101 : decode prog_1_method_31_code 101 = .ok (.iconst 4, 1) := by decide +kernel
theorem d_Rn_takeFragment_102 : decode prog_1_method_31_code 102 = .ok (.istore 4, 2) := by decide +kernel
theorem d_Rn_takeFragment_104 : decode prog_1_method_31_code 104 = .ok (.iload 4, 2) := by decide +kernel
theorem d_Rn_takeFragment_106 : decode prog_1_method_31_code 106 = .ok (.aload_n 0, 1) := by decide +kernel
theorem d_Rn_takeFragment_107 : decode prog_1_method_31_code 107 = .ok (.getfield 24, 3) := by decide +kernel
theorem d_Rn_takeFragment_110 : decode prog_1_method_31_code 110 = .ok (.invokevirtual 125, 3) := by decide +kernel
theorem d_Rn_takeFragment_113 : decode prog_1_method_31_code 113 = .ok (.if_icmp .ge 25, 3) := by decide +kernel
theorem d_Rn_takeFragment_116 : decode prog_1_method_31_code 116 = .ok (.aload_n 0, 1) := by decide +kernel
theorem d_Rn_takeFragment_117 : decode prog_1_method_31_code 117 = .ok (.getfield 27, 3) := by decide +kernel
theorem d_Rn_takeFragment_120 : decode prog_1_method_31_code 120 = .ok (.aload_n 0, 1) := by decide +kernel
theorem d_Rn_takeFragment_121 : decode prog_1_method_31_code 121 = .ok (.getfield 24, 3) := by decide +kernel
theorem d_Rn_takeFragment_124 : decode prog_1_method_31_code 124 = .ok (.iload 4, 2) := by decide +kernel
theorem d_Rn_takeFragment_126 : decode prog_1_method_31_code 126 = .ok (.invokevirtual 139, 3) := by decide +kernel
theorem d_Rn_takeFragment_129 : decode prog_1_method_31_code 129 = .ok (.invokevirtual 99, 3) := by decide +kernel
theorem d_Rn_takeFragment_132 : decode prog_1_method_31_code 132 = .ok (.iinc 4 1, 3) := by decide +kernel
theorem d_Rn_takeFragment_135 : decode prog_1_method_31_code 135 = .ok (.goto (-31), 3) := by decide +kernel
theorem d_Rn_takeFragment_138 : decode prog_1_method_31_code 138 = .ok (.aload_n 0, 1) := by decide +kernel
theorem d_Rn_takeFragment_139 : decode prog_1_method_31_code 139 = .ok (.getfield 50, 3) := by decide +kernel
theorem d_Rn_takeFragment_142 : decode prog_1_method_31_code 142 = .ok (.iload_n 1, 1) := by decide +kernel
theorem d_Rn_takeFragment_143 : decode prog_1_method_31_code 143 = .ok (.iload_n 2, 1) := by decide +kernel
theorem d_Rn_takeFragment_144 : decode prog_1_method_31_code 144 = .ok (.iconst 2, 1) := by decide +kernel
theorem d_Rn_takeFragment_145 : decode prog_1_method_31_code 145 = .ok (.iand, 1) := by decide +kernel
theorem d_Rn_takeFragment_146 : decode prog_1_method_31_code 146 = .ok (.ifCond .eq 7, 3) := by decide +kernel
theorem d_Rn_takeFragment_149 : decode prog_1_method_31_code 149 = .ok (.iconst 1, 1) := by decide +kernel
theorem d_Rn_takeFragment_150 : decode prog_1_method_31_code 150 = .ok (.goto 4, 3) := by decide +kernel
theorem d_Rn_takeFragment_153 : decode prog_1_method_31_code 153 = .ok (.iconst 0, 1) := by decide +kernel
theorem d_Rn_takeFragment_154 : decode prog_1_method_31_code 154 = .ok (.invokevirtual 230, 3) := by decide +kernel
theorem d_Rn_takeFragment_157 : decode prog_1_method_31_code 157 = .ok (.iconst 1, 1) := by decide +kernel
theorem d_Rn_takeFragment_158 : decode prog_1_method_31_code 158 = .ok (.ireturn, 1) := by decide +kernel
theorem d_Rn_lookAtPiece_0 : decode prog_1_method_26_code 0 = .ok (.aload_n 0, 1) := by decide +kernel
theorem d_Rn_lookAtPiece_1 : decode prog_1_method_26_code 1 = .ok (.getfield 24, 3) := by decide +kernel
theorem d_Rn_lookAtPiece_4 : decode prog_1_method_26_code 4 = .ok (.iconst 0, 1) := by decide +kernel
theorem d_Rn_lookAtPiece_5 : decode prog_1_method_26_code 5 = .ok (.invokevirtual 139, 3) := by decide +kernel
theorem d_Rn_lookAtPiece_8 : decode prog_1_method_26_code 8 = .ok (.istore_n 1, 1) := by decide +kernel
theorem d_Rn_lookAtPiece_9 : decode prog_1_method_26_code 9 = .ok (.iload_n 1, 1) := by decide +kernel
theorem d_Rn_lookAtPiece_10 : decode prog_1_method_26_code 10 = .ok (.bipush 7, 2) := by decide +kernel
theorem d_Rn_lookAtPiece_12 : decode prog_1_method_26_code 12 = .ok (.if_icmp .ne 10, 3) := by decide +kernel
theorem d_Rn_lookAtPiece_15 : decode prog_1_method_26_code 15 = .ok (.aload_n 0, 1) := by decide +kernel
theorem d_Rn_lookAtPiece_16 : decode prog_1_method_26_code 16 = .ok (.invokevirtual 146, 3) := by decide +kernel
theorem d_Rn_lookAtPiece_19 : decode prog_1_method_26_code 19 = .ok (.goto 63, 3) := by decide +kernel
theorem d_Rn_lookAtPiece_22 : decode prog_1_method_26_code 22 = .ok (.aload_n 0, 1) := by decide +kernel
theorem d_Rn_lookAtPiece_23 : decode prog_1_method_26_code 23 = .ok (.getfield 78, 3) := by decide +kernel
theorem d_Rn_lookAtPiece_26 : decode prog_1_method_26_code 26 = .ok (.iconst 1, 1) := by decide +kernel
theorem d_Rn_lookAtPiece_27 : decode prog_1_method_26_code 27 = .ok (.if_icmp .ne 11, 3) := by decide +kernel
theorem d_Rn_lookAtPiece_30 : decode prog_1_method_26_code 30 = .ok (.aload_n 0, 1) := by decide +kernel
theorem d_Rn_lookAtPiece_31 : decode prog_1_method_26_code 31 = .ok (.iload_n 1, 1) := by decide +kernel
theorem d_Rn_lookAtPiece_32 : decode prog_1_method_26_code 32 = .ok (.invokevirtual 200, 3) := by decide +kernel
theorem d_Rn_lookAtPiece_35 : decode prog_1_method_26_code 35 = .ok (.goto 47, 3) := by decide +kernel
theorem d_Rn_lookAtPiece_38 : decode prog_1_method_26_code 38 = .ok (.aload_n 0, 1) := by decide +kernel
theorem d_Rn_lookAtPiece_39 : decode prog_1_method_26_code 39 = .ok (.getfield 78, 3) := by decide +kernel
theorem d_Rn_lookAtPiece_42 : decode prog_1_method_26_code 42 = .ok (.iconst 2, 1) := by decide +kernel
theorem d_Rn_lookAtPiece_43 : decode prog_1_method_26_code 43 = .ok (.if_icmp .ne 15, 3) := by decide +kernel
theorem d_Rn_lookAtPiece_46 : decode prog_1_method_26_code 46 = .ok (.iload_n 1, 1) := by decide +kernel
theorem d_Rn_lookAtPiece_47 : decode prog_1_method_26_code 47 = .ok (.iconst 5, 1) := by decide +kernel
theorem d_Rn_lookAtPiece_48 : decode prog_1_method_26_code 48 = .ok (.if_icmp .ne 10, 3) := by decide +kernel
theorem d_Rn_lookAtPiece_51 : decode prog_1_method_26_code 51 = .ok (.aload_n 0, 1) := by decide +kernel
theorem d_Rn_lookAtPiece_52 : decode prog_1_method_26_code 52 = .ok (.invokevirtual 203, 3) := by decide +kernel
theorem d_Rn_lookAtPiece_55 : decode prog_1_method_26_code 55 = .ok (.goto 27, 3) := by decide +kernel
theorem d_Rn_lookAtPiece_58 : decode prog_1_method_26_code 58 = .ok (.aload_n 0, 1) := by decide +kernel
theorem d_Rn_lookAtPiece_59 : decode prog_1_method_26_code 59 = .ok (.getfield 78, 3) := by decide +kernel
theorem d_Rn_lookAtPiece_62 : decode prog_1_method_26_code 62 = .ok (.iconst 2, 1) := by decide +kernel
theorem d_Rn_lookAtPiece_63 : decode prog_1_method_26_code 63 = .ok (.if_icmp .ne 19, 3) := by decide +kernel
theorem d_Rn_lookAtPiece_66 : decode prog_1_method_26_code 66 = .ok (.iload_n 1, 1) := by decide +kernel
theorem d_Rn_lookAtPiece_67 : decode prog_1_method_26_code 67 = .ok (.iconst 4, 1) := by decide +kernel
theorem d_Rn_lookAtPiece_68 : decode prog_1_method_26_code 68 = .ok (.if_icmp .ne 10, 3) := by decide +kernel
theorem d_Rn_lookAtPiece_71 : decode prog_1_method_26_code 71 = .ok (.aload_n 0, 1) := by decide +kernel
theorem d_Rn_lookAtPiece_72 : decode prog_1_method_26_code 72 = .ok (.invokevirtual 206, 3) := by decide +kernel
theorem d_Rn_lookAtPiece_75 : decode prog_1_method_26_code 75 = .ok (.ifCond .ne 7, 3) := by decide +kernel
theorem d_Rn_lookAtPiece_78 : decode prog_1_method_26_code 78 = .ok (.aload_n 0, 1) := by decide +kernel
theorem d_Rn_lookAtPiece_79 : decode prog_1_method_26_code 79 = .ok (.invokevirtual 197, 3) := by decide +kernel
theorem d_Rn_lookAtPiece_82 : decode prog_1_method_26_code 82 = .ok (.return_, 1) := by decide +kernel
def ws_Rn_type : List Cond := .code y_Rn_type prog_1_method_2_code 5 (some .boolean) :: TB
def B_Rn_type_18 (s0 : S_Rn) (s1 : S_Bs) : Option (Int32 × S_Bs) :=
  some ((0 : Int32), s1)
def B_Rn_type_49 (s0 : S_Rn) (s1 : S_Bs) : Option (Int32 × S_Bs) :=
  some ((1 : Int32), s1)
def B_Rn_type_30 (k25 : S_Bs × Int64 × Int32 → Option (Int32 × S_Bs)) (s0 : S_Rn) (s1 : S_Bs) (x1 : Int64) (x4 : Int32) : Option (Int32 × S_Bs) :=
  ((F_Rn_byteOf x1 x4).bind fun o1 => ((F_Bs_append s1 o1).bind fun o3 => (k25 (o3, x1, (x4 + (-1))))))
def B_Rn_type_25 (k25 : S_Bs × Int64 × Int32 → Option (Int32 × S_Bs)) (s0 : S_Rn) (s1 : S_Bs) (x1 : Int64) (x4 : Int32) : Option (Int32 × S_Bs) :=
  (if x4 < 0 then (B_Rn_type_49 s0 s1) else (B_Rn_type_30 k25 s0 s1 x1 x4))
def L_Rn_type_25 (s0 : S_Rn) (v : S_Bs × Int64 × Int32) : Option (Int32 × S_Bs) := lp (fun k25 v => B_Rn_type_25  k25 s0 v.1 v.2.1 v.2.2) FU v
def B_Rn_type_20 (s0 : S_Rn) (s1 : S_Bs) (x1 : Int64) (x3 : Int32) : Option (Int32 × S_Bs) :=
  (L_Rn_type_25 s0 (s1, x1, (x3 - (1 : Int32))))
def B_Rn_type_7 (s0 : S_Rn) (s1 : S_Bs) (x1 : Int64) (x3 : Int32) : Option (Int32 × S_Bs) :=
  ((F_Bs_hasRoom s1 x3).bind fun o1 => (if o1 = 0 then (B_Rn_type_18 s0 s1) else (B_Rn_type_20 s0 s1 x1 x3)))
def B_Rn_type_0 (s0 : S_Rn) (s1 : S_Bs) (x1 : Int64) (x3 : Int32) : Option (Int32 × S_Bs) :=
  ((F_Rn_isCount x3).bind fun o1 => (if o1 = 0 then (B_Rn_type_18 s0 s1) else (B_Rn_type_7 s0 s1 x1 x3)))
def F_Rn_type (s0 : S_Rn) (s1 : S_Bs) (x1 : Int64) (x3 : Int32) : Option (Int32 × S_Bs) := B_Rn_type_0 s0 s1 x1 x3
set_option maxRecDepth 100000 in
set_option maxHeartbeats 4000000 in
theorem t_Rn_type_18 {p : Program} {l : Launch} {e : Env} {s : State} {m : MethodId} {args : Array Value} {below : List Frame} {meth : Method} {c : Code} {D : va_G} {A : Nat → Prop} {g : Nat → ClassId} {rest : va_W} {K : Nat → Nat → Nat} {ls : Array Slot} {H : Heap} {locs : List Loc} {s0 : S_Rn} {s1 : S_Bs} {out : Int32 × S_Bs} (X : Cx p s m args meth c prog_1_method_2_code 5 ws_Rn_type R_Rn (some .boolean) D g) (hl : lv_has ls 5 []) (hI : Iw D A (w_Rn g (K 0) (fun j => K (j + 1) 0) s0 ++ (w_Bs g (K 1) s1 ++ (rest))) H) (hS : va_S A s.heap H locs) (h : B_Rn_type_18  s0 s1 = some out) : W p l e (headSpec ws_Rn_type { frames := 1, cells := 0, slots := 0, locals := 22 }).room s m args below meth c H locs 0 0 (MQ below (QcI D A g out.1 (fun (_ : Unit) => w_Rn g (K 0) (fun j => K (j + 1) 0) s0 ++ (w_Bs g (K 1) out.2 ++ (rest)))) args s 0 0 A) (F0 m 18 ls []) := by
  have X1 := X
  obtain ⟨hx, hb, hml, hown, hts, hr, hlocks, hKK⟩ := X1
  have ht : ∀ w ∈ TB, w.before args s = true := fun w h => hts w (List.mem_cons_of_mem _ h)
  have hK := hKK.1
  unfold B_Rn_type_18 at h
  refine lv_iconst (v := 0) hx hb d_Rn_type_18 (by decide) ?_
  have h9 := Option.some.inj h
  subst h9
  exact W.zret (v := (0 : Int32)) hx hb hr rfl (fun t ht hW => ⟨⟨_, (), rfl, rfl, ⟨by rw [ht]; exact hI, hKK.moved hW⟩⟩, hS.F ht⟩) hS.2.2 d_Rn_type_19
set_option maxRecDepth 100000 in
set_option maxHeartbeats 4000000 in
theorem t_Rn_type_49 {p : Program} {l : Launch} {e : Env} {s : State} {m : MethodId} {args : Array Value} {below : List Frame} {meth : Method} {c : Code} {D : va_G} {A : Nat → Prop} {g : Nat → ClassId} {rest : va_W} {K : Nat → Nat → Nat} {ls : Array Slot} {H : Heap} {locs : List Loc} {s0 : S_Rn} {s1 : S_Bs} {out : Int32 × S_Bs} (X : Cx p s m args meth c prog_1_method_2_code 5 ws_Rn_type R_Rn (some .boolean) D g) (hl : lv_has ls 5 []) (hI : Iw D A (w_Rn g (K 0) (fun j => K (j + 1) 0) s0 ++ (w_Bs g (K 1) s1 ++ (rest))) H) (hS : va_S A s.heap H locs) (h : B_Rn_type_49  s0 s1 = some out) : W p l e (headSpec ws_Rn_type { frames := 1, cells := 0, slots := 0, locals := 22 }).room s m args below meth c H locs 0 0 (MQ below (QcI D A g out.1 (fun (_ : Unit) => w_Rn g (K 0) (fun j => K (j + 1) 0) s0 ++ (w_Bs g (K 1) out.2 ++ (rest)))) args s 0 0 A) (F0 m 49 ls []) := by
  have X1 := X
  obtain ⟨hx, hb, hml, hown, hts, hr, hlocks, hKK⟩ := X1
  have ht : ∀ w ∈ TB, w.before args s = true := fun w h => hts w (List.mem_cons_of_mem _ h)
  have hK := hKK.1
  unfold B_Rn_type_49 at h
  refine lv_iconst (v := 1) hx hb d_Rn_type_49 (by decide) ?_
  have h9 := Option.some.inj h
  subst h9
  exact W.zret (v := (1 : Int32)) hx hb hr rfl (fun t ht hW => ⟨⟨_, (), rfl, rfl, ⟨by rw [ht]; exact hI, hKK.moved hW⟩⟩, hS.F ht⟩) hS.2.2 d_Rn_type_50
set_option maxRecDepth 100000 in
set_option maxHeartbeats 4000000 in
theorem t_Rn_type_30 {p : Program} {l : Launch} {e : Env} {s : State} {m : MethodId} {args : Array Value} {below : List Frame} {meth : Method} {c : Code} {D : va_G} {A : Nat → Prop} {g : Nat → ClassId} {rest : va_W} {K : Nat → Nat → Nat} {ls : Array Slot} {H : Heap} {locs : List Loc} {k25 : S_Bs × Int64 × Int32 → Option (Int32 × S_Bs)} {s0 : S_Rn} {s1 : S_Bs} {x1 : Int64} {x4 : Int32} {out : Int32 × S_Bs} (X : Cx p s m args meth c prog_1_method_2_code 5 ws_Rn_type R_Rn (some .boolean) D g) (hk25 : ∀ (v : S_Bs × Int64 × Int32) (ls : Array Slot) (H : Heap) (locs : List Loc), lv_has ls 5 [(0, .ref (K 0 0)), (1, .long v.2.1), (4, .int v.2.2)] → Iw D A (w_Rn g (K 0) (fun j => K (j + 1) 0) s0 ++ (w_Bs g (K 1) v.1 ++ (rest))) H → va_S A s.heap H locs → k25 v = some out → W p l e (headSpec ws_Rn_type { frames := 1, cells := 0, slots := 0, locals := 22 }).room s m args below meth c H locs 0 0 (MQ below (QcI D A g out.1 (fun (_ : Unit) => w_Rn g (K 0) (fun j => K (j + 1) 0) s0 ++ (w_Bs g (K 1) out.2 ++ (rest)))) args s 0 0 A) (F0 m 25 ls [])) (hl : lv_has ls 5 [(0, .ref (K 0 0)), (1, .long x1), (4, .int x4)]) (hI : Iw D A (w_Rn g (K 0) (fun j => K (j + 1) 0) s0 ++ (w_Bs g (K 1) s1 ++ (rest))) H) (hS : va_S A s.heap H locs) (h : B_Rn_type_30 k25 s0 s1 x1 x4 = some out) : W p l e (headSpec ws_Rn_type { frames := 1, cells := 0, slots := 0, locals := 22 }).room s m args below meth c H locs 0 0 (MQ below (QcI D A g out.1 (fun (_ : Unit) => w_Rn g (K 0) (fun j => K (j + 1) 0) s0 ++ (w_Bs g (K 1) out.2 ++ (rest)))) args s 0 0 A) (F0 m 30 ls []) := by
  have X1 := X
  obtain ⟨hx, hb, hml, hown, hts, hr, hlocks, hKK⟩ := X1
  have ht : ∀ w ∈ TB, w.before args s = true := fun w h => hts w (List.mem_cons_of_mem _ h)
  have hK := hKK.1
  unfold B_Rn_type_30 at h
  refine lv_aload_n hx hb d_Rn_type_30 rfl (lv_at hl 0 rfl) ?_
  refine va_get (D := D) (ci := 8) (v := .ref (K 1 0)) (C := R_Rn) (T := T_Rn) (N := 16) hx hb ht in_Rn hown hK hI.1 0 rfl rfl 0 (by decide) (ht _ m_203) (fun _ h9 => h9) rfl d_Rn_type_31 ?_
  refine lv_lload_n hx hb d_Rn_type_34 rfl (lv_at hl 1 rfl) ?_
  refine lv_iload hx hb d_Rn_type_35 (lv_at hl 2 rfl) ?_
  obtain ⟨o1, ho2, h⟩ := bd_s h
  refine cl_i (W1 := fun (_ : Unit) => w_Rn g (K 0) (fun j => K (j + 1) 0) s0 ++ (w_Bs g (K 1) s1 ++ (rest))) (va_runS (As := [.long x1, .int x4]) (rest := [.ref (K 1 0)]) ⟨hx, hb, hml, hown, ht⟩ (c_Rn_byteOf (l := l) (D := D) (A := A) (g := g) (rest := w_Rn g (K 0) (fun j => K (j + 1) 0) s0 ++ (w_Bs g (K 1) s1 ++ (rest)))  ho2) (va_cwS 2 ht (gd_S m_263 m_264 m_1 m_265) rfl rfl rfl (by decide +kernel) ⟨(Nat.le_of_ble_eq_true rfl), (Nat.le_of_ble_eq_true rfl)⟩) (prS hKK hI (List.Perm.refl _)) rfl rfl hl.1 rfl (lv_room (Nat.le_of_ble_eq_true rfl)) d_Rn_type_37 ⟨(Nat.le_of_ble_eq_true rfl), (Nat.le_of_ble_eq_true rfl)⟩) hS (fun _ => ((List.Perm.refl _)).symm) (fun _ H locs hI hS => ?_)
  have hI : Iw D A (w_Rn g (K 0) (fun j => K (j + 1) 0) s0 ++ (w_Bs g (K 1) s1 ++ (rest))) H := hI
  obtain ⟨o3, ho4, h⟩ := bd_s h
  refine cl_v (W1 := fun (_ : Unit) => w_Rn g (K 0) (fun j => K (j + 1) 0) s0 ++ (w_Bs g (K 1) o3 ++ (rest))) (va_runV (As := [.int o1]) (rest := []) ⟨hx, hb, hml, hown, ht⟩ (c_Bs_append (l := l) (D := D) (A := A) (g := g) (rest := w_Rn g (K 0) (fun j => K (j + 1) 0) s0 ++ (rest)) (a0 := K 1) ho4) (cwV 1 ht (gd_V m_266 m_267 m_268 m_2 m_269) rfl rfl rfl (by decide +kernel) ⟨(Nat.le_of_ble_eq_true rfl), (Nat.le_of_ble_eq_true rfl)⟩) (prV (ci := 0) (q0 := 0) hKK hI (mv_1) rfl rfl rfl) rfl rfl hl.1 rfl (lv_room (Nat.le_of_ble_eq_true rfl)) d_Rn_type_40 ⟨(Nat.le_of_ble_eq_true rfl), (Nat.le_of_ble_eq_true rfl)⟩) hS (fun _ => ((mv_1)).symm) (fun _ H locs hI hS => ?_)
  have hI : Iw D A (w_Rn g (K 0) (fun j => K (j + 1) 0) s0 ++ (w_Bs g (K 1) o3 ++ (rest))) H := hI
  refine lv_iinc (k := 2) (v := (x4 + (-1))) hx hb d_Rn_type_43 hl rfl (congrArg (fun z => x4 + z) (by decide)) (Nat.le_of_ble_eq_true rfl) rfl (fun ls hl => ?_)
  have hl : lv_has ls 5 [(4, .int (x4 + (-1))), (0, .ref (K 0 0)), (1, .long x1)] := hl
  refine lv_goto (tgt := 25) hx hb d_Rn_type_46 (by decide) ?_
  exact hk25 (o3, x1, (x4 + (-1))) _ _ _ (lv_sub hl [1, 2, 0] rfl) hI hS h
set_option maxRecDepth 100000 in
set_option maxHeartbeats 4000000 in
theorem t_Rn_type_25 {p : Program} {l : Launch} {e : Env} {s : State} {m : MethodId} {args : Array Value} {below : List Frame} {meth : Method} {c : Code} {D : va_G} {A : Nat → Prop} {g : Nat → ClassId} {rest : va_W} {K : Nat → Nat → Nat} {ls : Array Slot} {H : Heap} {locs : List Loc} {k25 : S_Bs × Int64 × Int32 → Option (Int32 × S_Bs)} {s0 : S_Rn} {s1 : S_Bs} {x1 : Int64} {x4 : Int32} {out : Int32 × S_Bs} (X : Cx p s m args meth c prog_1_method_2_code 5 ws_Rn_type R_Rn (some .boolean) D g) (hk25 : ∀ (v : S_Bs × Int64 × Int32) (ls : Array Slot) (H : Heap) (locs : List Loc), lv_has ls 5 [(0, .ref (K 0 0)), (1, .long v.2.1), (4, .int v.2.2)] → Iw D A (w_Rn g (K 0) (fun j => K (j + 1) 0) s0 ++ (w_Bs g (K 1) v.1 ++ (rest))) H → va_S A s.heap H locs → k25 v = some out → W p l e (headSpec ws_Rn_type { frames := 1, cells := 0, slots := 0, locals := 22 }).room s m args below meth c H locs 0 0 (MQ below (QcI D A g out.1 (fun (_ : Unit) => w_Rn g (K 0) (fun j => K (j + 1) 0) s0 ++ (w_Bs g (K 1) out.2 ++ (rest)))) args s 0 0 A) (F0 m 25 ls [])) (hl : lv_has ls 5 [(0, .ref (K 0 0)), (1, .long x1), (4, .int x4)]) (hI : Iw D A (w_Rn g (K 0) (fun j => K (j + 1) 0) s0 ++ (w_Bs g (K 1) s1 ++ (rest))) H) (hS : va_S A s.heap H locs) (h : B_Rn_type_25 k25 s0 s1 x1 x4 = some out) : W p l e (headSpec ws_Rn_type { frames := 1, cells := 0, slots := 0, locals := 22 }).room s m args below meth c H locs 0 0 (MQ below (QcI D A g out.1 (fun (_ : Unit) => w_Rn g (K 0) (fun j => K (j + 1) 0) s0 ++ (w_Bs g (K 1) out.2 ++ (rest)))) args s 0 0 A) (F0 m 25 ls []) := by
  have X1 := X
  obtain ⟨hx, hb, hml, hown, hts, hr, hlocks, hKK⟩ := X1
  have ht : ∀ w ∈ TB, w.before args s = true := fun w h => hts w (List.mem_cons_of_mem _ h)
  have hK := hKK.1
  unfold B_Rn_type_25 at h
  refine lv_iload hx hb d_Rn_type_25 (lv_at hl 2 rfl) ?_
  refine lv_if_lt (tgt := 49) hx hb d_Rn_type_27 (by decide) (fun hc => ?_) (fun hc => ?_)
  · have h := it_t h hc
    exact t_Rn_type_49 X (lv_sub hl [] rfl) hI hS h
  · have h := it_f h hc
    exact t_Rn_type_30 X hk25 (lv_sub hl [0, 1, 2] rfl) hI hS h
set_option maxRecDepth 100000 in
set_option maxHeartbeats 4000000 in
theorem T_Rn_type_25 {p : Program} {l : Launch} {e : Env} {s : State} {m : MethodId} {args : Array Value} {below : List Frame} {meth : Method} {c : Code} {D : va_G} {A : Nat → Prop} {g : Nat → ClassId} {rest : va_W} {K : Nat → Nat → Nat} {ls : Array Slot} {H : Heap} {locs : List Loc} {s0 : S_Rn} {s1 : S_Bs} {x1 : Int64} {x4 : Int32} {out : Int32 × S_Bs} (X : Cx p s m args meth c prog_1_method_2_code 5 ws_Rn_type R_Rn (some .boolean) D g) (hl : lv_has ls 5 [(0, .ref (K 0 0)), (1, .long x1), (4, .int x4)]) (hI : Iw D A (w_Rn g (K 0) (fun j => K (j + 1) 0) s0 ++ (w_Bs g (K 1) s1 ++ (rest))) H) (hS : va_S A s.heap H locs) (h : L_Rn_type_25  s0 (s1, x1, x4) = some out) : W p l e (headSpec ws_Rn_type { frames := 1, cells := 0, slots := 0, locals := 22 }).room s m args below meth c H locs 0 0 (MQ below (QcI D A g out.1 (fun (_ : Unit) => w_Rn g (K 0) (fun j => K (j + 1) 0) s0 ++ (w_Bs g (K 1) out.2 ++ (rest)))) args s 0 0 A) (F0 m 25 ls []) := by
  unfold L_Rn_type_25 at h
  exact lp_ind (P := fun v => ∀ (ls : Array Slot) (H : Heap) (locs : List Loc), lv_has ls 5 [(0, .ref (K 0 0)), (1, .long v.2.1), (4, .int v.2.2)] → Iw D A (w_Rn g (K 0) (fun j => K (j + 1) 0) s0 ++ (w_Bs g (K 1) v.1 ++ (rest))) H → va_S A s.heap H locs → W p l e (headSpec ws_Rn_type { frames := 1, cells := 0, slots := 0, locals := 22 }).room s m args below meth c H locs 0 0 (MQ below (QcI D A g out.1 (fun (_ : Unit) => w_Rn g (K 0) (fun j => K (j + 1) 0) s0 ++ (w_Bs g (K 1) out.2 ++ (rest)))) args s 0 0 A) (F0 m 25 ls [])) (fun k v ih hb ls H locs  hl hI hS => t_Rn_type_25 X  (fun v' ls H locs  hl hI hS h' => ih v' h' ls H locs  hl hI hS) hl hI hS hb) FU _ h ls H locs  hl hI hS
set_option maxRecDepth 100000 in
set_option maxHeartbeats 4000000 in
theorem t_Rn_type_20 {p : Program} {l : Launch} {e : Env} {s : State} {m : MethodId} {args : Array Value} {below : List Frame} {meth : Method} {c : Code} {D : va_G} {A : Nat → Prop} {g : Nat → ClassId} {rest : va_W} {K : Nat → Nat → Nat} {ls : Array Slot} {H : Heap} {locs : List Loc} {s0 : S_Rn} {s1 : S_Bs} {x1 : Int64} {x3 : Int32} {out : Int32 × S_Bs} (X : Cx p s m args meth c prog_1_method_2_code 5 ws_Rn_type R_Rn (some .boolean) D g) (hl : lv_has ls 5 [(0, .ref (K 0 0)), (1, .long x1), (3, .int x3)]) (hI : Iw D A (w_Rn g (K 0) (fun j => K (j + 1) 0) s0 ++ (w_Bs g (K 1) s1 ++ (rest))) H) (hS : va_S A s.heap H locs) (h : B_Rn_type_20  s0 s1 x1 x3 = some out) : W p l e (headSpec ws_Rn_type { frames := 1, cells := 0, slots := 0, locals := 22 }).room s m args below meth c H locs 0 0 (MQ below (QcI D A g out.1 (fun (_ : Unit) => w_Rn g (K 0) (fun j => K (j + 1) 0) s0 ++ (w_Bs g (K 1) out.2 ++ (rest)))) args s 0 0 A) (F0 m 20 ls []) := by
  have X1 := X
  obtain ⟨hx, hb, hml, hown, hts, hr, hlocks, hKK⟩ := X1
  have ht : ∀ w ∈ TB, w.before args s = true := fun w h => hts w (List.mem_cons_of_mem _ h)
  have hK := hKK.1
  unfold B_Rn_type_20 at h
  refine lv_iload_n hx hb d_Rn_type_20 rfl (lv_at hl 2 rfl) ?_
  refine lv_iconst (v := 1) hx hb d_Rn_type_21 (by decide) ?_
  refine lv_isub hx hb d_Rn_type_22 ?_
  refine lv_istore hx hb d_Rn_type_23 hl (Nat.le_of_ble_eq_true rfl) rfl (fun ls hl => ?_)
  have hl : lv_has ls 5 [(4, .int (x3 - (1 : Int32))), (0, .ref (K 0 0)), (1, .long x1), (3, .int x3)] := hl
  exact T_Rn_type_25 X (lv_sub hl [1, 2, 0] rfl) hI hS h
set_option maxRecDepth 100000 in
set_option maxHeartbeats 4000000 in
theorem t_Rn_type_7 {p : Program} {l : Launch} {e : Env} {s : State} {m : MethodId} {args : Array Value} {below : List Frame} {meth : Method} {c : Code} {D : va_G} {A : Nat → Prop} {g : Nat → ClassId} {rest : va_W} {K : Nat → Nat → Nat} {ls : Array Slot} {H : Heap} {locs : List Loc} {s0 : S_Rn} {s1 : S_Bs} {x1 : Int64} {x3 : Int32} {out : Int32 × S_Bs} (X : Cx p s m args meth c prog_1_method_2_code 5 ws_Rn_type R_Rn (some .boolean) D g) (hl : lv_has ls 5 [(0, .ref (K 0 0)), (1, .long x1), (3, .int x3)]) (hI : Iw D A (w_Rn g (K 0) (fun j => K (j + 1) 0) s0 ++ (w_Bs g (K 1) s1 ++ (rest))) H) (hS : va_S A s.heap H locs) (h : B_Rn_type_7  s0 s1 x1 x3 = some out) : W p l e (headSpec ws_Rn_type { frames := 1, cells := 0, slots := 0, locals := 22 }).room s m args below meth c H locs 0 0 (MQ below (QcI D A g out.1 (fun (_ : Unit) => w_Rn g (K 0) (fun j => K (j + 1) 0) s0 ++ (w_Bs g (K 1) out.2 ++ (rest)))) args s 0 0 A) (F0 m 7 ls []) := by
  have X1 := X
  obtain ⟨hx, hb, hml, hown, hts, hr, hlocks, hKK⟩ := X1
  have ht : ∀ w ∈ TB, w.before args s = true := fun w h => hts w (List.mem_cons_of_mem _ h)
  have hK := hKK.1
  unfold B_Rn_type_7 at h
  refine lv_aload_n hx hb d_Rn_type_7 rfl (lv_at hl 0 rfl) ?_
  refine va_get (D := D) (ci := 8) (v := .ref (K 1 0)) (C := R_Rn) (T := T_Rn) (N := 16) hx hb ht in_Rn hown hK hI.1 0 rfl rfl 0 (by decide) (ht _ m_203) (fun _ h9 => h9) rfl d_Rn_type_8 ?_
  refine lv_iload_n hx hb d_Rn_type_11 rfl (lv_at hl 2 rfl) ?_
  obtain ⟨o1, ho2, h⟩ := bd_s h
  refine cl_i (W1 := fun (_ : Unit) => w_Rn g (K 0) (fun j => K (j + 1) 0) s0 ++ (w_Bs g (K 1) s1 ++ (rest))) (va_runV (As := [.int x3]) (rest := []) ⟨hx, hb, hml, hown, ht⟩ (c_Bs_hasRoom (l := l) (D := D) (A := A) (g := g) (rest := w_Rn g (K 0) (fun j => K (j + 1) 0) s0 ++ (rest)) (a0 := K 1) ho2) (cwV 1 ht (gd_V m_259 m_260 m_261 m_2 m_262) rfl rfl rfl (by decide +kernel) ⟨(Nat.le_of_ble_eq_true rfl), (Nat.le_of_ble_eq_true rfl)⟩) (prV (ci := 0) (q0 := 0) hKK hI (mv_1) rfl rfl rfl) rfl rfl hl.1 rfl (lv_room (Nat.le_of_ble_eq_true rfl)) d_Rn_type_12 ⟨(Nat.le_of_ble_eq_true rfl), (Nat.le_of_ble_eq_true rfl)⟩) hS (fun _ => ((mv_1)).symm) (fun _ H locs hI hS => ?_)
  have hI : Iw D A (w_Rn g (K 0) (fun j => K (j + 1) 0) s0 ++ (w_Bs g (K 1) s1 ++ (rest))) H := hI
  refine lv_if_ne (tgt := 20) hx hb d_Rn_type_15 (by decide) (fun hc => ?_) (fun hc => ?_)
  · have h := it_f h hc
    exact t_Rn_type_20 X (lv_sub hl [0, 1, 2] rfl) hI hS h
  · have h := it_t h hc
    exact t_Rn_type_18 X (lv_sub hl [] rfl) hI hS h
set_option maxRecDepth 100000 in
set_option maxHeartbeats 4000000 in
theorem t_Rn_type_0 {p : Program} {l : Launch} {e : Env} {s : State} {m : MethodId} {args : Array Value} {below : List Frame} {meth : Method} {c : Code} {D : va_G} {A : Nat → Prop} {g : Nat → ClassId} {rest : va_W} {K : Nat → Nat → Nat} {ls : Array Slot} {H : Heap} {locs : List Loc} {s0 : S_Rn} {s1 : S_Bs} {x1 : Int64} {x3 : Int32} {out : Int32 × S_Bs} (X : Cx p s m args meth c prog_1_method_2_code 5 ws_Rn_type R_Rn (some .boolean) D g) (hl : lv_has ls 5 [(0, .ref (K 0 0)), (1, .long x1), (3, .int x3)]) (hI : Iw D A (w_Rn g (K 0) (fun j => K (j + 1) 0) s0 ++ (w_Bs g (K 1) s1 ++ (rest))) H) (hS : va_S A s.heap H locs) (h : B_Rn_type_0  s0 s1 x1 x3 = some out) : W p l e (headSpec ws_Rn_type { frames := 1, cells := 0, slots := 0, locals := 22 }).room s m args below meth c H locs 0 0 (MQ below (QcI D A g out.1 (fun (_ : Unit) => w_Rn g (K 0) (fun j => K (j + 1) 0) s0 ++ (w_Bs g (K 1) out.2 ++ (rest)))) args s 0 0 A) (F0 m 0 ls []) := by
  have X1 := X
  obtain ⟨hx, hb, hml, hown, hts, hr, hlocks, hKK⟩ := X1
  have ht : ∀ w ∈ TB, w.before args s = true := fun w h => hts w (List.mem_cons_of_mem _ h)
  have hK := hKK.1
  unfold B_Rn_type_0 at h
  refine lv_iload_n hx hb d_Rn_type_0 rfl (lv_at hl 2 rfl) ?_
  obtain ⟨o1, ho2, h⟩ := bd_s h
  refine cl_i (W1 := fun (_ : Unit) => w_Rn g (K 0) (fun j => K (j + 1) 0) s0 ++ (w_Bs g (K 1) s1 ++ (rest))) (va_runS (As := [.int x3]) (rest := []) ⟨hx, hb, hml, hown, ht⟩ (c_Rn_isCount (l := l) (D := D) (A := A) (g := g) (rest := w_Rn g (K 0) (fun j => K (j + 1) 0) s0 ++ (w_Bs g (K 1) s1 ++ (rest)))  ho2) (va_cwS 1 ht (gd_S m_256 m_257 m_1 m_258) rfl rfl rfl (by decide +kernel) ⟨(Nat.le_of_ble_eq_true rfl), (Nat.le_of_ble_eq_true rfl)⟩) (prS hKK hI (List.Perm.refl _)) rfl rfl hl.1 rfl (lv_room (Nat.le_of_ble_eq_true rfl)) d_Rn_type_1 ⟨(Nat.le_of_ble_eq_true rfl), (Nat.le_of_ble_eq_true rfl)⟩) hS (fun _ => ((List.Perm.refl _)).symm) (fun _ H locs hI hS => ?_)
  have hI : Iw D A (w_Rn g (K 0) (fun j => K (j + 1) 0) s0 ++ (w_Bs g (K 1) s1 ++ (rest))) H := hI
  refine lv_if_eq (tgt := 18) hx hb d_Rn_type_4 (by decide) (fun hc => ?_) (fun hc => ?_)
  · have h := it_t h hc
    exact t_Rn_type_18 X (lv_sub hl [] rfl) hI hS h
  · have h := it_f h hc
    exact t_Rn_type_7 X (lv_sub hl [0, 1, 2] rfl) hI hS h
set_option maxRecDepth 100000 in
set_option maxHeartbeats 4000000 in
theorem c_Rn_type {l : Launch} {D : va_G} {A : Nat → Prop} {g : Nat → ClassId} {rest : va_W} {K : Nat → Nat → Nat} {s0 : S_Rn} {s1 : S_Bs} {x1 : Int64} {x3 : Int32} {out : Int32 × S_Bs} (h : F_Rn_type s0 s1 x1 x3 = some out) : Met l y_Rn_type ws_Rn_type { frames := 1, cells := 0, slots := 0, locals := 22 } (PcW D A g [.ref (K 0 0), .long x1, .int x3] (w_Rn g (K 0) (fun j => K (j + 1) 0) s0 ++ (w_Bs g (K 1) s1 ++ (rest)))) (QcI D A g out.1 (fun (_ : Unit) => w_Rn g (K 0) (fun j => K (j + 1) 0) s0 ++ (w_Bs g (K 1) out.2 ++ (rest)))) 0 0 A := by
  refine Met.ofW (cc := prog_1_method_2_code) (maxL := 5) (ret := (some .boolean)) (by decide) rfl ?_
  intro p e s m args below meth c s₁ B hml hv
  obtain ⟨rfl, hI, hK⟩ := hv
  have hl := lv_entry [.ref (K 0 0), .long x1, .int x3] (n := 5) (Nat.le_of_ble_eq_true rfl)
  rw [lg_entry_eq]
  generalize (lg_sl [.ref (K 0 0), .long x1, .int x3] ++ List.replicate (5 - (lg_sl [.ref (K 0 0), .long x1, .int x3]).length) Slot.unset).toArray = ls at hl ⊢
  have hl : lv_has ls 5 [(0, .ref (K 0 0)), (1, .long x1), (3, .int x3)] := hl
  exact t_Rn_type_0 ⟨B.exec, B.bytes, hml, findClass_of_methodNamed B.named, atoms_spec (ws := ws_Rn_type) B.pre, B.returns, B.notSynchronized, hK⟩ (lv_sub hl [0, 1, 2] rfl) hI va_S.rf h
def ws_Rn_clear : List Cond := .code y_Rn_clear prog_1_method_3_code 1 none :: TB
def B_Rn_clear_0 (s0 : S_Rn) (s1 : S_Bs) : Option S_Bs :=
  ((F_Bs_reset s1).bind fun o1 => some o1)
def F_Rn_clear (s0 : S_Rn) (s1 : S_Bs) : Option S_Bs := B_Rn_clear_0 s0 s1
set_option maxRecDepth 100000 in
set_option maxHeartbeats 4000000 in
theorem t_Rn_clear_0 {p : Program} {l : Launch} {e : Env} {s : State} {m : MethodId} {args : Array Value} {below : List Frame} {meth : Method} {c : Code} {D : va_G} {A : Nat → Prop} {g : Nat → ClassId} {rest : va_W} {K : Nat → Nat → Nat} {ls : Array Slot} {H : Heap} {locs : List Loc} {s0 : S_Rn} {s1 : S_Bs} {out : S_Bs} (X : Cx p s m args meth c prog_1_method_3_code 1 ws_Rn_clear R_Rn none D g) (hl : lv_has ls 1 [(0, .ref (K 0 0))]) (hI : Iw D A (w_Rn g (K 0) (fun j => K (j + 1) 0) s0 ++ (w_Bs g (K 1) s1 ++ (rest))) H) (hS : va_S A s.heap H locs) (h : B_Rn_clear_0  s0 s1 = some out) : W p l e (headSpec ws_Rn_clear { frames := 1, cells := 0, slots := 0, locals := 20 }).room s m args below meth c H locs 0 0 (MQ below (QcV D A g (fun (_ : Unit) => w_Rn g (K 0) (fun j => K (j + 1) 0) s0 ++ (w_Bs g (K 1) out ++ (rest)))) args s 0 0 A) (F0 m 0 ls []) := by
  have X1 := X
  obtain ⟨hx, hb, hml, hown, hts, hr, hlocks, hKK⟩ := X1
  have ht : ∀ w ∈ TB, w.before args s = true := fun w h => hts w (List.mem_cons_of_mem _ h)
  have hK := hKK.1
  unfold B_Rn_clear_0 at h
  refine lv_aload_n hx hb d_Rn_clear_0 rfl (lv_at hl 0 rfl) ?_
  refine va_get (D := D) (ci := 8) (v := .ref (K 1 0)) (C := R_Rn) (T := T_Rn) (N := 16) hx hb ht in_Rn hown hK hI.1 0 rfl rfl 0 (by decide) (ht _ m_203) (fun _ h9 => h9) rfl d_Rn_clear_1 ?_
  obtain ⟨o1, ho2, h⟩ := bd_s h
  refine cl_v (W1 := fun (_ : Unit) => w_Rn g (K 0) (fun j => K (j + 1) 0) s0 ++ (w_Bs g (K 1) o1 ++ (rest))) (va_runV (As := []) (rest := []) ⟨hx, hb, hml, hown, ht⟩ (c_Bs_reset (l := l) (D := D) (A := A) (g := g) (rest := w_Rn g (K 0) (fun j => K (j + 1) 0) s0 ++ (rest)) (a0 := K 1) ho2) (cwV 0 ht (gd_V m_274 m_275 m_276 m_2 m_277) rfl rfl rfl (by decide +kernel) ⟨(Nat.le_of_ble_eq_true rfl), (Nat.le_of_ble_eq_true rfl)⟩) (prV (ci := 0) (q0 := 0) hKK hI (mv_1) rfl rfl rfl) rfl rfl hl.1 rfl (lv_room (Nat.le_of_ble_eq_true rfl)) d_Rn_clear_4 ⟨(Nat.le_of_ble_eq_true rfl), (Nat.le_of_ble_eq_true rfl)⟩) hS (fun _ => ((mv_1)).symm) (fun _ H locs hI hS => ?_)
  have hI : Iw D A (w_Rn g (K 0) (fun j => K (j + 1) 0) s0 ++ (w_Bs g (K 1) o1 ++ (rest))) H := hI
  have h9 := Option.some.inj h
  subst h9
  exact W.vret hx hb hr (fun t ht hW => ⟨⟨(), rfl, trivial, ⟨by rw [ht]; exact hI, hKK.moved hW⟩⟩, hS.F ht⟩) hS.2.2 d_Rn_clear_7
set_option maxRecDepth 100000 in
set_option maxHeartbeats 4000000 in
theorem c_Rn_clear {l : Launch} {D : va_G} {A : Nat → Prop} {g : Nat → ClassId} {rest : va_W} {K : Nat → Nat → Nat} {s0 : S_Rn} {s1 : S_Bs} {out : S_Bs} (h : F_Rn_clear s0 s1 = some out) : Met l y_Rn_clear ws_Rn_clear { frames := 1, cells := 0, slots := 0, locals := 20 } (PcW D A g [.ref (K 0 0)] (w_Rn g (K 0) (fun j => K (j + 1) 0) s0 ++ (w_Bs g (K 1) s1 ++ (rest)))) (QcV D A g (fun (_ : Unit) => w_Rn g (K 0) (fun j => K (j + 1) 0) s0 ++ (w_Bs g (K 1) out ++ (rest)))) 0 0 A := by
  refine Met.ofW (cc := prog_1_method_3_code) (maxL := 1) (ret := none) (by decide) rfl ?_
  intro p e s m args below meth c s₁ B hml hv
  obtain ⟨rfl, hI, hK⟩ := hv
  have hl := lv_entry [.ref (K 0 0)] (n := 1) (Nat.le_of_ble_eq_true rfl)
  rw [lg_entry_eq]
  generalize (lg_sl [.ref (K 0 0)] ++ List.replicate (1 - (lg_sl [.ref (K 0 0)]).length) Slot.unset).toArray = ls at hl ⊢
  have hl : lv_has ls 1 [(0, .ref (K 0 0))] := hl
  exact t_Rn_clear_0 ⟨B.exec, B.bytes, hml, findClass_of_methodNamed B.named, atoms_spec (ws := ws_Rn_clear) B.pre, B.returns, B.notSynchronized, hK⟩ (lv_sub hl [0] rfl) hI va_S.rf h
def ws_Rn_begin : List Cond := .code y_Rn_begin prog_1_method_20_code 2 none :: TB
def B_Rn_begin_21 (s0 : S_Rn) (y0 : Int32) : Option S_Rn :=
  some (Rn_set_timer s0 y0)
def B_Rn_begin_16 (s0 : S_Rn) : Option S_Rn :=
  (B_Rn_begin_21 s0 (5 : Int32))
def B_Rn_begin_20 (s0 : S_Rn) : Option S_Rn :=
  (B_Rn_begin_21 s0 (0 : Int32))
def B_Rn_begin_11 (s0 : S_Rn) (x1 : Int32) : Option S_Rn :=
  (if x1 = (3 : Int32) then (B_Rn_begin_16 s0) else (B_Rn_begin_20 s0))
def B_Rn_begin_0 (s0 : S_Rn) (x1 : Int32) : Option S_Rn :=
  (if x1 = (1 : Int32) then (B_Rn_begin_16 (Rn_set_phase s0 x1)) else (B_Rn_begin_11 (Rn_set_phase s0 x1) x1))
def F_Rn_begin (s0 : S_Rn) (x1 : Int32) : Option S_Rn := B_Rn_begin_0 s0 x1
set_option maxRecDepth 100000 in
set_option maxHeartbeats 4000000 in
theorem t_Rn_begin_21 {p : Program} {l : Launch} {e : Env} {s : State} {m : MethodId} {args : Array Value} {below : List Frame} {meth : Method} {c : Code} {D : va_G} {A : Nat → Prop} {g : Nat → ClassId} {rest : va_W} {K : Nat → Nat → Nat} {ls : Array Slot} {H : Heap} {locs : List Loc} {s0 : S_Rn} {y0 : Int32} {out : S_Rn} (X : Cx p s m args meth c prog_1_method_20_code 2 ws_Rn_begin R_Rn none D g) (hl : lv_has ls 2 []) (hI : Iw D A (w_Rn g (K 0) (fun j => K (j + 1) 0) s0 ++ (rest)) H) (hS : va_S A s.heap H locs) (h : B_Rn_begin_21  s0 y0 = some out) : W p l e (headSpec ws_Rn_begin { frames := 0, cells := 0, slots := 0, locals := 0 }).room s m args below meth c H locs 0 0 (MQ below (QcV D A g (fun (_ : Unit) => w_Rn g (K 0) (fun j => K (j + 1) 0) out ++ (rest))) args s 0 0 A) (F0 m 21 ls [.int y0, .ref (K 0 0)]) := by
  have X1 := X
  obtain ⟨hx, hb, hml, hown, hts, hr, hlocks, hKK⟩ := X1
  have ht : ∀ w ∈ TB, w.before args s = true := fun w h => hts w (List.mem_cons_of_mem _ h)
  have hK := hKK.1
  unfold B_Rn_begin_21 at h
  refine va_put (D := D) (ci := 8) (v := .int y0) (ty := .int) (C := R_Rn) (T := T_Rn) (N := 16) hx hb ht in_Rn ty_Rn tyok_Rn nm_Rn hown hK hI.1 hI.2 hS 0 rfl rfl 14 (by decide) (ht _ m_217) (fun _ h9 => h9) rfl (by decide +kernel) rfl rfl (Nat.le_of_ble_eq_true rfl) d_Rn_begin_21 (fun H locs hP hD hS => ?_)
  have hI : Iw D A (w_Rn g (K 0) (fun j => K (j + 1) 0) (Rn_set_timer s0 y0) ++ (rest)) H := ⟨hP, hD⟩
  have h9 := Option.some.inj h
  subst h9
  exact W.vret hx hb hr (fun t ht hW => ⟨⟨(), rfl, trivial, ⟨by rw [ht]; exact hI, hKK.moved hW⟩⟩, hS.F ht⟩) hS.2.2 d_Rn_begin_24
set_option maxRecDepth 100000 in
set_option maxHeartbeats 4000000 in
theorem t_Rn_begin_16 {p : Program} {l : Launch} {e : Env} {s : State} {m : MethodId} {args : Array Value} {below : List Frame} {meth : Method} {c : Code} {D : va_G} {A : Nat → Prop} {g : Nat → ClassId} {rest : va_W} {K : Nat → Nat → Nat} {ls : Array Slot} {H : Heap} {locs : List Loc} {s0 : S_Rn} {out : S_Rn} (X : Cx p s m args meth c prog_1_method_20_code 2 ws_Rn_begin R_Rn none D g) (hl : lv_has ls 2 []) (hI : Iw D A (w_Rn g (K 0) (fun j => K (j + 1) 0) s0 ++ (rest)) H) (hS : va_S A s.heap H locs) (h : B_Rn_begin_16  s0 = some out) : W p l e (headSpec ws_Rn_begin { frames := 0, cells := 0, slots := 0, locals := 0 }).room s m args below meth c H locs 0 0 (MQ below (QcV D A g (fun (_ : Unit) => w_Rn g (K 0) (fun j => K (j + 1) 0) out ++ (rest))) args s 0 0 A) (F0 m 16 ls [.ref (K 0 0)]) := by
  have X1 := X
  obtain ⟨hx, hb, hml, hown, hts, hr, hlocks, hKK⟩ := X1
  have ht : ∀ w ∈ TB, w.before args s = true := fun w h => hts w (List.mem_cons_of_mem _ h)
  have hK := hKK.1
  unfold B_Rn_begin_16 at h
  refine lv_iconst (v := 5) hx hb d_Rn_begin_16 (by decide) ?_
  refine lv_goto (tgt := 21) hx hb d_Rn_begin_17 (by decide) ?_
  exact t_Rn_begin_21 X (lv_sub hl [] rfl) hI hS h
set_option maxRecDepth 100000 in
set_option maxHeartbeats 4000000 in
theorem t_Rn_begin_20 {p : Program} {l : Launch} {e : Env} {s : State} {m : MethodId} {args : Array Value} {below : List Frame} {meth : Method} {c : Code} {D : va_G} {A : Nat → Prop} {g : Nat → ClassId} {rest : va_W} {K : Nat → Nat → Nat} {ls : Array Slot} {H : Heap} {locs : List Loc} {s0 : S_Rn} {out : S_Rn} (X : Cx p s m args meth c prog_1_method_20_code 2 ws_Rn_begin R_Rn none D g) (hl : lv_has ls 2 []) (hI : Iw D A (w_Rn g (K 0) (fun j => K (j + 1) 0) s0 ++ (rest)) H) (hS : va_S A s.heap H locs) (h : B_Rn_begin_20  s0 = some out) : W p l e (headSpec ws_Rn_begin { frames := 0, cells := 0, slots := 0, locals := 0 }).room s m args below meth c H locs 0 0 (MQ below (QcV D A g (fun (_ : Unit) => w_Rn g (K 0) (fun j => K (j + 1) 0) out ++ (rest))) args s 0 0 A) (F0 m 20 ls [.ref (K 0 0)]) := by
  have X1 := X
  obtain ⟨hx, hb, hml, hown, hts, hr, hlocks, hKK⟩ := X1
  have ht : ∀ w ∈ TB, w.before args s = true := fun w h => hts w (List.mem_cons_of_mem _ h)
  have hK := hKK.1
  unfold B_Rn_begin_20 at h
  refine lv_iconst (v := 0) hx hb d_Rn_begin_20 (by decide) ?_
  exact t_Rn_begin_21 X (lv_sub hl [] rfl) hI hS h
set_option maxRecDepth 100000 in
set_option maxHeartbeats 4000000 in
theorem t_Rn_begin_11 {p : Program} {l : Launch} {e : Env} {s : State} {m : MethodId} {args : Array Value} {below : List Frame} {meth : Method} {c : Code} {D : va_G} {A : Nat → Prop} {g : Nat → ClassId} {rest : va_W} {K : Nat → Nat → Nat} {ls : Array Slot} {H : Heap} {locs : List Loc} {s0 : S_Rn} {x1 : Int32} {out : S_Rn} (X : Cx p s m args meth c prog_1_method_20_code 2 ws_Rn_begin R_Rn none D g) (hl : lv_has ls 2 [(1, .int x1)]) (hI : Iw D A (w_Rn g (K 0) (fun j => K (j + 1) 0) s0 ++ (rest)) H) (hS : va_S A s.heap H locs) (h : B_Rn_begin_11  s0 x1 = some out) : W p l e (headSpec ws_Rn_begin { frames := 0, cells := 0, slots := 0, locals := 0 }).room s m args below meth c H locs 0 0 (MQ below (QcV D A g (fun (_ : Unit) => w_Rn g (K 0) (fun j => K (j + 1) 0) out ++ (rest))) args s 0 0 A) (F0 m 11 ls [.ref (K 0 0)]) := by
  have X1 := X
  obtain ⟨hx, hb, hml, hown, hts, hr, hlocks, hKK⟩ := X1
  have ht : ∀ w ∈ TB, w.before args s = true := fun w h => hts w (List.mem_cons_of_mem _ h)
  have hK := hKK.1
  unfold B_Rn_begin_11 at h
  refine lv_iload_n hx hb d_Rn_begin_11 rfl (lv_at hl 0 rfl) ?_
  refine lv_iconst (v := 3) hx hb d_Rn_begin_12 (by decide) ?_
  refine lv_icmp_ne (tgt := 20) hx hb d_Rn_begin_13 (by decide) (fun hc => ?_) (fun hc => ?_)
  · have h := it_f h hc
    exact t_Rn_begin_20 X (lv_sub hl [] rfl) hI hS h
  · have h := it_t h hc
    exact t_Rn_begin_16 X (lv_sub hl [] rfl) hI hS h
set_option maxRecDepth 100000 in
set_option maxHeartbeats 4000000 in
theorem t_Rn_begin_0 {p : Program} {l : Launch} {e : Env} {s : State} {m : MethodId} {args : Array Value} {below : List Frame} {meth : Method} {c : Code} {D : va_G} {A : Nat → Prop} {g : Nat → ClassId} {rest : va_W} {K : Nat → Nat → Nat} {ls : Array Slot} {H : Heap} {locs : List Loc} {s0 : S_Rn} {x1 : Int32} {out : S_Rn} (X : Cx p s m args meth c prog_1_method_20_code 2 ws_Rn_begin R_Rn none D g) (hl : lv_has ls 2 [(0, .ref (K 0 0)), (1, .int x1)]) (hI : Iw D A (w_Rn g (K 0) (fun j => K (j + 1) 0) s0 ++ (rest)) H) (hS : va_S A s.heap H locs) (h : B_Rn_begin_0  s0 x1 = some out) : W p l e (headSpec ws_Rn_begin { frames := 0, cells := 0, slots := 0, locals := 0 }).room s m args below meth c H locs 0 0 (MQ below (QcV D A g (fun (_ : Unit) => w_Rn g (K 0) (fun j => K (j + 1) 0) out ++ (rest))) args s 0 0 A) (F0 m 0 ls []) := by
  have X1 := X
  obtain ⟨hx, hb, hml, hown, hts, hr, hlocks, hKK⟩ := X1
  have ht : ∀ w ∈ TB, w.before args s = true := fun w h => hts w (List.mem_cons_of_mem _ h)
  have hK := hKK.1
  unfold B_Rn_begin_0 at h
  refine lv_aload_n hx hb d_Rn_begin_0 rfl (lv_at hl 0 rfl) ?_
  refine lv_iload_n hx hb d_Rn_begin_1 rfl (lv_at hl 1 rfl) ?_
  refine va_put (D := D) (ci := 8) (v := .int x1) (ty := .int) (C := R_Rn) (T := T_Rn) (N := 16) hx hb ht in_Rn ty_Rn tyok_Rn nm_Rn hown hK hI.1 hI.2 hS 0 rfl rfl 13 (by decide) (ht _ m_216) (fun _ h9 => h9) rfl (by decide +kernel) rfl rfl (Nat.le_of_ble_eq_true rfl) d_Rn_begin_2 (fun H locs hP hD hS => ?_)
  have hI : Iw D A (w_Rn g (K 0) (fun j => K (j + 1) 0) (Rn_set_phase s0 x1) ++ (rest)) H := ⟨hP, hD⟩
  refine lv_aload_n hx hb d_Rn_begin_5 rfl (lv_at hl 0 rfl) ?_
  refine lv_iload_n hx hb d_Rn_begin_6 rfl (lv_at hl 1 rfl) ?_
  refine lv_iconst (v := 1) hx hb d_Rn_begin_7 (by decide) ?_
  refine lv_icmp_eq (tgt := 16) hx hb d_Rn_begin_8 (by decide) (fun hc => ?_) (fun hc => ?_)
  · have h := it_t h hc
    exact t_Rn_begin_16 X (lv_sub hl [] rfl) hI hS h
  · have h := it_f h hc
    exact t_Rn_begin_11 X (lv_sub hl [1] rfl) hI hS h
set_option maxRecDepth 100000 in
set_option maxHeartbeats 4000000 in
theorem c_Rn_begin {l : Launch} {D : va_G} {A : Nat → Prop} {g : Nat → ClassId} {rest : va_W} {K : Nat → Nat → Nat} {s0 : S_Rn} {x1 : Int32} {out : S_Rn} (h : F_Rn_begin s0 x1 = some out) : Met l y_Rn_begin ws_Rn_begin { frames := 0, cells := 0, slots := 0, locals := 0 } (PcW D A g [.ref (K 0 0), .int x1] (w_Rn g (K 0) (fun j => K (j + 1) 0) s0 ++ (rest))) (QcV D A g (fun (_ : Unit) => w_Rn g (K 0) (fun j => K (j + 1) 0) out ++ (rest))) 0 0 A := by
  refine Met.ofW (cc := prog_1_method_20_code) (maxL := 2) (ret := none) (by decide) rfl ?_
  intro p e s m args below meth c s₁ B hml hv
  obtain ⟨rfl, hI, hK⟩ := hv
  have hl := lv_entry [.ref (K 0 0), .int x1] (n := 2) (Nat.le_of_ble_eq_true rfl)
  rw [lg_entry_eq]
  generalize (lg_sl [.ref (K 0 0), .int x1] ++ List.replicate (2 - (lg_sl [.ref (K 0 0), .int x1]).length) Slot.unset).toArray = ls at hl ⊢
  have hl : lv_has ls 2 [(0, .ref (K 0 0)), (1, .int x1)] := hl
  exact t_Rn_begin_0 ⟨B.exec, B.bytes, hml, findClass_of_methodNamed B.named, atoms_spec (ws := ws_Rn_begin) B.pre, B.returns, B.notSynchronized, hK⟩ (lv_sub hl [0, 1] rfl) hI va_S.rf h
def ws_Rn_open : List Cond := .code y_Rn_open prog_1_method_7_code 1 (some .boolean) :: TB
def B_Rn_open_9 (s0 : S_Rn) : Option (Int32 × S_Rn) :=
  ((F_Rn_begin s0 (1 : Int32)).bind fun o1 => some ((1 : Int32), o1))
def B_Rn_open_7 (s0 : S_Rn) : Option (Int32 × S_Rn) :=
  some ((0 : Int32), s0)
def B_Rn_open_0 (s0 : S_Rn) : Option (Int32 × S_Rn) :=
  (if (Rn_phase s0) = 0 then (B_Rn_open_9 s0) else (B_Rn_open_7 s0))
def F_Rn_open (s0 : S_Rn) : Option (Int32 × S_Rn) := B_Rn_open_0 s0
set_option maxRecDepth 100000 in
set_option maxHeartbeats 4000000 in
theorem t_Rn_open_9 {p : Program} {l : Launch} {e : Env} {s : State} {m : MethodId} {args : Array Value} {below : List Frame} {meth : Method} {c : Code} {D : va_G} {A : Nat → Prop} {g : Nat → ClassId} {rest : va_W} {K : Nat → Nat → Nat} {ls : Array Slot} {H : Heap} {locs : List Loc} {s0 : S_Rn} {out : Int32 × S_Rn} (X : Cx p s m args meth c prog_1_method_7_code 1 ws_Rn_open R_Rn (some .boolean) D g) (hl : lv_has ls 1 [(0, .ref (K 0 0))]) (hI : Iw D A (w_Rn g (K 0) (fun j => K (j + 1) 0) s0 ++ (rest)) H) (hS : va_S A s.heap H locs) (h : B_Rn_open_9  s0 = some out) : W p l e (headSpec ws_Rn_open { frames := 1, cells := 0, slots := 0, locals := 21 }).room s m args below meth c H locs 0 0 (MQ below (QcI D A g out.1 (fun (_ : Unit) => w_Rn g (K 0) (fun j => K (j + 1) 0) out.2 ++ (rest))) args s 0 0 A) (F0 m 9 ls []) := by
  have X1 := X
  obtain ⟨hx, hb, hml, hown, hts, hr, hlocks, hKK⟩ := X1
  have ht : ∀ w ∈ TB, w.before args s = true := fun w h => hts w (List.mem_cons_of_mem _ h)
  have hK := hKK.1
  unfold B_Rn_open_9 at h
  refine lv_aload_n hx hb d_Rn_open_9 rfl (lv_at hl 0 rfl) ?_
  refine lv_iconst (v := 1) hx hb d_Rn_open_10 (by decide) ?_
  obtain ⟨o1, ho2, h⟩ := bd_s h
  refine cl_v (W1 := fun (_ : Unit) => w_Rn g (K 0) (fun j => K (j + 1) 0) o1 ++ (rest)) (va_runV (As := [.int (1 : Int32)]) (rest := []) ⟨hx, hb, hml, hown, ht⟩ (c_Rn_begin (l := l) (D := D) (A := A) (g := g) (rest := rest) (K := K) ho2) (cwV 1 ht (gd_V m_282 m_284 mp_0 m_1 m_285) rfl rfl rfl (by decide +kernel) ⟨(Nat.le_of_ble_eq_true rfl), (Nat.le_of_ble_eq_true rfl)⟩) (prV (ci := 8) (q0 := 0) hKK hI (List.Perm.refl _) rfl rfl rfl) rfl rfl hl.1 rfl (lv_room (Nat.le_of_ble_eq_true rfl)) d_Rn_open_11 ⟨(Nat.le_of_ble_eq_true rfl), (Nat.le_of_ble_eq_true rfl)⟩) hS (fun _ => ((List.Perm.refl _)).symm) (fun _ H locs hI hS => ?_)
  have hI : Iw D A (w_Rn g (K 0) (fun j => K (j + 1) 0) o1 ++ (rest)) H := hI
  refine lv_iconst (v := 1) hx hb d_Rn_open_14 (by decide) ?_
  have h9 := Option.some.inj h
  subst h9
  exact W.zret (v := (1 : Int32)) hx hb hr rfl (fun t ht hW => ⟨⟨_, (), rfl, rfl, ⟨by rw [ht]; exact hI, hKK.moved hW⟩⟩, hS.F ht⟩) hS.2.2 d_Rn_open_15
set_option maxRecDepth 100000 in
set_option maxHeartbeats 4000000 in
theorem t_Rn_open_7 {p : Program} {l : Launch} {e : Env} {s : State} {m : MethodId} {args : Array Value} {below : List Frame} {meth : Method} {c : Code} {D : va_G} {A : Nat → Prop} {g : Nat → ClassId} {rest : va_W} {K : Nat → Nat → Nat} {ls : Array Slot} {H : Heap} {locs : List Loc} {s0 : S_Rn} {out : Int32 × S_Rn} (X : Cx p s m args meth c prog_1_method_7_code 1 ws_Rn_open R_Rn (some .boolean) D g) (hl : lv_has ls 1 []) (hI : Iw D A (w_Rn g (K 0) (fun j => K (j + 1) 0) s0 ++ (rest)) H) (hS : va_S A s.heap H locs) (h : B_Rn_open_7  s0 = some out) : W p l e (headSpec ws_Rn_open { frames := 1, cells := 0, slots := 0, locals := 21 }).room s m args below meth c H locs 0 0 (MQ below (QcI D A g out.1 (fun (_ : Unit) => w_Rn g (K 0) (fun j => K (j + 1) 0) out.2 ++ (rest))) args s 0 0 A) (F0 m 7 ls []) := by
  have X1 := X
  obtain ⟨hx, hb, hml, hown, hts, hr, hlocks, hKK⟩ := X1
  have ht : ∀ w ∈ TB, w.before args s = true := fun w h => hts w (List.mem_cons_of_mem _ h)
  have hK := hKK.1
  unfold B_Rn_open_7 at h
  refine lv_iconst (v := 0) hx hb d_Rn_open_7 (by decide) ?_
  have h9 := Option.some.inj h
  subst h9
  exact W.zret (v := (0 : Int32)) hx hb hr rfl (fun t ht hW => ⟨⟨_, (), rfl, rfl, ⟨by rw [ht]; exact hI, hKK.moved hW⟩⟩, hS.F ht⟩) hS.2.2 d_Rn_open_8
set_option maxRecDepth 100000 in
set_option maxHeartbeats 4000000 in
theorem t_Rn_open_0 {p : Program} {l : Launch} {e : Env} {s : State} {m : MethodId} {args : Array Value} {below : List Frame} {meth : Method} {c : Code} {D : va_G} {A : Nat → Prop} {g : Nat → ClassId} {rest : va_W} {K : Nat → Nat → Nat} {ls : Array Slot} {H : Heap} {locs : List Loc} {s0 : S_Rn} {out : Int32 × S_Rn} (X : Cx p s m args meth c prog_1_method_7_code 1 ws_Rn_open R_Rn (some .boolean) D g) (hl : lv_has ls 1 [(0, .ref (K 0 0))]) (hI : Iw D A (w_Rn g (K 0) (fun j => K (j + 1) 0) s0 ++ (rest)) H) (hS : va_S A s.heap H locs) (h : B_Rn_open_0  s0 = some out) : W p l e (headSpec ws_Rn_open { frames := 1, cells := 0, slots := 0, locals := 21 }).room s m args below meth c H locs 0 0 (MQ below (QcI D A g out.1 (fun (_ : Unit) => w_Rn g (K 0) (fun j => K (j + 1) 0) out.2 ++ (rest))) args s 0 0 A) (F0 m 0 ls []) := by
  have X1 := X
  obtain ⟨hx, hb, hml, hown, hts, hr, hlocks, hKK⟩ := X1
  have ht : ∀ w ∈ TB, w.before args s = true := fun w h => hts w (List.mem_cons_of_mem _ h)
  have hK := hKK.1
  unfold B_Rn_open_0 at h
  refine lv_aload_n hx hb d_Rn_open_0 rfl (lv_at hl 0 rfl) ?_
  refine va_get (D := D) (ci := 8) (v := .int (Rn_phase s0)) (C := R_Rn) (T := T_Rn) (N := 16) hx hb ht in_Rn hown hK hI.1 0 rfl rfl 13 (by decide) (ht _ m_216) (fun _ h9 => h9) rfl d_Rn_open_1 ?_
  refine lv_if_eq (tgt := 9) hx hb d_Rn_open_4 (by decide) (fun hc => ?_) (fun hc => ?_)
  · have h := it_t h hc
    exact t_Rn_open_9 X (lv_sub hl [0] rfl) hI hS h
  · have h := it_f h hc
    exact t_Rn_open_7 X (lv_sub hl [] rfl) hI hS h
set_option maxRecDepth 100000 in
set_option maxHeartbeats 4000000 in
theorem c_Rn_open {l : Launch} {D : va_G} {A : Nat → Prop} {g : Nat → ClassId} {rest : va_W} {K : Nat → Nat → Nat} {s0 : S_Rn} {out : Int32 × S_Rn} (h : F_Rn_open s0 = some out) : Met l y_Rn_open ws_Rn_open { frames := 1, cells := 0, slots := 0, locals := 21 } (PcW D A g [.ref (K 0 0)] (w_Rn g (K 0) (fun j => K (j + 1) 0) s0 ++ (rest))) (QcI D A g out.1 (fun (_ : Unit) => w_Rn g (K 0) (fun j => K (j + 1) 0) out.2 ++ (rest))) 0 0 A := by
  refine Met.ofW (cc := prog_1_method_7_code) (maxL := 1) (ret := (some .boolean)) (by decide) rfl ?_
  intro p e s m args below meth c s₁ B hml hv
  obtain ⟨rfl, hI, hK⟩ := hv
  have hl := lv_entry [.ref (K 0 0)] (n := 1) (Nat.le_of_ble_eq_true rfl)
  rw [lg_entry_eq]
  generalize (lg_sl [.ref (K 0 0)] ++ List.replicate (1 - (lg_sl [.ref (K 0 0)]).length) Slot.unset).toArray = ls at hl ⊢
  have hl : lv_has ls 1 [(0, .ref (K 0 0))] := hl
  exact t_Rn_open_0 ⟨B.exec, B.bytes, hml, findClass_of_methodNamed B.named, atoms_spec (ws := ws_Rn_open) B.pre, B.returns, B.notSynchronized, hK⟩ (lv_sub hl [0] rfl) hI va_S.rf h
def ws_Rn_shut : List Cond := .code y_Rn_shut prog_1_method_21_code 1 none :: TB
def B_Rn_shut_0 (s0 : S_Rn) (s1 : S_Bs) (s2 : S_Mg) (s3 : S_Bs) : Option (S_Rn × S_Bs × S_Mg × S_Bs) :=
  ((F_Rn_begin s0 (0 : Int32)).bind fun o1 => ((F_Bs_reset s1).bind fun o3 => ((F_Bs_reset s3).bind fun o5 => ((F_Mg_reset s2).bind fun o7 => some (o1, o3, o7, o5)))))
def F_Rn_shut (s0 : S_Rn) (s1 : S_Bs) (s2 : S_Mg) (s3 : S_Bs) : Option (S_Rn × S_Bs × S_Mg × S_Bs) := B_Rn_shut_0 s0 s1 s2 s3
set_option maxRecDepth 100000 in
set_option maxHeartbeats 4000000 in
theorem t_Rn_shut_0 {p : Program} {l : Launch} {e : Env} {s : State} {m : MethodId} {args : Array Value} {below : List Frame} {meth : Method} {c : Code} {D : va_G} {A : Nat → Prop} {g : Nat → ClassId} {rest : va_W} {K : Nat → Nat → Nat} {ls : Array Slot} {H : Heap} {locs : List Loc} {s0 : S_Rn} {s1 : S_Bs} {s2 : S_Mg} {s3 : S_Bs} {out : S_Rn × S_Bs × S_Mg × S_Bs} (X : Cx p s m args meth c prog_1_method_21_code 1 ws_Rn_shut R_Rn none D g) (hl : lv_has ls 1 [(0, .ref (K 0 0))]) (hI : Iw D A (w_Rn g (K 0) (fun j => K (j + 1) 0) s0 ++ (w_Bs g (K 4) s1 ++ (w_Mg g (K 9) s2 ++ (w_Bs g (K 5) s3 ++ (rest))))) H) (hS : va_S A s.heap H locs) (h : B_Rn_shut_0  s0 s1 s2 s3 = some out) : W p l e (headSpec ws_Rn_shut { frames := 1, cells := 0, slots := 0, locals := 21 }).room s m args below meth c H locs 0 0 (MQ below (QcV D A g (fun (_ : Unit) => w_Rn g (K 0) (fun j => K (j + 1) 0) out.1 ++ (w_Bs g (K 4) out.2.1 ++ (w_Mg g (K 9) out.2.2.1 ++ (w_Bs g (K 5) out.2.2.2 ++ (rest)))))) args s 0 0 A) (F0 m 0 ls []) := by
  have X1 := X
  obtain ⟨hx, hb, hml, hown, hts, hr, hlocks, hKK⟩ := X1
  have ht : ∀ w ∈ TB, w.before args s = true := fun w h => hts w (List.mem_cons_of_mem _ h)
  have hK := hKK.1
  unfold B_Rn_shut_0 at h
  refine lv_aload_n hx hb d_Rn_shut_0 rfl (lv_at hl 0 rfl) ?_
  refine lv_iconst (v := 0) hx hb d_Rn_shut_1 (by decide) ?_
  obtain ⟨o1, ho2, h⟩ := bd_s h
  refine cl_v (W1 := fun (_ : Unit) => w_Rn g (K 0) (fun j => K (j + 1) 0) o1 ++ (w_Bs g (K 4) s1 ++ (w_Mg g (K 9) s2 ++ (w_Bs g (K 5) s3 ++ (rest))))) (va_runV (As := [.int (0 : Int32)]) (rest := []) ⟨hx, hb, hml, hown, ht⟩ (c_Rn_begin (l := l) (D := D) (A := A) (g := g) (rest := w_Bs g (K 4) s1 ++ (w_Mg g (K 9) s2 ++ (w_Bs g (K 5) s3 ++ (rest)))) (K := K) ho2) (cwV 1 ht (gd_V m_282 m_284 mp_0 m_1 m_285) rfl rfl rfl (by decide +kernel) ⟨(Nat.le_of_ble_eq_true rfl), (Nat.le_of_ble_eq_true rfl)⟩) (prV (ci := 8) (q0 := 0) hKK hI (List.Perm.refl _) rfl rfl rfl) rfl rfl hl.1 rfl (lv_room (Nat.le_of_ble_eq_true rfl)) d_Rn_shut_2 ⟨(Nat.le_of_ble_eq_true rfl), (Nat.le_of_ble_eq_true rfl)⟩) hS (fun _ => ((List.Perm.refl _)).symm) (fun _ H locs hI hS => ?_)
  have hI : Iw D A (w_Rn g (K 0) (fun j => K (j + 1) 0) o1 ++ (w_Bs g (K 4) s1 ++ (w_Mg g (K 9) s2 ++ (w_Bs g (K 5) s3 ++ (rest))))) H := hI
  refine lv_aload_n hx hb d_Rn_shut_5 rfl (lv_at hl 0 rfl) ?_
  refine va_get (D := D) (ci := 8) (v := .ref (K 4 0)) (C := R_Rn) (T := T_Rn) (N := 16) hx hb ht in_Rn hown hK hI.1 0 rfl rfl 3 (by decide) (ht _ m_206) (fun _ h9 => h9) rfl d_Rn_shut_6 ?_
  obtain ⟨o3, ho4, h⟩ := bd_s h
  refine cl_v (W1 := fun (_ : Unit) => w_Rn g (K 0) (fun j => K (j + 1) 0) o1 ++ (w_Bs g (K 4) o3 ++ (w_Mg g (K 9) s2 ++ (w_Bs g (K 5) s3 ++ (rest))))) (va_runV (As := []) (rest := []) ⟨hx, hb, hml, hown, ht⟩ (c_Bs_reset (l := l) (D := D) (A := A) (g := g) (rest := w_Rn g (K 0) (fun j => K (j + 1) 0) o1 ++ (w_Mg g (K 9) s2 ++ (w_Bs g (K 5) s3 ++ (rest)))) (a0 := K 4) ho4) (cwV 0 ht (gd_V m_274 m_275 m_276 m_2 m_277) rfl rfl rfl (by decide +kernel) ⟨(Nat.le_of_ble_eq_true rfl), (Nat.le_of_ble_eq_true rfl)⟩) (prV (ci := 0) (q0 := 0) hKK hI (mv_1) rfl rfl rfl) rfl rfl hl.1 rfl (lv_room (Nat.le_of_ble_eq_true rfl)) d_Rn_shut_9 ⟨(Nat.le_of_ble_eq_true rfl), (Nat.le_of_ble_eq_true rfl)⟩) hS (fun _ => ((mv_1)).symm) (fun _ H locs hI hS => ?_)
  have hI : Iw D A (w_Rn g (K 0) (fun j => K (j + 1) 0) o1 ++ (w_Bs g (K 4) o3 ++ (w_Mg g (K 9) s2 ++ (w_Bs g (K 5) s3 ++ (rest))))) H := hI
  refine lv_aload_n hx hb d_Rn_shut_12 rfl (lv_at hl 0 rfl) ?_
  refine va_get (D := D) (ci := 8) (v := .ref (K 5 0)) (C := R_Rn) (T := T_Rn) (N := 16) hx hb ht in_Rn hown hK hI.1 0 rfl rfl 4 (by decide) (ht _ m_207) (fun _ h9 => h9) rfl d_Rn_shut_13 ?_
  obtain ⟨o5, ho6, h⟩ := bd_s h
  refine cl_v (W1 := fun (_ : Unit) => w_Rn g (K 0) (fun j => K (j + 1) 0) o1 ++ (w_Bs g (K 4) o3 ++ (w_Mg g (K 9) s2 ++ (w_Bs g (K 5) o5 ++ (rest))))) (va_runV (As := []) (rest := []) ⟨hx, hb, hml, hown, ht⟩ (c_Bs_reset (l := l) (D := D) (A := A) (g := g) (rest := w_Rn g (K 0) (fun j => K (j + 1) 0) o1 ++ (w_Bs g (K 4) o3 ++ (w_Mg g (K 9) s2 ++ (rest)))) (a0 := K 5) ho6) (cwV 0 ht (gd_V m_274 m_275 m_276 m_2 m_277) rfl rfl rfl (by decide +kernel) ⟨(Nat.le_of_ble_eq_true rfl), (Nat.le_of_ble_eq_true rfl)⟩) (prV (ci := 0) (q0 := 0) hKK hI (mv_3) rfl rfl rfl) rfl rfl hl.1 rfl (lv_room (Nat.le_of_ble_eq_true rfl)) d_Rn_shut_16 ⟨(Nat.le_of_ble_eq_true rfl), (Nat.le_of_ble_eq_true rfl)⟩) hS (fun _ => ((mv_3)).symm) (fun _ H locs hI hS => ?_)
  have hI : Iw D A (w_Rn g (K 0) (fun j => K (j + 1) 0) o1 ++ (w_Bs g (K 4) o3 ++ (w_Mg g (K 9) s2 ++ (w_Bs g (K 5) o5 ++ (rest))))) H := hI
  refine lv_aload_n hx hb d_Rn_shut_19 rfl (lv_at hl 0 rfl) ?_
  refine va_get (D := D) (ci := 8) (v := .ref (K 9 0)) (C := R_Rn) (T := T_Rn) (N := 16) hx hb ht in_Rn hown hK hI.1 0 rfl rfl 8 (by decide) (ht _ m_211) (fun _ h9 => h9) rfl d_Rn_shut_20 ?_
  obtain ⟨o7, ho8, h⟩ := bd_s h
  refine cl_v (W1 := fun (_ : Unit) => w_Rn g (K 0) (fun j => K (j + 1) 0) o1 ++ (w_Bs g (K 4) o3 ++ (w_Mg g (K 9) o7 ++ (w_Bs g (K 5) o5 ++ (rest))))) (va_runV (As := []) (rest := []) ⟨hx, hb, hml, hown, ht⟩ (c_Mg_reset (l := l) (D := D) (A := A) (g := g) (rest := w_Rn g (K 0) (fun j => K (j + 1) 0) o1 ++ (w_Bs g (K 4) o3 ++ (w_Bs g (K 5) o5 ++ (rest)))) (a0 := K 9) ho8) (cwV 0 ht (gd_V m_294 m_295 m_296 m_5 m_297) rfl rfl rfl (by decide +kernel) ⟨(Nat.le_of_ble_eq_true rfl), (Nat.le_of_ble_eq_true rfl)⟩) (prV (ci := 3) (q0 := 0) hKK hI (mv_2) rfl rfl rfl) rfl rfl hl.1 rfl (lv_room (Nat.le_of_ble_eq_true rfl)) d_Rn_shut_23 ⟨(Nat.le_of_ble_eq_true rfl), (Nat.le_of_ble_eq_true rfl)⟩) hS (fun _ => ((mv_2)).symm) (fun _ H locs hI hS => ?_)
  have hI : Iw D A (w_Rn g (K 0) (fun j => K (j + 1) 0) o1 ++ (w_Bs g (K 4) o3 ++ (w_Mg g (K 9) o7 ++ (w_Bs g (K 5) o5 ++ (rest))))) H := hI
  have h9 := Option.some.inj h
  subst h9
  exact W.vret hx hb hr (fun t ht hW => ⟨⟨(), rfl, trivial, ⟨by rw [ht]; exact hI, hKK.moved hW⟩⟩, hS.F ht⟩) hS.2.2 d_Rn_shut_26
set_option maxRecDepth 100000 in
set_option maxHeartbeats 4000000 in
theorem c_Rn_shut {l : Launch} {D : va_G} {A : Nat → Prop} {g : Nat → ClassId} {rest : va_W} {K : Nat → Nat → Nat} {s0 : S_Rn} {s1 : S_Bs} {s2 : S_Mg} {s3 : S_Bs} {out : S_Rn × S_Bs × S_Mg × S_Bs} (h : F_Rn_shut s0 s1 s2 s3 = some out) : Met l y_Rn_shut ws_Rn_shut { frames := 1, cells := 0, slots := 0, locals := 21 } (PcW D A g [.ref (K 0 0)] (w_Rn g (K 0) (fun j => K (j + 1) 0) s0 ++ (w_Bs g (K 4) s1 ++ (w_Mg g (K 9) s2 ++ (w_Bs g (K 5) s3 ++ (rest)))))) (QcV D A g (fun (_ : Unit) => w_Rn g (K 0) (fun j => K (j + 1) 0) out.1 ++ (w_Bs g (K 4) out.2.1 ++ (w_Mg g (K 9) out.2.2.1 ++ (w_Bs g (K 5) out.2.2.2 ++ (rest)))))) 0 0 A := by
  refine Met.ofW (cc := prog_1_method_21_code) (maxL := 1) (ret := none) (by decide) rfl ?_
  intro p e s m args below meth c s₁ B hml hv
  obtain ⟨rfl, hI, hK⟩ := hv
  have hl := lv_entry [.ref (K 0 0)] (n := 1) (Nat.le_of_ble_eq_true rfl)
  rw [lg_entry_eq]
  generalize (lg_sl [.ref (K 0 0)] ++ List.replicate (1 - (lg_sl [.ref (K 0 0)]).length) Slot.unset).toArray = ls at hl ⊢
  have hl : lv_has ls 1 [(0, .ref (K 0 0))] := hl
  exact t_Rn_shut_0 ⟨B.exec, B.bytes, hml, findClass_of_methodNamed B.named, atoms_spec (ws := ws_Rn_shut) B.pre, B.returns, B.notSynchronized, hK⟩ (lv_sub hl [0] rfl) hI va_S.rf h
def ws_Rn_close : List Cond := .code y_Rn_close prog_1_method_8_code 1 (some .boolean) :: TB
def B_Rn_close_9 (s0 : S_Rn) (s1 : S_Bs) (s2 : S_Mg) (s3 : S_Bs) : Option (Int32 × S_Rn × S_Bs × S_Mg × S_Bs) :=
  ((F_Rn_shut s0 s1 s2 s3).bind fun o1 => some ((1 : Int32), o1.1, o1.2.1, o1.2.2.1, o1.2.2.2))
def B_Rn_close_7 (s0 : S_Rn) (s1 : S_Bs) (s2 : S_Mg) (s3 : S_Bs) : Option (Int32 × S_Rn × S_Bs × S_Mg × S_Bs) :=
  some ((0 : Int32), s0, s1, s2, s3)
def B_Rn_close_0 (s0 : S_Rn) (s1 : S_Bs) (s2 : S_Mg) (s3 : S_Bs) : Option (Int32 × S_Rn × S_Bs × S_Mg × S_Bs) :=
  (if (Rn_phase s0) = 0 then (B_Rn_close_7 s0 s1 s2 s3) else (B_Rn_close_9 s0 s1 s2 s3))
def F_Rn_close (s0 : S_Rn) (s1 : S_Bs) (s2 : S_Mg) (s3 : S_Bs) : Option (Int32 × S_Rn × S_Bs × S_Mg × S_Bs) := B_Rn_close_0 s0 s1 s2 s3
set_option maxRecDepth 100000 in
set_option maxHeartbeats 4000000 in
theorem t_Rn_close_9 {p : Program} {l : Launch} {e : Env} {s : State} {m : MethodId} {args : Array Value} {below : List Frame} {meth : Method} {c : Code} {D : va_G} {A : Nat → Prop} {g : Nat → ClassId} {rest : va_W} {K : Nat → Nat → Nat} {ls : Array Slot} {H : Heap} {locs : List Loc} {s0 : S_Rn} {s1 : S_Bs} {s2 : S_Mg} {s3 : S_Bs} {out : Int32 × S_Rn × S_Bs × S_Mg × S_Bs} (X : Cx p s m args meth c prog_1_method_8_code 1 ws_Rn_close R_Rn (some .boolean) D g) (hl : lv_has ls 1 [(0, .ref (K 0 0))]) (hI : Iw D A (w_Rn g (K 0) (fun j => K (j + 1) 0) s0 ++ (w_Bs g (K 4) s1 ++ (w_Mg g (K 9) s2 ++ (w_Bs g (K 5) s3 ++ (rest))))) H) (hS : va_S A s.heap H locs) (h : B_Rn_close_9  s0 s1 s2 s3 = some out) : W p l e (headSpec ws_Rn_close { frames := 2, cells := 0, slots := 0, locals := 41 }).room s m args below meth c H locs 0 0 (MQ below (QcI D A g out.1 (fun (_ : Unit) => w_Rn g (K 0) (fun j => K (j + 1) 0) out.2.1 ++ (w_Bs g (K 4) out.2.2.1 ++ (w_Mg g (K 9) out.2.2.2.1 ++ (w_Bs g (K 5) out.2.2.2.2 ++ (rest)))))) args s 0 0 A) (F0 m 9 ls []) := by
  have X1 := X
  obtain ⟨hx, hb, hml, hown, hts, hr, hlocks, hKK⟩ := X1
  have ht : ∀ w ∈ TB, w.before args s = true := fun w h => hts w (List.mem_cons_of_mem _ h)
  have hK := hKK.1
  unfold B_Rn_close_9 at h
  refine lv_aload_n hx hb d_Rn_close_9 rfl (lv_at hl 0 rfl) ?_
  obtain ⟨o1, ho2, h⟩ := bd_s h
  refine cl_v (W1 := fun (_ : Unit) => w_Rn g (K 0) (fun j => K (j + 1) 0) o1.1 ++ (w_Bs g (K 4) o1.2.1 ++ (w_Mg g (K 9) o1.2.2.1 ++ (w_Bs g (K 5) o1.2.2.2 ++ (rest))))) (va_runV (As := []) (rest := []) ⟨hx, hb, hml, hown, ht⟩ (c_Rn_shut (l := l) (D := D) (A := A) (g := g) (rest := rest) (K := K) ho2) (cwV 0 ht (gd_V m_290 m_292 mp_1 m_1 m_293) rfl rfl rfl (by decide +kernel) ⟨(Nat.le_of_ble_eq_true rfl), (Nat.le_of_ble_eq_true rfl)⟩) (prV (ci := 8) (q0 := 0) hKK hI ((mv_3).trans ((mv_3).trans ((mv_3).trans (mv_3)))) rfl rfl rfl) rfl rfl hl.1 rfl (lv_room (Nat.le_of_ble_eq_true rfl)) d_Rn_close_10 ⟨(Nat.le_of_ble_eq_true rfl), (Nat.le_of_ble_eq_true rfl)⟩) hS (fun _ => (((mv_3).trans ((mv_3).trans ((mv_3).trans (mv_3))))).symm) (fun _ H locs hI hS => ?_)
  have hI : Iw D A (w_Rn g (K 0) (fun j => K (j + 1) 0) o1.1 ++ (w_Bs g (K 4) o1.2.1 ++ (w_Mg g (K 9) o1.2.2.1 ++ (w_Bs g (K 5) o1.2.2.2 ++ (rest))))) H := hI
  refine lv_iconst (v := 1) hx hb d_Rn_close_13 (by decide) ?_
  have h9 := Option.some.inj h
  subst h9
  exact W.zret (v := (1 : Int32)) hx hb hr rfl (fun t ht hW => ⟨⟨_, (), rfl, rfl, ⟨by rw [ht]; exact hI, hKK.moved hW⟩⟩, hS.F ht⟩) hS.2.2 d_Rn_close_14
set_option maxRecDepth 100000 in
set_option maxHeartbeats 4000000 in
theorem t_Rn_close_7 {p : Program} {l : Launch} {e : Env} {s : State} {m : MethodId} {args : Array Value} {below : List Frame} {meth : Method} {c : Code} {D : va_G} {A : Nat → Prop} {g : Nat → ClassId} {rest : va_W} {K : Nat → Nat → Nat} {ls : Array Slot} {H : Heap} {locs : List Loc} {s0 : S_Rn} {s1 : S_Bs} {s2 : S_Mg} {s3 : S_Bs} {out : Int32 × S_Rn × S_Bs × S_Mg × S_Bs} (X : Cx p s m args meth c prog_1_method_8_code 1 ws_Rn_close R_Rn (some .boolean) D g) (hl : lv_has ls 1 []) (hI : Iw D A (w_Rn g (K 0) (fun j => K (j + 1) 0) s0 ++ (w_Bs g (K 4) s1 ++ (w_Mg g (K 9) s2 ++ (w_Bs g (K 5) s3 ++ (rest))))) H) (hS : va_S A s.heap H locs) (h : B_Rn_close_7  s0 s1 s2 s3 = some out) : W p l e (headSpec ws_Rn_close { frames := 2, cells := 0, slots := 0, locals := 41 }).room s m args below meth c H locs 0 0 (MQ below (QcI D A g out.1 (fun (_ : Unit) => w_Rn g (K 0) (fun j => K (j + 1) 0) out.2.1 ++ (w_Bs g (K 4) out.2.2.1 ++ (w_Mg g (K 9) out.2.2.2.1 ++ (w_Bs g (K 5) out.2.2.2.2 ++ (rest)))))) args s 0 0 A) (F0 m 7 ls []) := by
  have X1 := X
  obtain ⟨hx, hb, hml, hown, hts, hr, hlocks, hKK⟩ := X1
  have ht : ∀ w ∈ TB, w.before args s = true := fun w h => hts w (List.mem_cons_of_mem _ h)
  have hK := hKK.1
  unfold B_Rn_close_7 at h
  refine lv_iconst (v := 0) hx hb d_Rn_close_7 (by decide) ?_
  have h9 := Option.some.inj h
  subst h9
  exact W.zret (v := (0 : Int32)) hx hb hr rfl (fun t ht hW => ⟨⟨_, (), rfl, rfl, ⟨by rw [ht]; exact hI, hKK.moved hW⟩⟩, hS.F ht⟩) hS.2.2 d_Rn_close_8
set_option maxRecDepth 100000 in
set_option maxHeartbeats 4000000 in
theorem t_Rn_close_0 {p : Program} {l : Launch} {e : Env} {s : State} {m : MethodId} {args : Array Value} {below : List Frame} {meth : Method} {c : Code} {D : va_G} {A : Nat → Prop} {g : Nat → ClassId} {rest : va_W} {K : Nat → Nat → Nat} {ls : Array Slot} {H : Heap} {locs : List Loc} {s0 : S_Rn} {s1 : S_Bs} {s2 : S_Mg} {s3 : S_Bs} {out : Int32 × S_Rn × S_Bs × S_Mg × S_Bs} (X : Cx p s m args meth c prog_1_method_8_code 1 ws_Rn_close R_Rn (some .boolean) D g) (hl : lv_has ls 1 [(0, .ref (K 0 0))]) (hI : Iw D A (w_Rn g (K 0) (fun j => K (j + 1) 0) s0 ++ (w_Bs g (K 4) s1 ++ (w_Mg g (K 9) s2 ++ (w_Bs g (K 5) s3 ++ (rest))))) H) (hS : va_S A s.heap H locs) (h : B_Rn_close_0  s0 s1 s2 s3 = some out) : W p l e (headSpec ws_Rn_close { frames := 2, cells := 0, slots := 0, locals := 41 }).room s m args below meth c H locs 0 0 (MQ below (QcI D A g out.1 (fun (_ : Unit) => w_Rn g (K 0) (fun j => K (j + 1) 0) out.2.1 ++ (w_Bs g (K 4) out.2.2.1 ++ (w_Mg g (K 9) out.2.2.2.1 ++ (w_Bs g (K 5) out.2.2.2.2 ++ (rest)))))) args s 0 0 A) (F0 m 0 ls []) := by
  have X1 := X
  obtain ⟨hx, hb, hml, hown, hts, hr, hlocks, hKK⟩ := X1
  have ht : ∀ w ∈ TB, w.before args s = true := fun w h => hts w (List.mem_cons_of_mem _ h)
  have hK := hKK.1
  unfold B_Rn_close_0 at h
  refine lv_aload_n hx hb d_Rn_close_0 rfl (lv_at hl 0 rfl) ?_
  refine va_get (D := D) (ci := 8) (v := .int (Rn_phase s0)) (C := R_Rn) (T := T_Rn) (N := 16) hx hb ht in_Rn hown hK hI.1 0 rfl rfl 13 (by decide) (ht _ m_216) (fun _ h9 => h9) rfl d_Rn_close_1 ?_
  refine lv_if_ne (tgt := 9) hx hb d_Rn_close_4 (by decide) (fun hc => ?_) (fun hc => ?_)
  · have h := it_f h hc
    exact t_Rn_close_9 X (lv_sub hl [0] rfl) hI hS h
  · have h := it_t h hc
    exact t_Rn_close_7 X (lv_sub hl [] rfl) hI hS h
set_option maxRecDepth 100000 in
set_option maxHeartbeats 4000000 in
theorem c_Rn_close {l : Launch} {D : va_G} {A : Nat → Prop} {g : Nat → ClassId} {rest : va_W} {K : Nat → Nat → Nat} {s0 : S_Rn} {s1 : S_Bs} {s2 : S_Mg} {s3 : S_Bs} {out : Int32 × S_Rn × S_Bs × S_Mg × S_Bs} (h : F_Rn_close s0 s1 s2 s3 = some out) : Met l y_Rn_close ws_Rn_close { frames := 2, cells := 0, slots := 0, locals := 41 } (PcW D A g [.ref (K 0 0)] (w_Rn g (K 0) (fun j => K (j + 1) 0) s0 ++ (w_Bs g (K 4) s1 ++ (w_Mg g (K 9) s2 ++ (w_Bs g (K 5) s3 ++ (rest)))))) (QcI D A g out.1 (fun (_ : Unit) => w_Rn g (K 0) (fun j => K (j + 1) 0) out.2.1 ++ (w_Bs g (K 4) out.2.2.1 ++ (w_Mg g (K 9) out.2.2.2.1 ++ (w_Bs g (K 5) out.2.2.2.2 ++ (rest)))))) 0 0 A := by
  refine Met.ofW (cc := prog_1_method_8_code) (maxL := 1) (ret := (some .boolean)) (by decide) rfl ?_
  intro p e s m args below meth c s₁ B hml hv
  obtain ⟨rfl, hI, hK⟩ := hv
  have hl := lv_entry [.ref (K 0 0)] (n := 1) (Nat.le_of_ble_eq_true rfl)
  rw [lg_entry_eq]
  generalize (lg_sl [.ref (K 0 0)] ++ List.replicate (1 - (lg_sl [.ref (K 0 0)]).length) Slot.unset).toArray = ls at hl ⊢
  have hl : lv_has ls 1 [(0, .ref (K 0 0))] := hl
  exact t_Rn_close_0 ⟨B.exec, B.bytes, hml, findClass_of_methodNamed B.named, atoms_spec (ws := ws_Rn_close) B.pre, B.returns, B.notSynchronized, hK⟩ (lv_sub hl [0] rfl) hI va_S.rf h
def ws_Rn_put : List Cond := .code y_Rn_put prog_1_method_23_code 3 (some .boolean) :: TB
def B_Rn_put_81 (s1 : S_Bs) (s0 : S_Rn) (s2 : S_Bs) (s3 : S_Mg) (s4 : S_Ou) (s5 : S_Bs) : Option (Int32 × S_Rn × S_Bs × S_Mg × S_Ou × S_Bs) :=
  some ((1 : Int32), s0, s2, s3, s4, s5)
def B_Rn_put_60 (k49 : S_Rn × S_Bs × S_Mg × S_Ou × S_Bs × Int32 → Option (Int32 × S_Rn × S_Bs × S_Mg × S_Ou × S_Bs)) (s1 : S_Bs) (s0 : S_Rn) (s2 : S_Bs) (s3 : S_Mg) (s4 : S_Ou) (s5 : S_Bs) (x2 : Int32) : Option (Int32 × S_Rn × S_Bs × S_Mg × S_Ou × S_Bs) :=
  ((F_Bs_get s1 x2).bind fun o1 => ((F_Ou_push s4 o1).bind fun o3 => (k49 (s0, s2, s3, o3, s5, (x2 + 1)))))
def B_Rn_put_49 (k49 : S_Rn × S_Bs × S_Mg × S_Ou × S_Bs × Int32 → Option (Int32 × S_Rn × S_Bs × S_Mg × S_Ou × S_Bs)) (s1 : S_Bs) (s0 : S_Rn) (s2 : S_Bs) (s3 : S_Mg) (s4 : S_Ou) (s5 : S_Bs) (x2 : Int32) : Option (Int32 × S_Rn × S_Bs × S_Mg × S_Ou × S_Bs) :=
  ((F_Bs_count s1).bind fun o1 => (if o1 ≤ x2 then (B_Rn_put_81 s1 s0 s2 s3 s4 s5) else (B_Rn_put_60 k49 s1 s0 s2 s3 s4 s5 x2)))
def L_Rn_put_49 (s1 : S_Bs) (v : S_Rn × S_Bs × S_Mg × S_Ou × S_Bs × Int32) : Option (Int32 × S_Rn × S_Bs × S_Mg × S_Ou × S_Bs) := lp (fun k49 v => B_Rn_put_49  k49 s1 v.1 v.2.1 v.2.2.1 v.2.2.2.1 v.2.2.2.2.1 v.2.2.2.2.2) FU v
def B_Rn_put_25 (s1 : S_Bs) (s0 : S_Rn) (s2 : S_Bs) (s3 : S_Mg) (s4 : S_Ou) (s5 : S_Bs) (x1 : Int32) : Option (Int32 × S_Rn × S_Bs × S_Mg × S_Ou × S_Bs) :=
  ((F_Ou_push s4 x1).bind fun o1 => ((F_Bs_count s1).bind fun o3 => ((F_Ou_push o1 o3).bind fun o5 => (L_Rn_put_49 s1 (s0, s2, s3, o5, s5, (0 : Int32))))))
def B_Rn_put_19 (s1 : S_Bs) (s0 : S_Rn) (s2 : S_Bs) (s3 : S_Mg) (s4 : S_Ou) (s5 : S_Bs) : Option (Int32 × S_Rn × S_Bs × S_Mg × S_Ou × S_Bs) :=
  ((F_Rn_shut s0 s2 s3 s5).bind fun o1 => some ((0 : Int32), o1.1, o1.2.1, o1.2.2.1, s4, o1.2.2.2))
def B_Rn_put_0 (s1 : S_Bs) (s0 : S_Rn) (s2 : S_Bs) (s3 : S_Mg) (s4 : S_Ou) (s5 : S_Bs) (x1 : Int32) : Option (Int32 × S_Rn × S_Bs × S_Mg × S_Ou × S_Bs) :=
  ((F_Bs_count s1).bind fun o1 => ((F_Ou_hasRoom s4 ((2 : Int32) + o1)).bind fun o3 => (if o3 = 0 then (B_Rn_put_19 s1 s0 s2 s3 s4 s5) else (B_Rn_put_25 s1 s0 s2 s3 s4 s5 x1))))
def F_Rn_put (s0 : S_Rn) (s1 : S_Bs) (s2 : S_Bs) (s3 : S_Mg) (s4 : S_Ou) (s5 : S_Bs) (x1 : Int32) : Option (Int32 × S_Rn × S_Bs × S_Mg × S_Ou × S_Bs) := B_Rn_put_0 s1 s0 s2 s3 s4 s5 x1
set_option maxRecDepth 100000 in
set_option maxHeartbeats 4000000 in
theorem t_Rn_put_81 {p : Program} {l : Launch} {e : Env} {s : State} {m : MethodId} {args : Array Value} {below : List Frame} {meth : Method} {c : Code} {D : va_G} {A : Nat → Prop} {g : Nat → ClassId} {rest : va_W} {K : Nat → Nat → Nat} {ls : Array Slot} {H : Heap} {locs : List Loc} {s1 : S_Bs} {s0 : S_Rn} {s2 : S_Bs} {s3 : S_Mg} {s4 : S_Ou} {s5 : S_Bs} {out : Int32 × S_Rn × S_Bs × S_Mg × S_Ou × S_Bs} (X : Cx p s m args meth c prog_1_method_23_code 3 ws_Rn_put R_Rn (some .boolean) D g) (hl : lv_has ls 3 []) (hI : Iw D A (w_Rn g (K 0) (fun j => K (j + 1) 0) s0 ++ (w_Bs g (K 6) s1 ++ (w_Bs g (K 4) s2 ++ (w_Mg g (K 9) s3 ++ (w_Ou g (K 7) s4 ++ (w_Bs g (K 5) s5 ++ (rest))))))) H) (hS : va_S A s.heap H locs) (h : B_Rn_put_81  s1 s0 s2 s3 s4 s5 = some out) : W p l e (headSpec ws_Rn_put { frames := 2, cells := 0, slots := 0, locals := 41 }).room s m args below meth c H locs 0 0 (MQ below (QcI D A g out.1 (fun (_ : Unit) => w_Rn g (K 0) (fun j => K (j + 1) 0) out.2.1 ++ (w_Bs g (K 6) s1 ++ (w_Bs g (K 4) out.2.2.1 ++ (w_Mg g (K 9) out.2.2.2.1 ++ (w_Ou g (K 7) out.2.2.2.2.1 ++ (w_Bs g (K 5) out.2.2.2.2.2 ++ (rest)))))))) args s 0 0 A) (F0 m 81 ls []) := by
  have X1 := X
  obtain ⟨hx, hb, hml, hown, hts, hr, hlocks, hKK⟩ := X1
  have ht : ∀ w ∈ TB, w.before args s = true := fun w h => hts w (List.mem_cons_of_mem _ h)
  have hK := hKK.1
  unfold B_Rn_put_81 at h
  refine lv_iconst (v := 1) hx hb d_Rn_put_81 (by decide) ?_
  have h9 := Option.some.inj h
  subst h9
  exact W.zret (v := (1 : Int32)) hx hb hr rfl (fun t ht hW => ⟨⟨_, (), rfl, rfl, ⟨by rw [ht]; exact hI, hKK.moved hW⟩⟩, hS.F ht⟩) hS.2.2 d_Rn_put_82
set_option maxRecDepth 100000 in
set_option maxHeartbeats 4000000 in
theorem t_Rn_put_60 {p : Program} {l : Launch} {e : Env} {s : State} {m : MethodId} {args : Array Value} {below : List Frame} {meth : Method} {c : Code} {D : va_G} {A : Nat → Prop} {g : Nat → ClassId} {rest : va_W} {K : Nat → Nat → Nat} {ls : Array Slot} {H : Heap} {locs : List Loc} {k49 : S_Rn × S_Bs × S_Mg × S_Ou × S_Bs × Int32 → Option (Int32 × S_Rn × S_Bs × S_Mg × S_Ou × S_Bs)} {s1 : S_Bs} {s0 : S_Rn} {s2 : S_Bs} {s3 : S_Mg} {s4 : S_Ou} {s5 : S_Bs} {x2 : Int32} {out : Int32 × S_Rn × S_Bs × S_Mg × S_Ou × S_Bs} (X : Cx p s m args meth c prog_1_method_23_code 3 ws_Rn_put R_Rn (some .boolean) D g) (hk49 : ∀ (v : S_Rn × S_Bs × S_Mg × S_Ou × S_Bs × Int32) (ls : Array Slot) (H : Heap) (locs : List Loc), lv_has ls 3 [(0, .ref (K 0 0)), (2, .int v.2.2.2.2.2)] → Iw D A (w_Rn g (K 0) (fun j => K (j + 1) 0) v.1 ++ (w_Bs g (K 6) s1 ++ (w_Bs g (K 4) v.2.1 ++ (w_Mg g (K 9) v.2.2.1 ++ (w_Ou g (K 7) v.2.2.2.1 ++ (w_Bs g (K 5) v.2.2.2.2.1 ++ (rest))))))) H → va_S A s.heap H locs → k49 v = some out → W p l e (headSpec ws_Rn_put { frames := 2, cells := 0, slots := 0, locals := 41 }).room s m args below meth c H locs 0 0 (MQ below (QcI D A g out.1 (fun (_ : Unit) => w_Rn g (K 0) (fun j => K (j + 1) 0) out.2.1 ++ (w_Bs g (K 6) s1 ++ (w_Bs g (K 4) out.2.2.1 ++ (w_Mg g (K 9) out.2.2.2.1 ++ (w_Ou g (K 7) out.2.2.2.2.1 ++ (w_Bs g (K 5) out.2.2.2.2.2 ++ (rest)))))))) args s 0 0 A) (F0 m 49 ls [])) (hl : lv_has ls 3 [(0, .ref (K 0 0)), (2, .int x2)]) (hI : Iw D A (w_Rn g (K 0) (fun j => K (j + 1) 0) s0 ++ (w_Bs g (K 6) s1 ++ (w_Bs g (K 4) s2 ++ (w_Mg g (K 9) s3 ++ (w_Ou g (K 7) s4 ++ (w_Bs g (K 5) s5 ++ (rest))))))) H) (hS : va_S A s.heap H locs) (h : B_Rn_put_60 k49 s1 s0 s2 s3 s4 s5 x2 = some out) : W p l e (headSpec ws_Rn_put { frames := 2, cells := 0, slots := 0, locals := 41 }).room s m args below meth c H locs 0 0 (MQ below (QcI D A g out.1 (fun (_ : Unit) => w_Rn g (K 0) (fun j => K (j + 1) 0) out.2.1 ++ (w_Bs g (K 6) s1 ++ (w_Bs g (K 4) out.2.2.1 ++ (w_Mg g (K 9) out.2.2.2.1 ++ (w_Ou g (K 7) out.2.2.2.2.1 ++ (w_Bs g (K 5) out.2.2.2.2.2 ++ (rest)))))))) args s 0 0 A) (F0 m 60 ls []) := by
  have X1 := X
  obtain ⟨hx, hb, hml, hown, hts, hr, hlocks, hKK⟩ := X1
  have ht : ∀ w ∈ TB, w.before args s = true := fun w h => hts w (List.mem_cons_of_mem _ h)
  have hK := hKK.1
  unfold B_Rn_put_60 at h
  refine lv_aload_n hx hb d_Rn_put_60 rfl (lv_at hl 0 rfl) ?_
  refine va_get (D := D) (ci := 8) (v := .ref (K 7 0)) (C := R_Rn) (T := T_Rn) (N := 16) hx hb ht in_Rn hown hK hI.1 0 rfl rfl 6 (by decide) (ht _ m_209) (fun _ h9 => h9) rfl d_Rn_put_61 ?_
  refine lv_aload_n hx hb d_Rn_put_64 rfl (lv_at hl 0 rfl) ?_
  refine va_get (D := D) (ci := 8) (v := .ref (K 6 0)) (C := R_Rn) (T := T_Rn) (N := 16) hx hb ht in_Rn hown hK hI.1 0 rfl rfl 5 (by decide) (ht _ m_208) (fun _ h9 => h9) rfl d_Rn_put_65 ?_
  refine lv_iload_n hx hb d_Rn_put_68 rfl (lv_at hl 1 rfl) ?_
  obtain ⟨o1, ho2, h⟩ := bd_s h
  refine cl_i (W1 := fun (_ : Unit) => w_Rn g (K 0) (fun j => K (j + 1) 0) s0 ++ (w_Bs g (K 6) s1 ++ (w_Bs g (K 4) s2 ++ (w_Mg g (K 9) s3 ++ (w_Ou g (K 7) s4 ++ (w_Bs g (K 5) s5 ++ (rest))))))) (va_runV (As := [.int x2]) (rest := [.ref (K 7 0)]) ⟨hx, hb, hml, hown, ht⟩ (c_Bs_get (l := l) (D := D) (A := A) (g := g) (rest := w_Rn g (K 0) (fun j => K (j + 1) 0) s0 ++ (w_Bs g (K 4) s2 ++ (w_Mg g (K 9) s3 ++ (w_Ou g (K 7) s4 ++ (w_Bs g (K 5) s5 ++ (rest)))))) (a0 := K 6) ho2) (cwV 1 ht (gd_V m_306 m_307 m_308 m_2 m_309) rfl rfl rfl (by decide +kernel) ⟨(Nat.le_of_ble_eq_true rfl), (Nat.le_of_ble_eq_true rfl)⟩) (prV (ci := 0) (q0 := 0) hKK hI (mv_1) rfl rfl rfl) rfl rfl hl.1 rfl (lv_room (Nat.le_of_ble_eq_true rfl)) d_Rn_put_69 ⟨(Nat.le_of_ble_eq_true rfl), (Nat.le_of_ble_eq_true rfl)⟩) hS (fun _ => ((mv_1)).symm) (fun _ H locs hI hS => ?_)
  have hI : Iw D A (w_Rn g (K 0) (fun j => K (j + 1) 0) s0 ++ (w_Bs g (K 6) s1 ++ (w_Bs g (K 4) s2 ++ (w_Mg g (K 9) s3 ++ (w_Ou g (K 7) s4 ++ (w_Bs g (K 5) s5 ++ (rest))))))) H := hI
  obtain ⟨o3, ho4, h⟩ := bd_s h
  refine cl_v (W1 := fun (_ : Unit) => w_Rn g (K 0) (fun j => K (j + 1) 0) s0 ++ (w_Bs g (K 6) s1 ++ (w_Bs g (K 4) s2 ++ (w_Mg g (K 9) s3 ++ (w_Ou g (K 7) o3 ++ (w_Bs g (K 5) s5 ++ (rest))))))) (va_runV (As := [.int o1]) (rest := []) ⟨hx, hb, hml, hown, ht⟩ (c_Ou_push (l := l) (D := D) (A := A) (g := g) (rest := w_Rn g (K 0) (fun j => K (j + 1) 0) s0 ++ (w_Bs g (K 6) s1 ++ (w_Bs g (K 4) s2 ++ (w_Mg g (K 9) s3 ++ (w_Bs g (K 5) s5 ++ (rest)))))) (a0 := K 7) ho4) (cwV 1 ht (gd_V m_330 m_331 m_332 m_3 m_333) rfl rfl rfl (by decide +kernel) ⟨(Nat.le_of_ble_eq_true rfl), (Nat.le_of_ble_eq_true rfl)⟩) (prV (ci := 4) (q0 := 0) hKK hI (mv_4) rfl rfl rfl) rfl rfl hl.1 rfl (lv_room (Nat.le_of_ble_eq_true rfl)) d_Rn_put_72 ⟨(Nat.le_of_ble_eq_true rfl), (Nat.le_of_ble_eq_true rfl)⟩) hS (fun _ => ((mv_4)).symm) (fun _ H locs hI hS => ?_)
  have hI : Iw D A (w_Rn g (K 0) (fun j => K (j + 1) 0) s0 ++ (w_Bs g (K 6) s1 ++ (w_Bs g (K 4) s2 ++ (w_Mg g (K 9) s3 ++ (w_Ou g (K 7) o3 ++ (w_Bs g (K 5) s5 ++ (rest))))))) H := hI
  refine lv_iinc (k := 1) (v := (x2 + 1)) hx hb d_Rn_put_75 hl rfl (congrArg (fun z => x2 + z) (by decide)) (Nat.le_of_ble_eq_true rfl) rfl (fun ls hl => ?_)
  have hl : lv_has ls 3 [(2, .int (x2 + 1)), (0, .ref (K 0 0))] := hl
  refine lv_goto (tgt := 49) hx hb d_Rn_put_78 (by decide) ?_
  exact hk49 (s0, s2, s3, o3, s5, (x2 + 1)) _ _ _ (lv_sub hl [1, 0] rfl) hI hS h
set_option maxRecDepth 100000 in
set_option maxHeartbeats 4000000 in
theorem t_Rn_put_49 {p : Program} {l : Launch} {e : Env} {s : State} {m : MethodId} {args : Array Value} {below : List Frame} {meth : Method} {c : Code} {D : va_G} {A : Nat → Prop} {g : Nat → ClassId} {rest : va_W} {K : Nat → Nat → Nat} {ls : Array Slot} {H : Heap} {locs : List Loc} {k49 : S_Rn × S_Bs × S_Mg × S_Ou × S_Bs × Int32 → Option (Int32 × S_Rn × S_Bs × S_Mg × S_Ou × S_Bs)} {s1 : S_Bs} {s0 : S_Rn} {s2 : S_Bs} {s3 : S_Mg} {s4 : S_Ou} {s5 : S_Bs} {x2 : Int32} {out : Int32 × S_Rn × S_Bs × S_Mg × S_Ou × S_Bs} (X : Cx p s m args meth c prog_1_method_23_code 3 ws_Rn_put R_Rn (some .boolean) D g) (hk49 : ∀ (v : S_Rn × S_Bs × S_Mg × S_Ou × S_Bs × Int32) (ls : Array Slot) (H : Heap) (locs : List Loc), lv_has ls 3 [(0, .ref (K 0 0)), (2, .int v.2.2.2.2.2)] → Iw D A (w_Rn g (K 0) (fun j => K (j + 1) 0) v.1 ++ (w_Bs g (K 6) s1 ++ (w_Bs g (K 4) v.2.1 ++ (w_Mg g (K 9) v.2.2.1 ++ (w_Ou g (K 7) v.2.2.2.1 ++ (w_Bs g (K 5) v.2.2.2.2.1 ++ (rest))))))) H → va_S A s.heap H locs → k49 v = some out → W p l e (headSpec ws_Rn_put { frames := 2, cells := 0, slots := 0, locals := 41 }).room s m args below meth c H locs 0 0 (MQ below (QcI D A g out.1 (fun (_ : Unit) => w_Rn g (K 0) (fun j => K (j + 1) 0) out.2.1 ++ (w_Bs g (K 6) s1 ++ (w_Bs g (K 4) out.2.2.1 ++ (w_Mg g (K 9) out.2.2.2.1 ++ (w_Ou g (K 7) out.2.2.2.2.1 ++ (w_Bs g (K 5) out.2.2.2.2.2 ++ (rest)))))))) args s 0 0 A) (F0 m 49 ls [])) (hl : lv_has ls 3 [(0, .ref (K 0 0)), (2, .int x2)]) (hI : Iw D A (w_Rn g (K 0) (fun j => K (j + 1) 0) s0 ++ (w_Bs g (K 6) s1 ++ (w_Bs g (K 4) s2 ++ (w_Mg g (K 9) s3 ++ (w_Ou g (K 7) s4 ++ (w_Bs g (K 5) s5 ++ (rest))))))) H) (hS : va_S A s.heap H locs) (h : B_Rn_put_49 k49 s1 s0 s2 s3 s4 s5 x2 = some out) : W p l e (headSpec ws_Rn_put { frames := 2, cells := 0, slots := 0, locals := 41 }).room s m args below meth c H locs 0 0 (MQ below (QcI D A g out.1 (fun (_ : Unit) => w_Rn g (K 0) (fun j => K (j + 1) 0) out.2.1 ++ (w_Bs g (K 6) s1 ++ (w_Bs g (K 4) out.2.2.1 ++ (w_Mg g (K 9) out.2.2.2.1 ++ (w_Ou g (K 7) out.2.2.2.2.1 ++ (w_Bs g (K 5) out.2.2.2.2.2 ++ (rest)))))))) args s 0 0 A) (F0 m 49 ls []) := by
  have X1 := X
  obtain ⟨hx, hb, hml, hown, hts, hr, hlocks, hKK⟩ := X1
  have ht : ∀ w ∈ TB, w.before args s = true := fun w h => hts w (List.mem_cons_of_mem _ h)
  have hK := hKK.1
  unfold B_Rn_put_49 at h
  refine lv_iload_n hx hb d_Rn_put_49 rfl (lv_at hl 1 rfl) ?_
  refine lv_aload_n hx hb d_Rn_put_50 rfl (lv_at hl 0 rfl) ?_
  refine va_get (D := D) (ci := 8) (v := .ref (K 6 0)) (C := R_Rn) (T := T_Rn) (N := 16) hx hb ht in_Rn hown hK hI.1 0 rfl rfl 5 (by decide) (ht _ m_208) (fun _ h9 => h9) rfl d_Rn_put_51 ?_
  obtain ⟨o1, ho2, h⟩ := bd_s h
  refine cl_i (W1 := fun (_ : Unit) => w_Rn g (K 0) (fun j => K (j + 1) 0) s0 ++ (w_Bs g (K 6) s1 ++ (w_Bs g (K 4) s2 ++ (w_Mg g (K 9) s3 ++ (w_Ou g (K 7) s4 ++ (w_Bs g (K 5) s5 ++ (rest))))))) (va_runV (As := []) (rest := [.int x2]) ⟨hx, hb, hml, hown, ht⟩ (c_Bs_count (l := l) (D := D) (A := A) (g := g) (rest := w_Rn g (K 0) (fun j => K (j + 1) 0) s0 ++ (w_Bs g (K 4) s2 ++ (w_Mg g (K 9) s3 ++ (w_Ou g (K 7) s4 ++ (w_Bs g (K 5) s5 ++ (rest)))))) (a0 := K 6) ho2) (cwV 0 ht (gd_V m_302 m_303 m_304 m_2 m_305) rfl rfl rfl (by decide +kernel) ⟨(Nat.le_of_ble_eq_true rfl), (Nat.le_of_ble_eq_true rfl)⟩) (prV (ci := 0) (q0 := 0) hKK hI (mv_1) rfl rfl rfl) rfl rfl hl.1 rfl (lv_room (Nat.le_of_ble_eq_true rfl)) d_Rn_put_54 ⟨(Nat.le_of_ble_eq_true rfl), (Nat.le_of_ble_eq_true rfl)⟩) hS (fun _ => ((mv_1)).symm) (fun _ H locs hI hS => ?_)
  have hI : Iw D A (w_Rn g (K 0) (fun j => K (j + 1) 0) s0 ++ (w_Bs g (K 6) s1 ++ (w_Bs g (K 4) s2 ++ (w_Mg g (K 9) s3 ++ (w_Ou g (K 7) s4 ++ (w_Bs g (K 5) s5 ++ (rest))))))) H := hI
  refine lv_icmp_ge (tgt := 81) hx hb d_Rn_put_57 (by decide) (fun hc => ?_) (fun hc => ?_)
  · have h := it_t h hc
    exact t_Rn_put_81 X (lv_sub hl [] rfl) hI hS h
  · have h := it_f h hc
    exact t_Rn_put_60 X hk49 (lv_sub hl [0, 1] rfl) hI hS h
set_option maxRecDepth 100000 in
set_option maxHeartbeats 4000000 in
theorem T_Rn_put_49 {p : Program} {l : Launch} {e : Env} {s : State} {m : MethodId} {args : Array Value} {below : List Frame} {meth : Method} {c : Code} {D : va_G} {A : Nat → Prop} {g : Nat → ClassId} {rest : va_W} {K : Nat → Nat → Nat} {ls : Array Slot} {H : Heap} {locs : List Loc} {s1 : S_Bs} {s0 : S_Rn} {s2 : S_Bs} {s3 : S_Mg} {s4 : S_Ou} {s5 : S_Bs} {x2 : Int32} {out : Int32 × S_Rn × S_Bs × S_Mg × S_Ou × S_Bs} (X : Cx p s m args meth c prog_1_method_23_code 3 ws_Rn_put R_Rn (some .boolean) D g) (hl : lv_has ls 3 [(0, .ref (K 0 0)), (2, .int x2)]) (hI : Iw D A (w_Rn g (K 0) (fun j => K (j + 1) 0) s0 ++ (w_Bs g (K 6) s1 ++ (w_Bs g (K 4) s2 ++ (w_Mg g (K 9) s3 ++ (w_Ou g (K 7) s4 ++ (w_Bs g (K 5) s5 ++ (rest))))))) H) (hS : va_S A s.heap H locs) (h : L_Rn_put_49  s1 (s0, s2, s3, s4, s5, x2) = some out) : W p l e (headSpec ws_Rn_put { frames := 2, cells := 0, slots := 0, locals := 41 }).room s m args below meth c H locs 0 0 (MQ below (QcI D A g out.1 (fun (_ : Unit) => w_Rn g (K 0) (fun j => K (j + 1) 0) out.2.1 ++ (w_Bs g (K 6) s1 ++ (w_Bs g (K 4) out.2.2.1 ++ (w_Mg g (K 9) out.2.2.2.1 ++ (w_Ou g (K 7) out.2.2.2.2.1 ++ (w_Bs g (K 5) out.2.2.2.2.2 ++ (rest)))))))) args s 0 0 A) (F0 m 49 ls []) := by
  unfold L_Rn_put_49 at h
  exact lp_ind (P := fun v => ∀ (ls : Array Slot) (H : Heap) (locs : List Loc), lv_has ls 3 [(0, .ref (K 0 0)), (2, .int v.2.2.2.2.2)] → Iw D A (w_Rn g (K 0) (fun j => K (j + 1) 0) v.1 ++ (w_Bs g (K 6) s1 ++ (w_Bs g (K 4) v.2.1 ++ (w_Mg g (K 9) v.2.2.1 ++ (w_Ou g (K 7) v.2.2.2.1 ++ (w_Bs g (K 5) v.2.2.2.2.1 ++ (rest))))))) H → va_S A s.heap H locs → W p l e (headSpec ws_Rn_put { frames := 2, cells := 0, slots := 0, locals := 41 }).room s m args below meth c H locs 0 0 (MQ below (QcI D A g out.1 (fun (_ : Unit) => w_Rn g (K 0) (fun j => K (j + 1) 0) out.2.1 ++ (w_Bs g (K 6) s1 ++ (w_Bs g (K 4) out.2.2.1 ++ (w_Mg g (K 9) out.2.2.2.1 ++ (w_Ou g (K 7) out.2.2.2.2.1 ++ (w_Bs g (K 5) out.2.2.2.2.2 ++ (rest)))))))) args s 0 0 A) (F0 m 49 ls [])) (fun k v ih hb ls H locs  hl hI hS => t_Rn_put_49 X  (fun v' ls H locs  hl hI hS h' => ih v' h' ls H locs  hl hI hS) hl hI hS hb) FU _ h ls H locs  hl hI hS
set_option maxRecDepth 100000 in
set_option maxHeartbeats 4000000 in
theorem t_Rn_put_25 {p : Program} {l : Launch} {e : Env} {s : State} {m : MethodId} {args : Array Value} {below : List Frame} {meth : Method} {c : Code} {D : va_G} {A : Nat → Prop} {g : Nat → ClassId} {rest : va_W} {K : Nat → Nat → Nat} {ls : Array Slot} {H : Heap} {locs : List Loc} {s1 : S_Bs} {s0 : S_Rn} {s2 : S_Bs} {s3 : S_Mg} {s4 : S_Ou} {s5 : S_Bs} {x1 : Int32} {out : Int32 × S_Rn × S_Bs × S_Mg × S_Ou × S_Bs} (X : Cx p s m args meth c prog_1_method_23_code 3 ws_Rn_put R_Rn (some .boolean) D g) (hl : lv_has ls 3 [(0, .ref (K 0 0)), (1, .int x1)]) (hI : Iw D A (w_Rn g (K 0) (fun j => K (j + 1) 0) s0 ++ (w_Bs g (K 6) s1 ++ (w_Bs g (K 4) s2 ++ (w_Mg g (K 9) s3 ++ (w_Ou g (K 7) s4 ++ (w_Bs g (K 5) s5 ++ (rest))))))) H) (hS : va_S A s.heap H locs) (h : B_Rn_put_25  s1 s0 s2 s3 s4 s5 x1 = some out) : W p l e (headSpec ws_Rn_put { frames := 2, cells := 0, slots := 0, locals := 41 }).room s m args below meth c H locs 0 0 (MQ below (QcI D A g out.1 (fun (_ : Unit) => w_Rn g (K 0) (fun j => K (j + 1) 0) out.2.1 ++ (w_Bs g (K 6) s1 ++ (w_Bs g (K 4) out.2.2.1 ++ (w_Mg g (K 9) out.2.2.2.1 ++ (w_Ou g (K 7) out.2.2.2.2.1 ++ (w_Bs g (K 5) out.2.2.2.2.2 ++ (rest)))))))) args s 0 0 A) (F0 m 25 ls []) := by
  have X1 := X
  obtain ⟨hx, hb, hml, hown, hts, hr, hlocks, hKK⟩ := X1
  have ht : ∀ w ∈ TB, w.before args s = true := fun w h => hts w (List.mem_cons_of_mem _ h)
  have hK := hKK.1
  unfold B_Rn_put_25 at h
  refine lv_aload_n hx hb d_Rn_put_25 rfl (lv_at hl 0 rfl) ?_
  refine va_get (D := D) (ci := 8) (v := .ref (K 7 0)) (C := R_Rn) (T := T_Rn) (N := 16) hx hb ht in_Rn hown hK hI.1 0 rfl rfl 6 (by decide) (ht _ m_209) (fun _ h9 => h9) rfl d_Rn_put_26 ?_
  refine lv_iload_n hx hb d_Rn_put_29 rfl (lv_at hl 1 rfl) ?_
  obtain ⟨o1, ho2, h⟩ := bd_s h
  refine cl_v (W1 := fun (_ : Unit) => w_Rn g (K 0) (fun j => K (j + 1) 0) s0 ++ (w_Bs g (K 6) s1 ++ (w_Bs g (K 4) s2 ++ (w_Mg g (K 9) s3 ++ (w_Ou g (K 7) o1 ++ (w_Bs g (K 5) s5 ++ (rest))))))) (va_runV (As := [.int x1]) (rest := []) ⟨hx, hb, hml, hown, ht⟩ (c_Ou_push (l := l) (D := D) (A := A) (g := g) (rest := w_Rn g (K 0) (fun j => K (j + 1) 0) s0 ++ (w_Bs g (K 6) s1 ++ (w_Bs g (K 4) s2 ++ (w_Mg g (K 9) s3 ++ (w_Bs g (K 5) s5 ++ (rest)))))) (a0 := K 7) ho2) (cwV 1 ht (gd_V m_330 m_331 m_332 m_3 m_333) rfl rfl rfl (by decide +kernel) ⟨(Nat.le_of_ble_eq_true rfl), (Nat.le_of_ble_eq_true rfl)⟩) (prV (ci := 4) (q0 := 0) hKK hI (mv_4) rfl rfl rfl) rfl rfl hl.1 rfl (lv_room (Nat.le_of_ble_eq_true rfl)) d_Rn_put_30 ⟨(Nat.le_of_ble_eq_true rfl), (Nat.le_of_ble_eq_true rfl)⟩) hS (fun _ => ((mv_4)).symm) (fun _ H locs hI hS => ?_)
  have hI : Iw D A (w_Rn g (K 0) (fun j => K (j + 1) 0) s0 ++ (w_Bs g (K 6) s1 ++ (w_Bs g (K 4) s2 ++ (w_Mg g (K 9) s3 ++ (w_Ou g (K 7) o1 ++ (w_Bs g (K 5) s5 ++ (rest))))))) H := hI
  refine lv_aload_n hx hb d_Rn_put_33 rfl (lv_at hl 0 rfl) ?_
  refine va_get (D := D) (ci := 8) (v := .ref (K 7 0)) (C := R_Rn) (T := T_Rn) (N := 16) hx hb ht in_Rn hown hK hI.1 0 rfl rfl 6 (by decide) (ht _ m_209) (fun _ h9 => h9) rfl d_Rn_put_34 ?_
  refine lv_aload_n hx hb d_Rn_put_37 rfl (lv_at hl 0 rfl) ?_
  refine va_get (D := D) (ci := 8) (v := .ref (K 6 0)) (C := R_Rn) (T := T_Rn) (N := 16) hx hb ht in_Rn hown hK hI.1 0 rfl rfl 5 (by decide) (ht _ m_208) (fun _ h9 => h9) rfl d_Rn_put_38 ?_
  obtain ⟨o3, ho4, h⟩ := bd_s h
  refine cl_i (W1 := fun (_ : Unit) => w_Rn g (K 0) (fun j => K (j + 1) 0) s0 ++ (w_Bs g (K 6) s1 ++ (w_Bs g (K 4) s2 ++ (w_Mg g (K 9) s3 ++ (w_Ou g (K 7) o1 ++ (w_Bs g (K 5) s5 ++ (rest))))))) (va_runV (As := []) (rest := [.ref (K 7 0)]) ⟨hx, hb, hml, hown, ht⟩ (c_Bs_count (l := l) (D := D) (A := A) (g := g) (rest := w_Rn g (K 0) (fun j => K (j + 1) 0) s0 ++ (w_Bs g (K 4) s2 ++ (w_Mg g (K 9) s3 ++ (w_Ou g (K 7) o1 ++ (w_Bs g (K 5) s5 ++ (rest)))))) (a0 := K 6) ho4) (cwV 0 ht (gd_V m_302 m_303 m_304 m_2 m_305) rfl rfl rfl (by decide +kernel) ⟨(Nat.le_of_ble_eq_true rfl), (Nat.le_of_ble_eq_true rfl)⟩) (prV (ci := 0) (q0 := 0) hKK hI (mv_1) rfl rfl rfl) rfl rfl hl.1 rfl (lv_room (Nat.le_of_ble_eq_true rfl)) d_Rn_put_41 ⟨(Nat.le_of_ble_eq_true rfl), (Nat.le_of_ble_eq_true rfl)⟩) hS (fun _ => ((mv_1)).symm) (fun _ H locs hI hS => ?_)
  have hI : Iw D A (w_Rn g (K 0) (fun j => K (j + 1) 0) s0 ++ (w_Bs g (K 6) s1 ++ (w_Bs g (K 4) s2 ++ (w_Mg g (K 9) s3 ++ (w_Ou g (K 7) o1 ++ (w_Bs g (K 5) s5 ++ (rest))))))) H := hI
  obtain ⟨o5, ho6, h⟩ := bd_s h
  refine cl_v (W1 := fun (_ : Unit) => w_Rn g (K 0) (fun j => K (j + 1) 0) s0 ++ (w_Bs g (K 6) s1 ++ (w_Bs g (K 4) s2 ++ (w_Mg g (K 9) s3 ++ (w_Ou g (K 7) o5 ++ (w_Bs g (K 5) s5 ++ (rest))))))) (va_runV (As := [.int o3]) (rest := []) ⟨hx, hb, hml, hown, ht⟩ (c_Ou_push (l := l) (D := D) (A := A) (g := g) (rest := w_Rn g (K 0) (fun j => K (j + 1) 0) s0 ++ (w_Bs g (K 6) s1 ++ (w_Bs g (K 4) s2 ++ (w_Mg g (K 9) s3 ++ (w_Bs g (K 5) s5 ++ (rest)))))) (a0 := K 7) ho6) (cwV 1 ht (gd_V m_330 m_331 m_332 m_3 m_333) rfl rfl rfl (by decide +kernel) ⟨(Nat.le_of_ble_eq_true rfl), (Nat.le_of_ble_eq_true rfl)⟩) (prV (ci := 4) (q0 := 0) hKK hI (mv_4) rfl rfl rfl) rfl rfl hl.1 rfl (lv_room (Nat.le_of_ble_eq_true rfl)) d_Rn_put_44 ⟨(Nat.le_of_ble_eq_true rfl), (Nat.le_of_ble_eq_true rfl)⟩) hS (fun _ => ((mv_4)).symm) (fun _ H locs hI hS => ?_)
  have hI : Iw D A (w_Rn g (K 0) (fun j => K (j + 1) 0) s0 ++ (w_Bs g (K 6) s1 ++ (w_Bs g (K 4) s2 ++ (w_Mg g (K 9) s3 ++ (w_Ou g (K 7) o5 ++ (w_Bs g (K 5) s5 ++ (rest))))))) H := hI
  refine lv_iconst (v := 0) hx hb d_Rn_put_47 (by decide) ?_
  refine lv_istore_n hx hb d_Rn_put_48 rfl hl (Nat.le_of_ble_eq_true rfl) rfl (fun ls hl => ?_)
  have hl : lv_has ls 3 [(2, .int (0 : Int32)), (0, .ref (K 0 0)), (1, .int x1)] := hl
  exact T_Rn_put_49 X (lv_sub hl [1, 0] rfl) hI hS h
set_option maxRecDepth 100000 in
set_option maxHeartbeats 4000000 in
theorem t_Rn_put_19 {p : Program} {l : Launch} {e : Env} {s : State} {m : MethodId} {args : Array Value} {below : List Frame} {meth : Method} {c : Code} {D : va_G} {A : Nat → Prop} {g : Nat → ClassId} {rest : va_W} {K : Nat → Nat → Nat} {ls : Array Slot} {H : Heap} {locs : List Loc} {s1 : S_Bs} {s0 : S_Rn} {s2 : S_Bs} {s3 : S_Mg} {s4 : S_Ou} {s5 : S_Bs} {out : Int32 × S_Rn × S_Bs × S_Mg × S_Ou × S_Bs} (X : Cx p s m args meth c prog_1_method_23_code 3 ws_Rn_put R_Rn (some .boolean) D g) (hl : lv_has ls 3 [(0, .ref (K 0 0))]) (hI : Iw D A (w_Rn g (K 0) (fun j => K (j + 1) 0) s0 ++ (w_Bs g (K 6) s1 ++ (w_Bs g (K 4) s2 ++ (w_Mg g (K 9) s3 ++ (w_Ou g (K 7) s4 ++ (w_Bs g (K 5) s5 ++ (rest))))))) H) (hS : va_S A s.heap H locs) (h : B_Rn_put_19  s1 s0 s2 s3 s4 s5 = some out) : W p l e (headSpec ws_Rn_put { frames := 2, cells := 0, slots := 0, locals := 41 }).room s m args below meth c H locs 0 0 (MQ below (QcI D A g out.1 (fun (_ : Unit) => w_Rn g (K 0) (fun j => K (j + 1) 0) out.2.1 ++ (w_Bs g (K 6) s1 ++ (w_Bs g (K 4) out.2.2.1 ++ (w_Mg g (K 9) out.2.2.2.1 ++ (w_Ou g (K 7) out.2.2.2.2.1 ++ (w_Bs g (K 5) out.2.2.2.2.2 ++ (rest)))))))) args s 0 0 A) (F0 m 19 ls []) := by
  have X1 := X
  obtain ⟨hx, hb, hml, hown, hts, hr, hlocks, hKK⟩ := X1
  have ht : ∀ w ∈ TB, w.before args s = true := fun w h => hts w (List.mem_cons_of_mem _ h)
  have hK := hKK.1
  unfold B_Rn_put_19 at h
  refine lv_aload_n hx hb d_Rn_put_19 rfl (lv_at hl 0 rfl) ?_
  obtain ⟨o1, ho2, h⟩ := bd_s h
  refine cl_v (W1 := fun (_ : Unit) => w_Rn g (K 0) (fun j => K (j + 1) 0) o1.1 ++ (w_Bs g (K 6) s1 ++ (w_Bs g (K 4) o1.2.1 ++ (w_Mg g (K 9) o1.2.2.1 ++ (w_Ou g (K 7) s4 ++ (w_Bs g (K 5) o1.2.2.2 ++ (rest))))))) (va_runV (As := []) (rest := []) ⟨hx, hb, hml, hown, ht⟩ (c_Rn_shut (l := l) (D := D) (A := A) (g := g) (rest := w_Bs g (K 6) s1 ++ (w_Ou g (K 7) s4 ++ (rest))) (K := K) ho2) (cwV 0 ht (gd_V m_290 m_292 mp_1 m_1 m_293) rfl rfl rfl (by decide +kernel) ⟨(Nat.le_of_ble_eq_true rfl), (Nat.le_of_ble_eq_true rfl)⟩) (prV (ci := 8) (q0 := 0) hKK hI ((mv_5).trans ((mv_4).trans ((mv_4).trans (mv_3)))) rfl rfl rfl) rfl rfl hl.1 rfl (lv_room (Nat.le_of_ble_eq_true rfl)) d_Rn_put_20 ⟨(Nat.le_of_ble_eq_true rfl), (Nat.le_of_ble_eq_true rfl)⟩) hS (fun _ => (((mv_5).trans ((mv_4).trans ((mv_4).trans (mv_3))))).symm) (fun _ H locs hI hS => ?_)
  have hI : Iw D A (w_Rn g (K 0) (fun j => K (j + 1) 0) o1.1 ++ (w_Bs g (K 6) s1 ++ (w_Bs g (K 4) o1.2.1 ++ (w_Mg g (K 9) o1.2.2.1 ++ (w_Ou g (K 7) s4 ++ (w_Bs g (K 5) o1.2.2.2 ++ (rest))))))) H := hI
  refine lv_iconst (v := 0) hx hb d_Rn_put_23 (by decide) ?_
  have h9 := Option.some.inj h
  subst h9
  exact W.zret (v := (0 : Int32)) hx hb hr rfl (fun t ht hW => ⟨⟨_, (), rfl, rfl, ⟨by rw [ht]; exact hI, hKK.moved hW⟩⟩, hS.F ht⟩) hS.2.2 d_Rn_put_24
set_option maxRecDepth 100000 in
set_option maxHeartbeats 4000000 in
theorem t_Rn_put_0 {p : Program} {l : Launch} {e : Env} {s : State} {m : MethodId} {args : Array Value} {below : List Frame} {meth : Method} {c : Code} {D : va_G} {A : Nat → Prop} {g : Nat → ClassId} {rest : va_W} {K : Nat → Nat → Nat} {ls : Array Slot} {H : Heap} {locs : List Loc} {s1 : S_Bs} {s0 : S_Rn} {s2 : S_Bs} {s3 : S_Mg} {s4 : S_Ou} {s5 : S_Bs} {x1 : Int32} {out : Int32 × S_Rn × S_Bs × S_Mg × S_Ou × S_Bs} (X : Cx p s m args meth c prog_1_method_23_code 3 ws_Rn_put R_Rn (some .boolean) D g) (hl : lv_has ls 3 [(0, .ref (K 0 0)), (1, .int x1)]) (hI : Iw D A (w_Rn g (K 0) (fun j => K (j + 1) 0) s0 ++ (w_Bs g (K 6) s1 ++ (w_Bs g (K 4) s2 ++ (w_Mg g (K 9) s3 ++ (w_Ou g (K 7) s4 ++ (w_Bs g (K 5) s5 ++ (rest))))))) H) (hS : va_S A s.heap H locs) (h : B_Rn_put_0  s1 s0 s2 s3 s4 s5 x1 = some out) : W p l e (headSpec ws_Rn_put { frames := 2, cells := 0, slots := 0, locals := 41 }).room s m args below meth c H locs 0 0 (MQ below (QcI D A g out.1 (fun (_ : Unit) => w_Rn g (K 0) (fun j => K (j + 1) 0) out.2.1 ++ (w_Bs g (K 6) s1 ++ (w_Bs g (K 4) out.2.2.1 ++ (w_Mg g (K 9) out.2.2.2.1 ++ (w_Ou g (K 7) out.2.2.2.2.1 ++ (w_Bs g (K 5) out.2.2.2.2.2 ++ (rest)))))))) args s 0 0 A) (F0 m 0 ls []) := by
  have X1 := X
  obtain ⟨hx, hb, hml, hown, hts, hr, hlocks, hKK⟩ := X1
  have ht : ∀ w ∈ TB, w.before args s = true := fun w h => hts w (List.mem_cons_of_mem _ h)
  have hK := hKK.1
  unfold B_Rn_put_0 at h
  refine lv_aload_n hx hb d_Rn_put_0 rfl (lv_at hl 0 rfl) ?_
  refine va_get (D := D) (ci := 8) (v := .ref (K 7 0)) (C := R_Rn) (T := T_Rn) (N := 16) hx hb ht in_Rn hown hK hI.1 0 rfl rfl 6 (by decide) (ht _ m_209) (fun _ h9 => h9) rfl d_Rn_put_1 ?_
  refine lv_iconst (v := 2) hx hb d_Rn_put_4 (by decide) ?_
  refine lv_aload_n hx hb d_Rn_put_5 rfl (lv_at hl 0 rfl) ?_
  refine va_get (D := D) (ci := 8) (v := .ref (K 6 0)) (C := R_Rn) (T := T_Rn) (N := 16) hx hb ht in_Rn hown hK hI.1 0 rfl rfl 5 (by decide) (ht _ m_208) (fun _ h9 => h9) rfl d_Rn_put_6 ?_
  obtain ⟨o1, ho2, h⟩ := bd_s h
  refine cl_i (W1 := fun (_ : Unit) => w_Rn g (K 0) (fun j => K (j + 1) 0) s0 ++ (w_Bs g (K 6) s1 ++ (w_Bs g (K 4) s2 ++ (w_Mg g (K 9) s3 ++ (w_Ou g (K 7) s4 ++ (w_Bs g (K 5) s5 ++ (rest))))))) (va_runV (As := []) (rest := [.int (2 : Int32), .ref (K 7 0)]) ⟨hx, hb, hml, hown, ht⟩ (c_Bs_count (l := l) (D := D) (A := A) (g := g) (rest := w_Rn g (K 0) (fun j => K (j + 1) 0) s0 ++ (w_Bs g (K 4) s2 ++ (w_Mg g (K 9) s3 ++ (w_Ou g (K 7) s4 ++ (w_Bs g (K 5) s5 ++ (rest)))))) (a0 := K 6) ho2) (cwV 0 ht (gd_V m_302 m_303 m_304 m_2 m_305) rfl rfl rfl (by decide +kernel) ⟨(Nat.le_of_ble_eq_true rfl), (Nat.le_of_ble_eq_true rfl)⟩) (prV (ci := 0) (q0 := 0) hKK hI (mv_1) rfl rfl rfl) rfl rfl hl.1 rfl (lv_room (Nat.le_of_ble_eq_true rfl)) d_Rn_put_9 ⟨(Nat.le_of_ble_eq_true rfl), (Nat.le_of_ble_eq_true rfl)⟩) hS (fun _ => ((mv_1)).symm) (fun _ H locs hI hS => ?_)
  have hI : Iw D A (w_Rn g (K 0) (fun j => K (j + 1) 0) s0 ++ (w_Bs g (K 6) s1 ++ (w_Bs g (K 4) s2 ++ (w_Mg g (K 9) s3 ++ (w_Ou g (K 7) s4 ++ (w_Bs g (K 5) s5 ++ (rest))))))) H := hI
  refine lv_iadd hx hb d_Rn_put_12 ?_
  obtain ⟨o3, ho4, h⟩ := bd_s h
  refine cl_i (W1 := fun (_ : Unit) => w_Rn g (K 0) (fun j => K (j + 1) 0) s0 ++ (w_Bs g (K 6) s1 ++ (w_Bs g (K 4) s2 ++ (w_Mg g (K 9) s3 ++ (w_Ou g (K 7) s4 ++ (w_Bs g (K 5) s5 ++ (rest))))))) (va_runV (As := [.int ((2 : Int32) + o1)]) (rest := []) ⟨hx, hb, hml, hown, ht⟩ (c_Ou_hasRoom (l := l) (D := D) (A := A) (g := g) (rest := w_Rn g (K 0) (fun j => K (j + 1) 0) s0 ++ (w_Bs g (K 6) s1 ++ (w_Bs g (K 4) s2 ++ (w_Mg g (K 9) s3 ++ (w_Bs g (K 5) s5 ++ (rest)))))) (a0 := K 7) ho4) (cwV 1 ht (gd_V m_326 m_327 m_328 m_3 m_329) rfl rfl rfl (by decide +kernel) ⟨(Nat.le_of_ble_eq_true rfl), (Nat.le_of_ble_eq_true rfl)⟩) (prV (ci := 4) (q0 := 0) hKK hI (mv_4) rfl rfl rfl) rfl rfl hl.1 rfl (lv_room (Nat.le_of_ble_eq_true rfl)) d_Rn_put_13 ⟨(Nat.le_of_ble_eq_true rfl), (Nat.le_of_ble_eq_true rfl)⟩) hS (fun _ => ((mv_4)).symm) (fun _ H locs hI hS => ?_)
  have hI : Iw D A (w_Rn g (K 0) (fun j => K (j + 1) 0) s0 ++ (w_Bs g (K 6) s1 ++ (w_Bs g (K 4) s2 ++ (w_Mg g (K 9) s3 ++ (w_Ou g (K 7) s4 ++ (w_Bs g (K 5) s5 ++ (rest))))))) H := hI
  refine lv_if_ne (tgt := 25) hx hb d_Rn_put_16 (by decide) (fun hc => ?_) (fun hc => ?_)
  · have h := it_f h hc
    exact t_Rn_put_25 X (lv_sub hl [0, 1] rfl) hI hS h
  · have h := it_t h hc
    exact t_Rn_put_19 X (lv_sub hl [0] rfl) hI hS h
set_option maxRecDepth 100000 in
set_option maxHeartbeats 4000000 in
theorem c_Rn_put {l : Launch} {D : va_G} {A : Nat → Prop} {g : Nat → ClassId} {rest : va_W} {K : Nat → Nat → Nat} {s0 : S_Rn} {s1 : S_Bs} {s2 : S_Bs} {s3 : S_Mg} {s4 : S_Ou} {s5 : S_Bs} {x1 : Int32} {out : Int32 × S_Rn × S_Bs × S_Mg × S_Ou × S_Bs} (h : F_Rn_put s0 s1 s2 s3 s4 s5 x1 = some out) : Met l y_Rn_put ws_Rn_put { frames := 2, cells := 0, slots := 0, locals := 41 } (PcW D A g [.ref (K 0 0), .int x1] (w_Rn g (K 0) (fun j => K (j + 1) 0) s0 ++ (w_Bs g (K 6) s1 ++ (w_Bs g (K 4) s2 ++ (w_Mg g (K 9) s3 ++ (w_Ou g (K 7) s4 ++ (w_Bs g (K 5) s5 ++ (rest)))))))) (QcI D A g out.1 (fun (_ : Unit) => w_Rn g (K 0) (fun j => K (j + 1) 0) out.2.1 ++ (w_Bs g (K 6) s1 ++ (w_Bs g (K 4) out.2.2.1 ++ (w_Mg g (K 9) out.2.2.2.1 ++ (w_Ou g (K 7) out.2.2.2.2.1 ++ (w_Bs g (K 5) out.2.2.2.2.2 ++ (rest)))))))) 0 0 A := by
  refine Met.ofW (cc := prog_1_method_23_code) (maxL := 3) (ret := (some .boolean)) (by decide) rfl ?_
  intro p e s m args below meth c s₁ B hml hv
  obtain ⟨rfl, hI, hK⟩ := hv
  have hl := lv_entry [.ref (K 0 0), .int x1] (n := 3) (Nat.le_of_ble_eq_true rfl)
  rw [lg_entry_eq]
  generalize (lg_sl [.ref (K 0 0), .int x1] ++ List.replicate (3 - (lg_sl [.ref (K 0 0), .int x1]).length) Slot.unset).toArray = ls at hl ⊢
  have hl : lv_has ls 3 [(0, .ref (K 0 0)), (1, .int x1)] := hl
  exact t_Rn_put_0 ⟨B.exec, B.bytes, hml, findClass_of_methodNamed B.named, atoms_spec (ws := ws_Rn_put) B.pre, B.returns, B.notSynchronized, hK⟩ (lv_sub hl [0, 1] rfl) hI va_S.rf h
def ws_Rn_breakOff : List Cond := .code y_Rn_breakOff prog_1_method_22_code 1 none :: TB
def B_Rn_breakOff_21 (s0 : S_Rn) (s1 : S_Bs) (s2 : S_Bs) (s3 : S_Mg) (s4 : S_Ou) (s5 : S_Bs) : Option (S_Rn × S_Bs × S_Bs × S_Mg × S_Ou × S_Bs) :=
  some (s0, s1, s2, s3, s4, s5)
def B_Rn_breakOff_16 (s0 : S_Rn) (s1 : S_Bs) (s2 : S_Bs) (s3 : S_Mg) (s4 : S_Ou) (s5 : S_Bs) : Option (S_Rn × S_Bs × S_Bs × S_Mg × S_Ou × S_Bs) :=
  ((F_Rn_begin s0 (3 : Int32)).bind fun o1 => (B_Rn_breakOff_21 o1 s1 s2 s3 s4 s5))
def B_Rn_breakOff_0 (s0 : S_Rn) (s1 : S_Bs) (s2 : S_Bs) (s3 : S_Mg) (s4 : S_Ou) (s5 : S_Bs) : Option (S_Rn × S_Bs × S_Bs × S_Mg × S_Ou × S_Bs) :=
  ((F_Bs_reset s1).bind fun o1 => ((F_Rn_put s0 o1 s2 s3 s4 s5 (7 : Int32)).bind fun o3 => (if o3.1 = 0 then (B_Rn_breakOff_21 o3.2.1 o1 o3.2.2.1 o3.2.2.2.1 o3.2.2.2.2.1 o3.2.2.2.2.2) else (B_Rn_breakOff_16 o3.2.1 o1 o3.2.2.1 o3.2.2.2.1 o3.2.2.2.2.1 o3.2.2.2.2.2))))
def F_Rn_breakOff (s0 : S_Rn) (s1 : S_Bs) (s2 : S_Bs) (s3 : S_Mg) (s4 : S_Ou) (s5 : S_Bs) : Option (S_Rn × S_Bs × S_Bs × S_Mg × S_Ou × S_Bs) := B_Rn_breakOff_0 s0 s1 s2 s3 s4 s5
set_option maxRecDepth 100000 in
set_option maxHeartbeats 4000000 in
theorem t_Rn_breakOff_21 {p : Program} {l : Launch} {e : Env} {s : State} {m : MethodId} {args : Array Value} {below : List Frame} {meth : Method} {c : Code} {D : va_G} {A : Nat → Prop} {g : Nat → ClassId} {rest : va_W} {K : Nat → Nat → Nat} {ls : Array Slot} {H : Heap} {locs : List Loc} {s0 : S_Rn} {s1 : S_Bs} {s2 : S_Bs} {s3 : S_Mg} {s4 : S_Ou} {s5 : S_Bs} {out : S_Rn × S_Bs × S_Bs × S_Mg × S_Ou × S_Bs} (X : Cx p s m args meth c prog_1_method_22_code 1 ws_Rn_breakOff R_Rn none D g) (hl : lv_has ls 1 []) (hI : Iw D A (w_Rn g (K 0) (fun j => K (j + 1) 0) s0 ++ (w_Bs g (K 6) s1 ++ (w_Bs g (K 4) s2 ++ (w_Mg g (K 9) s3 ++ (w_Ou g (K 7) s4 ++ (w_Bs g (K 5) s5 ++ (rest))))))) H) (hS : va_S A s.heap H locs) (h : B_Rn_breakOff_21  s0 s1 s2 s3 s4 s5 = some out) : W p l e (headSpec ws_Rn_breakOff { frames := 3, cells := 0, slots := 0, locals := 63 }).room s m args below meth c H locs 0 0 (MQ below (QcV D A g (fun (_ : Unit) => w_Rn g (K 0) (fun j => K (j + 1) 0) out.1 ++ (w_Bs g (K 6) out.2.1 ++ (w_Bs g (K 4) out.2.2.1 ++ (w_Mg g (K 9) out.2.2.2.1 ++ (w_Ou g (K 7) out.2.2.2.2.1 ++ (w_Bs g (K 5) out.2.2.2.2.2 ++ (rest)))))))) args s 0 0 A) (F0 m 21 ls []) := by
  have X1 := X
  obtain ⟨hx, hb, hml, hown, hts, hr, hlocks, hKK⟩ := X1
  have ht : ∀ w ∈ TB, w.before args s = true := fun w h => hts w (List.mem_cons_of_mem _ h)
  have hK := hKK.1
  unfold B_Rn_breakOff_21 at h
  have h9 := Option.some.inj h
  subst h9
  exact W.vret hx hb hr (fun t ht hW => ⟨⟨(), rfl, trivial, ⟨by rw [ht]; exact hI, hKK.moved hW⟩⟩, hS.F ht⟩) hS.2.2 d_Rn_breakOff_21
set_option maxRecDepth 100000 in
set_option maxHeartbeats 4000000 in
theorem t_Rn_breakOff_16 {p : Program} {l : Launch} {e : Env} {s : State} {m : MethodId} {args : Array Value} {below : List Frame} {meth : Method} {c : Code} {D : va_G} {A : Nat → Prop} {g : Nat → ClassId} {rest : va_W} {K : Nat → Nat → Nat} {ls : Array Slot} {H : Heap} {locs : List Loc} {s0 : S_Rn} {s1 : S_Bs} {s2 : S_Bs} {s3 : S_Mg} {s4 : S_Ou} {s5 : S_Bs} {out : S_Rn × S_Bs × S_Bs × S_Mg × S_Ou × S_Bs} (X : Cx p s m args meth c prog_1_method_22_code 1 ws_Rn_breakOff R_Rn none D g) (hl : lv_has ls 1 [(0, .ref (K 0 0))]) (hI : Iw D A (w_Rn g (K 0) (fun j => K (j + 1) 0) s0 ++ (w_Bs g (K 6) s1 ++ (w_Bs g (K 4) s2 ++ (w_Mg g (K 9) s3 ++ (w_Ou g (K 7) s4 ++ (w_Bs g (K 5) s5 ++ (rest))))))) H) (hS : va_S A s.heap H locs) (h : B_Rn_breakOff_16  s0 s1 s2 s3 s4 s5 = some out) : W p l e (headSpec ws_Rn_breakOff { frames := 3, cells := 0, slots := 0, locals := 63 }).room s m args below meth c H locs 0 0 (MQ below (QcV D A g (fun (_ : Unit) => w_Rn g (K 0) (fun j => K (j + 1) 0) out.1 ++ (w_Bs g (K 6) out.2.1 ++ (w_Bs g (K 4) out.2.2.1 ++ (w_Mg g (K 9) out.2.2.2.1 ++ (w_Ou g (K 7) out.2.2.2.2.1 ++ (w_Bs g (K 5) out.2.2.2.2.2 ++ (rest)))))))) args s 0 0 A) (F0 m 16 ls []) := by
  have X1 := X
  obtain ⟨hx, hb, hml, hown, hts, hr, hlocks, hKK⟩ := X1
  have ht : ∀ w ∈ TB, w.before args s = true := fun w h => hts w (List.mem_cons_of_mem _ h)
  have hK := hKK.1
  unfold B_Rn_breakOff_16 at h
  refine lv_aload_n hx hb d_Rn_breakOff_16 rfl (lv_at hl 0 rfl) ?_
  refine lv_iconst (v := 3) hx hb d_Rn_breakOff_17 (by decide) ?_
  obtain ⟨o1, ho2, h⟩ := bd_s h
  refine cl_v (W1 := fun (_ : Unit) => w_Rn g (K 0) (fun j => K (j + 1) 0) o1 ++ (w_Bs g (K 6) s1 ++ (w_Bs g (K 4) s2 ++ (w_Mg g (K 9) s3 ++ (w_Ou g (K 7) s4 ++ (w_Bs g (K 5) s5 ++ (rest))))))) (va_runV (As := [.int (3 : Int32)]) (rest := []) ⟨hx, hb, hml, hown, ht⟩ (c_Rn_begin (l := l) (D := D) (A := A) (g := g) (rest := w_Bs g (K 6) s1 ++ (w_Bs g (K 4) s2 ++ (w_Mg g (K 9) s3 ++ (w_Ou g (K 7) s4 ++ (w_Bs g (K 5) s5 ++ (rest)))))) (K := K) ho2) (cwV 1 ht (gd_V m_282 m_284 mp_0 m_1 m_285) rfl rfl rfl (by decide +kernel) ⟨(Nat.le_of_ble_eq_true rfl), (Nat.le_of_ble_eq_true rfl)⟩) (prV (ci := 8) (q0 := 0) hKK hI (List.Perm.refl _) rfl rfl rfl) rfl rfl hl.1 rfl (lv_room (Nat.le_of_ble_eq_true rfl)) d_Rn_breakOff_18 ⟨(Nat.le_of_ble_eq_true rfl), (Nat.le_of_ble_eq_true rfl)⟩) hS (fun _ => ((List.Perm.refl _)).symm) (fun _ H locs hI hS => ?_)
  have hI : Iw D A (w_Rn g (K 0) (fun j => K (j + 1) 0) o1 ++ (w_Bs g (K 6) s1 ++ (w_Bs g (K 4) s2 ++ (w_Mg g (K 9) s3 ++ (w_Ou g (K 7) s4 ++ (w_Bs g (K 5) s5 ++ (rest))))))) H := hI
  exact t_Rn_breakOff_21 X (lv_sub hl [] rfl) hI hS h
set_option maxRecDepth 100000 in
set_option maxHeartbeats 4000000 in
theorem t_Rn_breakOff_0 {p : Program} {l : Launch} {e : Env} {s : State} {m : MethodId} {args : Array Value} {below : List Frame} {meth : Method} {c : Code} {D : va_G} {A : Nat → Prop} {g : Nat → ClassId} {rest : va_W} {K : Nat → Nat → Nat} {ls : Array Slot} {H : Heap} {locs : List Loc} {s0 : S_Rn} {s1 : S_Bs} {s2 : S_Bs} {s3 : S_Mg} {s4 : S_Ou} {s5 : S_Bs} {out : S_Rn × S_Bs × S_Bs × S_Mg × S_Ou × S_Bs} (X : Cx p s m args meth c prog_1_method_22_code 1 ws_Rn_breakOff R_Rn none D g) (hl : lv_has ls 1 [(0, .ref (K 0 0))]) (hI : Iw D A (w_Rn g (K 0) (fun j => K (j + 1) 0) s0 ++ (w_Bs g (K 6) s1 ++ (w_Bs g (K 4) s2 ++ (w_Mg g (K 9) s3 ++ (w_Ou g (K 7) s4 ++ (w_Bs g (K 5) s5 ++ (rest))))))) H) (hS : va_S A s.heap H locs) (h : B_Rn_breakOff_0  s0 s1 s2 s3 s4 s5 = some out) : W p l e (headSpec ws_Rn_breakOff { frames := 3, cells := 0, slots := 0, locals := 63 }).room s m args below meth c H locs 0 0 (MQ below (QcV D A g (fun (_ : Unit) => w_Rn g (K 0) (fun j => K (j + 1) 0) out.1 ++ (w_Bs g (K 6) out.2.1 ++ (w_Bs g (K 4) out.2.2.1 ++ (w_Mg g (K 9) out.2.2.2.1 ++ (w_Ou g (K 7) out.2.2.2.2.1 ++ (w_Bs g (K 5) out.2.2.2.2.2 ++ (rest)))))))) args s 0 0 A) (F0 m 0 ls []) := by
  have X1 := X
  obtain ⟨hx, hb, hml, hown, hts, hr, hlocks, hKK⟩ := X1
  have ht : ∀ w ∈ TB, w.before args s = true := fun w h => hts w (List.mem_cons_of_mem _ h)
  have hK := hKK.1
  unfold B_Rn_breakOff_0 at h
  refine lv_aload_n hx hb d_Rn_breakOff_0 rfl (lv_at hl 0 rfl) ?_
  refine va_get (D := D) (ci := 8) (v := .ref (K 6 0)) (C := R_Rn) (T := T_Rn) (N := 16) hx hb ht in_Rn hown hK hI.1 0 rfl rfl 5 (by decide) (ht _ m_208) (fun _ h9 => h9) rfl d_Rn_breakOff_1 ?_
  obtain ⟨o1, ho2, h⟩ := bd_s h
  refine cl_v (W1 := fun (_ : Unit) => w_Rn g (K 0) (fun j => K (j + 1) 0) s0 ++ (w_Bs g (K 6) o1 ++ (w_Bs g (K 4) s2 ++ (w_Mg g (K 9) s3 ++ (w_Ou g (K 7) s4 ++ (w_Bs g (K 5) s5 ++ (rest))))))) (va_runV (As := []) (rest := []) ⟨hx, hb, hml, hown, ht⟩ (c_Bs_reset (l := l) (D := D) (A := A) (g := g) (rest := w_Rn g (K 0) (fun j => K (j + 1) 0) s0 ++ (w_Bs g (K 4) s2 ++ (w_Mg g (K 9) s3 ++ (w_Ou g (K 7) s4 ++ (w_Bs g (K 5) s5 ++ (rest)))))) (a0 := K 6) ho2) (cwV 0 ht (gd_V m_274 m_275 m_276 m_2 m_277) rfl rfl rfl (by decide +kernel) ⟨(Nat.le_of_ble_eq_true rfl), (Nat.le_of_ble_eq_true rfl)⟩) (prV (ci := 0) (q0 := 0) hKK hI (mv_1) rfl rfl rfl) rfl rfl hl.1 rfl (lv_room (Nat.le_of_ble_eq_true rfl)) d_Rn_breakOff_4 ⟨(Nat.le_of_ble_eq_true rfl), (Nat.le_of_ble_eq_true rfl)⟩) hS (fun _ => ((mv_1)).symm) (fun _ H locs hI hS => ?_)
  have hI : Iw D A (w_Rn g (K 0) (fun j => K (j + 1) 0) s0 ++ (w_Bs g (K 6) o1 ++ (w_Bs g (K 4) s2 ++ (w_Mg g (K 9) s3 ++ (w_Ou g (K 7) s4 ++ (w_Bs g (K 5) s5 ++ (rest))))))) H := hI
  refine lv_aload_n hx hb d_Rn_breakOff_7 rfl (lv_at hl 0 rfl) ?_
  refine lv_bipush (v := 7) hx hb d_Rn_breakOff_8 (by decide) ?_
  obtain ⟨o3, ho4, h⟩ := bd_s h
  refine cl_i (W1 := fun (_ : Unit) => w_Rn g (K 0) (fun j => K (j + 1) 0) o3.2.1 ++ (w_Bs g (K 6) o1 ++ (w_Bs g (K 4) o3.2.2.1 ++ (w_Mg g (K 9) o3.2.2.2.1 ++ (w_Ou g (K 7) o3.2.2.2.2.1 ++ (w_Bs g (K 5) o3.2.2.2.2.2 ++ (rest))))))) (va_runV (As := [.int (7 : Int32)]) (rest := []) ⟨hx, hb, hml, hown, ht⟩ (c_Rn_put (l := l) (D := D) (A := A) (g := g) (rest := rest) (K := K) ho4) (cwV 1 ht (gd_V m_322 m_324 mp_5 m_1 m_325) rfl rfl rfl (by decide +kernel) ⟨(Nat.le_of_ble_eq_true rfl), (Nat.le_of_ble_eq_true rfl)⟩) (prV (ci := 8) (q0 := 0) hKK hI ((mv_5).trans ((mv_5).trans ((mv_5).trans ((mv_5).trans ((mv_5).trans (mv_5)))))) rfl rfl rfl) rfl rfl hl.1 rfl (lv_room (Nat.le_of_ble_eq_true rfl)) d_Rn_breakOff_10 ⟨(Nat.le_of_ble_eq_true rfl), (Nat.le_of_ble_eq_true rfl)⟩) hS (fun _ => (((mv_5).trans ((mv_5).trans ((mv_5).trans ((mv_5).trans ((mv_5).trans (mv_5))))))).symm) (fun _ H locs hI hS => ?_)
  have hI : Iw D A (w_Rn g (K 0) (fun j => K (j + 1) 0) o3.2.1 ++ (w_Bs g (K 6) o1 ++ (w_Bs g (K 4) o3.2.2.1 ++ (w_Mg g (K 9) o3.2.2.2.1 ++ (w_Ou g (K 7) o3.2.2.2.2.1 ++ (w_Bs g (K 5) o3.2.2.2.2.2 ++ (rest))))))) H := hI
  refine lv_if_eq (tgt := 21) hx hb d_Rn_breakOff_13 (by decide) (fun hc => ?_) (fun hc => ?_)
  · have h := it_t h hc
    exact t_Rn_breakOff_21 X (lv_sub hl [] rfl) hI hS h
  · have h := it_f h hc
    exact t_Rn_breakOff_16 X (lv_sub hl [0] rfl) hI hS h
set_option maxRecDepth 100000 in
set_option maxHeartbeats 4000000 in
theorem c_Rn_breakOff {l : Launch} {D : va_G} {A : Nat → Prop} {g : Nat → ClassId} {rest : va_W} {K : Nat → Nat → Nat} {s0 : S_Rn} {s1 : S_Bs} {s2 : S_Bs} {s3 : S_Mg} {s4 : S_Ou} {s5 : S_Bs} {out : S_Rn × S_Bs × S_Bs × S_Mg × S_Ou × S_Bs} (h : F_Rn_breakOff s0 s1 s2 s3 s4 s5 = some out) : Met l y_Rn_breakOff ws_Rn_breakOff { frames := 3, cells := 0, slots := 0, locals := 63 } (PcW D A g [.ref (K 0 0)] (w_Rn g (K 0) (fun j => K (j + 1) 0) s0 ++ (w_Bs g (K 6) s1 ++ (w_Bs g (K 4) s2 ++ (w_Mg g (K 9) s3 ++ (w_Ou g (K 7) s4 ++ (w_Bs g (K 5) s5 ++ (rest)))))))) (QcV D A g (fun (_ : Unit) => w_Rn g (K 0) (fun j => K (j + 1) 0) out.1 ++ (w_Bs g (K 6) out.2.1 ++ (w_Bs g (K 4) out.2.2.1 ++ (w_Mg g (K 9) out.2.2.2.1 ++ (w_Ou g (K 7) out.2.2.2.2.1 ++ (w_Bs g (K 5) out.2.2.2.2.2 ++ (rest)))))))) 0 0 A := by
  refine Met.ofW (cc := prog_1_method_22_code) (maxL := 1) (ret := none) (by decide) rfl ?_
  intro p e s m args below meth c s₁ B hml hv
  obtain ⟨rfl, hI, hK⟩ := hv
  have hl := lv_entry [.ref (K 0 0)] (n := 1) (Nat.le_of_ble_eq_true rfl)
  rw [lg_entry_eq]
  generalize (lg_sl [.ref (K 0 0)] ++ List.replicate (1 - (lg_sl [.ref (K 0 0)]).length) Slot.unset).toArray = ls at hl ⊢
  have hl : lv_has ls 1 [(0, .ref (K 0 0))] := hl
  exact t_Rn_breakOff_0 ⟨B.exec, B.bytes, hml, findClass_of_methodNamed B.named, atoms_spec (ws := ws_Rn_breakOff) B.pre, B.returns, B.notSynchronized, hK⟩ (lv_sub hl [0] rfl) hI va_S.rf h
def ws_Rn_refuseLength : List Cond := .code y_Rn_refuseLength prog_1_method_25_code 1 none :: TB
def B_Rn_refuseLength_19 (s0 : S_Rn) (s1 : S_Bs) (s2 : S_Bs) (s3 : S_Mg) (s4 : S_Ou) (s5 : S_Bs) : Option (S_Rn × S_Bs × S_Bs × S_Mg × S_Ou × S_Bs) :=
  some (s0, s1, s2, s3, s4, s5)
def B_Rn_refuseLength_15 (s0 : S_Rn) (s1 : S_Bs) (s2 : S_Bs) (s3 : S_Mg) (s4 : S_Ou) (s5 : S_Bs) : Option (S_Rn × S_Bs × S_Bs × S_Mg × S_Ou × S_Bs) :=
  ((F_Rn_breakOff s0 s1 s2 s3 s4 s5).bind fun o1 => (B_Rn_refuseLength_19 o1.1 o1.2.1 o1.2.2.1 o1.2.2.2.1 o1.2.2.2.2.1 o1.2.2.2.2.2))
def B_Rn_refuseLength_8 (s0 : S_Rn) (s1 : S_Bs) (s2 : S_Bs) (s3 : S_Mg) (s4 : S_Ou) (s5 : S_Bs) : Option (S_Rn × S_Bs × S_Bs × S_Mg × S_Ou × S_Bs) :=
  ((F_Rn_shut s0 s2 s3 s5).bind fun o1 => (B_Rn_refuseLength_19 o1.1 s1 o1.2.1 o1.2.2.1 s4 o1.2.2.2))
def B_Rn_refuseLength_0 (s0 : S_Rn) (s1 : S_Bs) (s2 : S_Bs) (s3 : S_Mg) (s4 : S_Ou) (s5 : S_Bs) : Option (S_Rn × S_Bs × S_Bs × S_Mg × S_Ou × S_Bs) :=
  (if (Rn_phase s0) = (3 : Int32) then (B_Rn_refuseLength_8 s0 s1 s2 s3 s4 s5) else (B_Rn_refuseLength_15 s0 s1 s2 s3 s4 s5))
def F_Rn_refuseLength (s0 : S_Rn) (s1 : S_Bs) (s2 : S_Bs) (s3 : S_Mg) (s4 : S_Ou) (s5 : S_Bs) : Option (S_Rn × S_Bs × S_Bs × S_Mg × S_Ou × S_Bs) := B_Rn_refuseLength_0 s0 s1 s2 s3 s4 s5
set_option maxRecDepth 100000 in
set_option maxHeartbeats 4000000 in
theorem t_Rn_refuseLength_19 {p : Program} {l : Launch} {e : Env} {s : State} {m : MethodId} {args : Array Value} {below : List Frame} {meth : Method} {c : Code} {D : va_G} {A : Nat → Prop} {g : Nat → ClassId} {rest : va_W} {K : Nat → Nat → Nat} {ls : Array Slot} {H : Heap} {locs : List Loc} {s0 : S_Rn} {s1 : S_Bs} {s2 : S_Bs} {s3 : S_Mg} {s4 : S_Ou} {s5 : S_Bs} {out : S_Rn × S_Bs × S_Bs × S_Mg × S_Ou × S_Bs} (X : Cx p s m args meth c prog_1_method_25_code 1 ws_Rn_refuseLength R_Rn none D g) (hl : lv_has ls 1 []) (hI : Iw D A (w_Rn g (K 0) (fun j => K (j + 1) 0) s0 ++ (w_Bs g (K 6) s1 ++ (w_Bs g (K 4) s2 ++ (w_Mg g (K 9) s3 ++ (w_Ou g (K 7) s4 ++ (w_Bs g (K 5) s5 ++ (rest))))))) H) (hS : va_S A s.heap H locs) (h : B_Rn_refuseLength_19  s0 s1 s2 s3 s4 s5 = some out) : W p l e (headSpec ws_Rn_refuseLength { frames := 4, cells := 0, slots := 0, locals := 83 }).room s m args below meth c H locs 0 0 (MQ below (QcV D A g (fun (_ : Unit) => w_Rn g (K 0) (fun j => K (j + 1) 0) out.1 ++ (w_Bs g (K 6) out.2.1 ++ (w_Bs g (K 4) out.2.2.1 ++ (w_Mg g (K 9) out.2.2.2.1 ++ (w_Ou g (K 7) out.2.2.2.2.1 ++ (w_Bs g (K 5) out.2.2.2.2.2 ++ (rest)))))))) args s 0 0 A) (F0 m 19 ls []) := by
  have X1 := X
  obtain ⟨hx, hb, hml, hown, hts, hr, hlocks, hKK⟩ := X1
  have ht : ∀ w ∈ TB, w.before args s = true := fun w h => hts w (List.mem_cons_of_mem _ h)
  have hK := hKK.1
  unfold B_Rn_refuseLength_19 at h
  have h9 := Option.some.inj h
  subst h9
  exact W.vret hx hb hr (fun t ht hW => ⟨⟨(), rfl, trivial, ⟨by rw [ht]; exact hI, hKK.moved hW⟩⟩, hS.F ht⟩) hS.2.2 d_Rn_refuseLength_19
set_option maxRecDepth 100000 in
set_option maxHeartbeats 4000000 in
theorem t_Rn_refuseLength_15 {p : Program} {l : Launch} {e : Env} {s : State} {m : MethodId} {args : Array Value} {below : List Frame} {meth : Method} {c : Code} {D : va_G} {A : Nat → Prop} {g : Nat → ClassId} {rest : va_W} {K : Nat → Nat → Nat} {ls : Array Slot} {H : Heap} {locs : List Loc} {s0 : S_Rn} {s1 : S_Bs} {s2 : S_Bs} {s3 : S_Mg} {s4 : S_Ou} {s5 : S_Bs} {out : S_Rn × S_Bs × S_Bs × S_Mg × S_Ou × S_Bs} (X : Cx p s m args meth c prog_1_method_25_code 1 ws_Rn_refuseLength R_Rn none D g) (hl : lv_has ls 1 [(0, .ref (K 0 0))]) (hI : Iw D A (w_Rn g (K 0) (fun j => K (j + 1) 0) s0 ++ (w_Bs g (K 6) s1 ++ (w_Bs g (K 4) s2 ++ (w_Mg g (K 9) s3 ++ (w_Ou g (K 7) s4 ++ (w_Bs g (K 5) s5 ++ (rest))))))) H) (hS : va_S A s.heap H locs) (h : B_Rn_refuseLength_15  s0 s1 s2 s3 s4 s5 = some out) : W p l e (headSpec ws_Rn_refuseLength { frames := 4, cells := 0, slots := 0, locals := 83 }).room s m args below meth c H locs 0 0 (MQ below (QcV D A g (fun (_ : Unit) => w_Rn g (K 0) (fun j => K (j + 1) 0) out.1 ++ (w_Bs g (K 6) out.2.1 ++ (w_Bs g (K 4) out.2.2.1 ++ (w_Mg g (K 9) out.2.2.2.1 ++ (w_Ou g (K 7) out.2.2.2.2.1 ++ (w_Bs g (K 5) out.2.2.2.2.2 ++ (rest)))))))) args s 0 0 A) (F0 m 15 ls []) := by
  have X1 := X
  obtain ⟨hx, hb, hml, hown, hts, hr, hlocks, hKK⟩ := X1
  have ht : ∀ w ∈ TB, w.before args s = true := fun w h => hts w (List.mem_cons_of_mem _ h)
  have hK := hKK.1
  unfold B_Rn_refuseLength_15 at h
  refine lv_aload_n hx hb d_Rn_refuseLength_15 rfl (lv_at hl 0 rfl) ?_
  obtain ⟨o1, ho2, h⟩ := bd_s h
  refine cl_v (W1 := fun (_ : Unit) => w_Rn g (K 0) (fun j => K (j + 1) 0) o1.1 ++ (w_Bs g (K 6) o1.2.1 ++ (w_Bs g (K 4) o1.2.2.1 ++ (w_Mg g (K 9) o1.2.2.2.1 ++ (w_Ou g (K 7) o1.2.2.2.2.1 ++ (w_Bs g (K 5) o1.2.2.2.2.2 ++ (rest))))))) (va_runV (As := []) (rest := []) ⟨hx, hb, hml, hown, ht⟩ (c_Rn_breakOff (l := l) (D := D) (A := A) (g := g) (rest := rest) (K := K) ho2) (cwV 0 ht (gd_V m_318 m_320 mp_4 m_1 m_321) rfl rfl rfl (by decide +kernel) ⟨(Nat.le_of_ble_eq_true rfl), (Nat.le_of_ble_eq_true rfl)⟩) (prV (ci := 8) (q0 := 0) hKK hI ((mv_5).trans ((mv_5).trans ((mv_5).trans ((mv_5).trans ((mv_5).trans (mv_5)))))) rfl rfl rfl) rfl rfl hl.1 rfl (lv_room (Nat.le_of_ble_eq_true rfl)) d_Rn_refuseLength_16 ⟨(Nat.le_of_ble_eq_true rfl), (Nat.le_of_ble_eq_true rfl)⟩) hS (fun _ => (((mv_5).trans ((mv_5).trans ((mv_5).trans ((mv_5).trans ((mv_5).trans (mv_5))))))).symm) (fun _ H locs hI hS => ?_)
  have hI : Iw D A (w_Rn g (K 0) (fun j => K (j + 1) 0) o1.1 ++ (w_Bs g (K 6) o1.2.1 ++ (w_Bs g (K 4) o1.2.2.1 ++ (w_Mg g (K 9) o1.2.2.2.1 ++ (w_Ou g (K 7) o1.2.2.2.2.1 ++ (w_Bs g (K 5) o1.2.2.2.2.2 ++ (rest))))))) H := hI
  exact t_Rn_refuseLength_19 X (lv_sub hl [] rfl) hI hS h
set_option maxRecDepth 100000 in
set_option maxHeartbeats 4000000 in
theorem t_Rn_refuseLength_8 {p : Program} {l : Launch} {e : Env} {s : State} {m : MethodId} {args : Array Value} {below : List Frame} {meth : Method} {c : Code} {D : va_G} {A : Nat → Prop} {g : Nat → ClassId} {rest : va_W} {K : Nat → Nat → Nat} {ls : Array Slot} {H : Heap} {locs : List Loc} {s0 : S_Rn} {s1 : S_Bs} {s2 : S_Bs} {s3 : S_Mg} {s4 : S_Ou} {s5 : S_Bs} {out : S_Rn × S_Bs × S_Bs × S_Mg × S_Ou × S_Bs} (X : Cx p s m args meth c prog_1_method_25_code 1 ws_Rn_refuseLength R_Rn none D g) (hl : lv_has ls 1 [(0, .ref (K 0 0))]) (hI : Iw D A (w_Rn g (K 0) (fun j => K (j + 1) 0) s0 ++ (w_Bs g (K 6) s1 ++ (w_Bs g (K 4) s2 ++ (w_Mg g (K 9) s3 ++ (w_Ou g (K 7) s4 ++ (w_Bs g (K 5) s5 ++ (rest))))))) H) (hS : va_S A s.heap H locs) (h : B_Rn_refuseLength_8  s0 s1 s2 s3 s4 s5 = some out) : W p l e (headSpec ws_Rn_refuseLength { frames := 4, cells := 0, slots := 0, locals := 83 }).room s m args below meth c H locs 0 0 (MQ below (QcV D A g (fun (_ : Unit) => w_Rn g (K 0) (fun j => K (j + 1) 0) out.1 ++ (w_Bs g (K 6) out.2.1 ++ (w_Bs g (K 4) out.2.2.1 ++ (w_Mg g (K 9) out.2.2.2.1 ++ (w_Ou g (K 7) out.2.2.2.2.1 ++ (w_Bs g (K 5) out.2.2.2.2.2 ++ (rest)))))))) args s 0 0 A) (F0 m 8 ls []) := by
  have X1 := X
  obtain ⟨hx, hb, hml, hown, hts, hr, hlocks, hKK⟩ := X1
  have ht : ∀ w ∈ TB, w.before args s = true := fun w h => hts w (List.mem_cons_of_mem _ h)
  have hK := hKK.1
  unfold B_Rn_refuseLength_8 at h
  refine lv_aload_n hx hb d_Rn_refuseLength_8 rfl (lv_at hl 0 rfl) ?_
  obtain ⟨o1, ho2, h⟩ := bd_s h
  refine cl_v (W1 := fun (_ : Unit) => w_Rn g (K 0) (fun j => K (j + 1) 0) o1.1 ++ (w_Bs g (K 6) s1 ++ (w_Bs g (K 4) o1.2.1 ++ (w_Mg g (K 9) o1.2.2.1 ++ (w_Ou g (K 7) s4 ++ (w_Bs g (K 5) o1.2.2.2 ++ (rest))))))) (va_runV (As := []) (rest := []) ⟨hx, hb, hml, hown, ht⟩ (c_Rn_shut (l := l) (D := D) (A := A) (g := g) (rest := w_Bs g (K 6) s1 ++ (w_Ou g (K 7) s4 ++ (rest))) (K := K) ho2) (cwV 0 ht (gd_V m_290 m_292 mp_1 m_1 m_293) rfl rfl rfl (by decide +kernel) ⟨(Nat.le_of_ble_eq_true rfl), (Nat.le_of_ble_eq_true rfl)⟩) (prV (ci := 8) (q0 := 0) hKK hI ((mv_5).trans ((mv_4).trans ((mv_4).trans (mv_3)))) rfl rfl rfl) rfl rfl hl.1 rfl (lv_room (Nat.le_of_ble_eq_true rfl)) d_Rn_refuseLength_9 ⟨(Nat.le_of_ble_eq_true rfl), (Nat.le_of_ble_eq_true rfl)⟩) hS (fun _ => (((mv_5).trans ((mv_4).trans ((mv_4).trans (mv_3))))).symm) (fun _ H locs hI hS => ?_)
  have hI : Iw D A (w_Rn g (K 0) (fun j => K (j + 1) 0) o1.1 ++ (w_Bs g (K 6) s1 ++ (w_Bs g (K 4) o1.2.1 ++ (w_Mg g (K 9) o1.2.2.1 ++ (w_Ou g (K 7) s4 ++ (w_Bs g (K 5) o1.2.2.2 ++ (rest))))))) H := hI
  refine lv_goto (tgt := 19) hx hb d_Rn_refuseLength_12 (by decide) ?_
  exact t_Rn_refuseLength_19 X (lv_sub hl [] rfl) hI hS h
set_option maxRecDepth 100000 in
set_option maxHeartbeats 4000000 in
theorem t_Rn_refuseLength_0 {p : Program} {l : Launch} {e : Env} {s : State} {m : MethodId} {args : Array Value} {below : List Frame} {meth : Method} {c : Code} {D : va_G} {A : Nat → Prop} {g : Nat → ClassId} {rest : va_W} {K : Nat → Nat → Nat} {ls : Array Slot} {H : Heap} {locs : List Loc} {s0 : S_Rn} {s1 : S_Bs} {s2 : S_Bs} {s3 : S_Mg} {s4 : S_Ou} {s5 : S_Bs} {out : S_Rn × S_Bs × S_Bs × S_Mg × S_Ou × S_Bs} (X : Cx p s m args meth c prog_1_method_25_code 1 ws_Rn_refuseLength R_Rn none D g) (hl : lv_has ls 1 [(0, .ref (K 0 0))]) (hI : Iw D A (w_Rn g (K 0) (fun j => K (j + 1) 0) s0 ++ (w_Bs g (K 6) s1 ++ (w_Bs g (K 4) s2 ++ (w_Mg g (K 9) s3 ++ (w_Ou g (K 7) s4 ++ (w_Bs g (K 5) s5 ++ (rest))))))) H) (hS : va_S A s.heap H locs) (h : B_Rn_refuseLength_0  s0 s1 s2 s3 s4 s5 = some out) : W p l e (headSpec ws_Rn_refuseLength { frames := 4, cells := 0, slots := 0, locals := 83 }).room s m args below meth c H locs 0 0 (MQ below (QcV D A g (fun (_ : Unit) => w_Rn g (K 0) (fun j => K (j + 1) 0) out.1 ++ (w_Bs g (K 6) out.2.1 ++ (w_Bs g (K 4) out.2.2.1 ++ (w_Mg g (K 9) out.2.2.2.1 ++ (w_Ou g (K 7) out.2.2.2.2.1 ++ (w_Bs g (K 5) out.2.2.2.2.2 ++ (rest)))))))) args s 0 0 A) (F0 m 0 ls []) := by
  have X1 := X
  obtain ⟨hx, hb, hml, hown, hts, hr, hlocks, hKK⟩ := X1
  have ht : ∀ w ∈ TB, w.before args s = true := fun w h => hts w (List.mem_cons_of_mem _ h)
  have hK := hKK.1
  unfold B_Rn_refuseLength_0 at h
  refine lv_aload_n hx hb d_Rn_refuseLength_0 rfl (lv_at hl 0 rfl) ?_
  refine va_get (D := D) (ci := 8) (v := .int (Rn_phase s0)) (C := R_Rn) (T := T_Rn) (N := 16) hx hb ht in_Rn hown hK hI.1 0 rfl rfl 13 (by decide) (ht _ m_216) (fun _ h9 => h9) rfl d_Rn_refuseLength_1 ?_
  refine lv_iconst (v := 3) hx hb d_Rn_refuseLength_4 (by decide) ?_
  refine lv_icmp_ne (tgt := 15) hx hb d_Rn_refuseLength_5 (by decide) (fun hc => ?_) (fun hc => ?_)
  · have h := it_f h hc
    exact t_Rn_refuseLength_15 X (lv_sub hl [0] rfl) hI hS h
  · have h := it_t h hc
    exact t_Rn_refuseLength_8 X (lv_sub hl [0] rfl) hI hS h
set_option maxRecDepth 100000 in
set_option maxHeartbeats 4000000 in
theorem c_Rn_refuseLength {l : Launch} {D : va_G} {A : Nat → Prop} {g : Nat → ClassId} {rest : va_W} {K : Nat → Nat → Nat} {s0 : S_Rn} {s1 : S_Bs} {s2 : S_Bs} {s3 : S_Mg} {s4 : S_Ou} {s5 : S_Bs} {out : S_Rn × S_Bs × S_Bs × S_Mg × S_Ou × S_Bs} (h : F_Rn_refuseLength s0 s1 s2 s3 s4 s5 = some out) : Met l y_Rn_refuseLength ws_Rn_refuseLength { frames := 4, cells := 0, slots := 0, locals := 83 } (PcW D A g [.ref (K 0 0)] (w_Rn g (K 0) (fun j => K (j + 1) 0) s0 ++ (w_Bs g (K 6) s1 ++ (w_Bs g (K 4) s2 ++ (w_Mg g (K 9) s3 ++ (w_Ou g (K 7) s4 ++ (w_Bs g (K 5) s5 ++ (rest)))))))) (QcV D A g (fun (_ : Unit) => w_Rn g (K 0) (fun j => K (j + 1) 0) out.1 ++ (w_Bs g (K 6) out.2.1 ++ (w_Bs g (K 4) out.2.2.1 ++ (w_Mg g (K 9) out.2.2.2.1 ++ (w_Ou g (K 7) out.2.2.2.2.1 ++ (w_Bs g (K 5) out.2.2.2.2.2 ++ (rest)))))))) 0 0 A := by
  refine Met.ofW (cc := prog_1_method_25_code) (maxL := 1) (ret := none) (by decide) rfl ?_
  intro p e s m args below meth c s₁ B hml hv
  obtain ⟨rfl, hI, hK⟩ := hv
  have hl := lv_entry [.ref (K 0 0)] (n := 1) (Nat.le_of_ble_eq_true rfl)
  rw [lg_entry_eq]
  generalize (lg_sl [.ref (K 0 0)] ++ List.replicate (1 - (lg_sl [.ref (K 0 0)]).length) Slot.unset).toArray = ls at hl ⊢
  have hl : lv_has ls 1 [(0, .ref (K 0 0))] := hl
  exact t_Rn_refuseLength_0 ⟨B.exec, B.bytes, hml, findClass_of_methodNamed B.named, atoms_spec (ws := ws_Rn_refuseLength) B.pre, B.returns, B.notSynchronized, hK⟩ (lv_sub hl [0] rfl) hI va_S.rf h
def ws_Rn_accept : List Cond := .code y_Rn_accept prog_1_method_29_code 2 none :: TB
def B_Rn_accept_69 (s2 : S_Cs) (s0 : S_Rn) (s1 : S_Bs) (s3 : S_Bs) (s4 : S_Mg) (s5 : S_Ou) (s6 : S_Bs) : Option (S_Rn × S_Bs × S_Bs × S_Mg × S_Ou × S_Bs) :=
  some (s0, s1, s3, s4, s5, s6)
def B_Rn_accept_64 (s2 : S_Cs) (s0 : S_Rn) (s1 : S_Bs) (s3 : S_Bs) (s4 : S_Mg) (s5 : S_Ou) (s6 : S_Bs) : Option (S_Rn × S_Bs × S_Bs × S_Mg × S_Ou × S_Bs) :=
  ((F_Rn_begin s0 (2 : Int32)).bind fun o1 => (B_Rn_accept_69 s2 o1 s1 s3 s4 s5 s6))
def B_Rn_accept_56 (s2 : S_Cs) (s0 : S_Rn) (s1 : S_Bs) (s3 : S_Bs) (s4 : S_Mg) (s5 : S_Ou) (s6 : S_Bs) : Option (S_Rn × S_Bs × S_Bs × S_Mg × S_Ou × S_Bs) :=
  ((F_Rn_put s0 s1 s3 s4 s5 s6 (2 : Int32)).bind fun o1 => (if o1.1 = 0 then (B_Rn_accept_69 s2 o1.2.1 s1 o1.2.2.1 o1.2.2.2.1 o1.2.2.2.2.1 o1.2.2.2.2.2) else (B_Rn_accept_64 s2 o1.2.1 s1 o1.2.2.1 o1.2.2.2.1 o1.2.2.2.2.1 o1.2.2.2.2.2)))
def B_Rn_accept_20 (k9 : S_Rn × S_Bs × S_Bs × S_Mg × S_Ou × S_Bs × Int32 → Option (S_Rn × S_Bs × S_Bs × S_Mg × S_Ou × S_Bs)) (s2 : S_Cs) (s0 : S_Rn) (s1 : S_Bs) (s3 : S_Bs) (s4 : S_Mg) (s5 : S_Ou) (s6 : S_Bs) (x1 : Int32) : Option (S_Rn × S_Bs × S_Bs × S_Mg × S_Ou × S_Bs) :=
  ((F_Cs_id s2 x1).bind fun o1 => ((F_Bs_append s1 o1).bind fun o3 => ((F_Cs_result s2 x1).bind fun o5 => ((F_Bs_append o3 o5).bind fun o7 => (k9 (s0, o7, s3, s4, s5, s6, (x1 + 1)))))))
def B_Rn_accept_9 (k9 : S_Rn × S_Bs × S_Bs × S_Mg × S_Ou × S_Bs × Int32 → Option (S_Rn × S_Bs × S_Bs × S_Mg × S_Ou × S_Bs)) (s2 : S_Cs) (s0 : S_Rn) (s1 : S_Bs) (s3 : S_Bs) (s4 : S_Mg) (s5 : S_Ou) (s6 : S_Bs) (x1 : Int32) : Option (S_Rn × S_Bs × S_Bs × S_Mg × S_Ou × S_Bs) :=
  ((F_Cs_count s2).bind fun o1 => (if o1 ≤ x1 then (B_Rn_accept_56 s2 s0 s1 s3 s4 s5 s6) else (B_Rn_accept_20 k9 s2 s0 s1 s3 s4 s5 s6 x1)))
def L_Rn_accept_9 (s2 : S_Cs) (v : S_Rn × S_Bs × S_Bs × S_Mg × S_Ou × S_Bs × Int32) : Option (S_Rn × S_Bs × S_Bs × S_Mg × S_Ou × S_Bs) := lp (fun k9 v => B_Rn_accept_9  k9 s2 v.1 v.2.1 v.2.2.1 v.2.2.2.1 v.2.2.2.2.1 v.2.2.2.2.2.1 v.2.2.2.2.2.2) FU v
def B_Rn_accept_0 (s2 : S_Cs) (s0 : S_Rn) (s1 : S_Bs) (s3 : S_Bs) (s4 : S_Mg) (s5 : S_Ou) (s6 : S_Bs) : Option (S_Rn × S_Bs × S_Bs × S_Mg × S_Ou × S_Bs) :=
  ((F_Bs_reset s1).bind fun o1 => (L_Rn_accept_9 s2 (s0, o1, s3, s4, s5, s6, (0 : Int32))))
def F_Rn_accept (s0 : S_Rn) (s1 : S_Bs) (s2 : S_Cs) (s3 : S_Bs) (s4 : S_Mg) (s5 : S_Ou) (s6 : S_Bs) : Option (S_Rn × S_Bs × S_Bs × S_Mg × S_Ou × S_Bs) := B_Rn_accept_0 s2 s0 s1 s3 s4 s5 s6
set_option maxRecDepth 100000 in
set_option maxHeartbeats 4000000 in
theorem t_Rn_accept_69 {p : Program} {l : Launch} {e : Env} {s : State} {m : MethodId} {args : Array Value} {below : List Frame} {meth : Method} {c : Code} {D : va_G} {A : Nat → Prop} {g : Nat → ClassId} {rest : va_W} {K : Nat → Nat → Nat} {ls : Array Slot} {H : Heap} {locs : List Loc} {s2 : S_Cs} {s0 : S_Rn} {s1 : S_Bs} {s3 : S_Bs} {s4 : S_Mg} {s5 : S_Ou} {s6 : S_Bs} {out : S_Rn × S_Bs × S_Bs × S_Mg × S_Ou × S_Bs} (X : Cx p s m args meth c prog_1_method_29_code 2 ws_Rn_accept R_Rn none D g) (hl : lv_has ls 2 []) (hI : Iw D A (w_Rn g (K 0) (fun j => K (j + 1) 0) s0 ++ (w_Bs g (K 6) s1 ++ (w_Cs g (K 8) s2 ++ (w_Bs g (K 4) s3 ++ (w_Mg g (K 9) s4 ++ (w_Ou g (K 7) s5 ++ (w_Bs g (K 5) s6 ++ (rest)))))))) H) (hS : va_S A s.heap H locs) (h : B_Rn_accept_69  s2 s0 s1 s3 s4 s5 s6 = some out) : W p l e (headSpec ws_Rn_accept { frames := 3, cells := 0, slots := 0, locals := 63 }).room s m args below meth c H locs 0 0 (MQ below (QcV D A g (fun (_ : Unit) => w_Rn g (K 0) (fun j => K (j + 1) 0) out.1 ++ (w_Bs g (K 6) out.2.1 ++ (w_Cs g (K 8) s2 ++ (w_Bs g (K 4) out.2.2.1 ++ (w_Mg g (K 9) out.2.2.2.1 ++ (w_Ou g (K 7) out.2.2.2.2.1 ++ (w_Bs g (K 5) out.2.2.2.2.2 ++ (rest))))))))) args s 0 0 A) (F0 m 69 ls []) := by
  have X1 := X
  obtain ⟨hx, hb, hml, hown, hts, hr, hlocks, hKK⟩ := X1
  have ht : ∀ w ∈ TB, w.before args s = true := fun w h => hts w (List.mem_cons_of_mem _ h)
  have hK := hKK.1
  unfold B_Rn_accept_69 at h
  have h9 := Option.some.inj h
  subst h9
  exact W.vret hx hb hr (fun t ht hW => ⟨⟨(), rfl, trivial, ⟨by rw [ht]; exact hI, hKK.moved hW⟩⟩, hS.F ht⟩) hS.2.2 d_Rn_accept_69
set_option maxRecDepth 100000 in
set_option maxHeartbeats 4000000 in
theorem t_Rn_accept_64 {p : Program} {l : Launch} {e : Env} {s : State} {m : MethodId} {args : Array Value} {below : List Frame} {meth : Method} {c : Code} {D : va_G} {A : Nat → Prop} {g : Nat → ClassId} {rest : va_W} {K : Nat → Nat → Nat} {ls : Array Slot} {H : Heap} {locs : List Loc} {s2 : S_Cs} {s0 : S_Rn} {s1 : S_Bs} {s3 : S_Bs} {s4 : S_Mg} {s5 : S_Ou} {s6 : S_Bs} {out : S_Rn × S_Bs × S_Bs × S_Mg × S_Ou × S_Bs} (X : Cx p s m args meth c prog_1_method_29_code 2 ws_Rn_accept R_Rn none D g) (hl : lv_has ls 2 [(0, .ref (K 0 0))]) (hI : Iw D A (w_Rn g (K 0) (fun j => K (j + 1) 0) s0 ++ (w_Bs g (K 6) s1 ++ (w_Cs g (K 8) s2 ++ (w_Bs g (K 4) s3 ++ (w_Mg g (K 9) s4 ++ (w_Ou g (K 7) s5 ++ (w_Bs g (K 5) s6 ++ (rest)))))))) H) (hS : va_S A s.heap H locs) (h : B_Rn_accept_64  s2 s0 s1 s3 s4 s5 s6 = some out) : W p l e (headSpec ws_Rn_accept { frames := 3, cells := 0, slots := 0, locals := 63 }).room s m args below meth c H locs 0 0 (MQ below (QcV D A g (fun (_ : Unit) => w_Rn g (K 0) (fun j => K (j + 1) 0) out.1 ++ (w_Bs g (K 6) out.2.1 ++ (w_Cs g (K 8) s2 ++ (w_Bs g (K 4) out.2.2.1 ++ (w_Mg g (K 9) out.2.2.2.1 ++ (w_Ou g (K 7) out.2.2.2.2.1 ++ (w_Bs g (K 5) out.2.2.2.2.2 ++ (rest))))))))) args s 0 0 A) (F0 m 64 ls []) := by
  have X1 := X
  obtain ⟨hx, hb, hml, hown, hts, hr, hlocks, hKK⟩ := X1
  have ht : ∀ w ∈ TB, w.before args s = true := fun w h => hts w (List.mem_cons_of_mem _ h)
  have hK := hKK.1
  unfold B_Rn_accept_64 at h
  refine lv_aload_n hx hb d_Rn_accept_64 rfl (lv_at hl 0 rfl) ?_
  refine lv_iconst (v := 2) hx hb d_Rn_accept_65 (by decide) ?_
  obtain ⟨o1, ho2, h⟩ := bd_s h
  refine cl_v (W1 := fun (_ : Unit) => w_Rn g (K 0) (fun j => K (j + 1) 0) o1 ++ (w_Bs g (K 6) s1 ++ (w_Cs g (K 8) s2 ++ (w_Bs g (K 4) s3 ++ (w_Mg g (K 9) s4 ++ (w_Ou g (K 7) s5 ++ (w_Bs g (K 5) s6 ++ (rest)))))))) (va_runV (As := [.int (2 : Int32)]) (rest := []) ⟨hx, hb, hml, hown, ht⟩ (c_Rn_begin (l := l) (D := D) (A := A) (g := g) (rest := w_Bs g (K 6) s1 ++ (w_Cs g (K 8) s2 ++ (w_Bs g (K 4) s3 ++ (w_Mg g (K 9) s4 ++ (w_Ou g (K 7) s5 ++ (w_Bs g (K 5) s6 ++ (rest))))))) (K := K) ho2) (cwV 1 ht (gd_V m_282 m_284 mp_0 m_1 m_285) rfl rfl rfl (by decide +kernel) ⟨(Nat.le_of_ble_eq_true rfl), (Nat.le_of_ble_eq_true rfl)⟩) (prV (ci := 8) (q0 := 0) hKK hI (List.Perm.refl _) rfl rfl rfl) rfl rfl hl.1 rfl (lv_room (Nat.le_of_ble_eq_true rfl)) d_Rn_accept_66 ⟨(Nat.le_of_ble_eq_true rfl), (Nat.le_of_ble_eq_true rfl)⟩) hS (fun _ => ((List.Perm.refl _)).symm) (fun _ H locs hI hS => ?_)
  have hI : Iw D A (w_Rn g (K 0) (fun j => K (j + 1) 0) o1 ++ (w_Bs g (K 6) s1 ++ (w_Cs g (K 8) s2 ++ (w_Bs g (K 4) s3 ++ (w_Mg g (K 9) s4 ++ (w_Ou g (K 7) s5 ++ (w_Bs g (K 5) s6 ++ (rest)))))))) H := hI
  exact t_Rn_accept_69 X (lv_sub hl [] rfl) hI hS h
set_option maxRecDepth 100000 in
set_option maxHeartbeats 4000000 in
theorem t_Rn_accept_56 {p : Program} {l : Launch} {e : Env} {s : State} {m : MethodId} {args : Array Value} {below : List Frame} {meth : Method} {c : Code} {D : va_G} {A : Nat → Prop} {g : Nat → ClassId} {rest : va_W} {K : Nat → Nat → Nat} {ls : Array Slot} {H : Heap} {locs : List Loc} {s2 : S_Cs} {s0 : S_Rn} {s1 : S_Bs} {s3 : S_Bs} {s4 : S_Mg} {s5 : S_Ou} {s6 : S_Bs} {out : S_Rn × S_Bs × S_Bs × S_Mg × S_Ou × S_Bs} (X : Cx p s m args meth c prog_1_method_29_code 2 ws_Rn_accept R_Rn none D g) (hl : lv_has ls 2 [(0, .ref (K 0 0))]) (hI : Iw D A (w_Rn g (K 0) (fun j => K (j + 1) 0) s0 ++ (w_Bs g (K 6) s1 ++ (w_Cs g (K 8) s2 ++ (w_Bs g (K 4) s3 ++ (w_Mg g (K 9) s4 ++ (w_Ou g (K 7) s5 ++ (w_Bs g (K 5) s6 ++ (rest)))))))) H) (hS : va_S A s.heap H locs) (h : B_Rn_accept_56  s2 s0 s1 s3 s4 s5 s6 = some out) : W p l e (headSpec ws_Rn_accept { frames := 3, cells := 0, slots := 0, locals := 63 }).room s m args below meth c H locs 0 0 (MQ below (QcV D A g (fun (_ : Unit) => w_Rn g (K 0) (fun j => K (j + 1) 0) out.1 ++ (w_Bs g (K 6) out.2.1 ++ (w_Cs g (K 8) s2 ++ (w_Bs g (K 4) out.2.2.1 ++ (w_Mg g (K 9) out.2.2.2.1 ++ (w_Ou g (K 7) out.2.2.2.2.1 ++ (w_Bs g (K 5) out.2.2.2.2.2 ++ (rest))))))))) args s 0 0 A) (F0 m 56 ls []) := by
  have X1 := X
  obtain ⟨hx, hb, hml, hown, hts, hr, hlocks, hKK⟩ := X1
  have ht : ∀ w ∈ TB, w.before args s = true := fun w h => hts w (List.mem_cons_of_mem _ h)
  have hK := hKK.1
  unfold B_Rn_accept_56 at h
  refine lv_aload_n hx hb d_Rn_accept_56 rfl (lv_at hl 0 rfl) ?_
  refine lv_iconst (v := 2) hx hb d_Rn_accept_57 (by decide) ?_
  obtain ⟨o1, ho2, h⟩ := bd_s h
  refine cl_i (W1 := fun (_ : Unit) => w_Rn g (K 0) (fun j => K (j + 1) 0) o1.2.1 ++ (w_Bs g (K 6) s1 ++ (w_Cs g (K 8) s2 ++ (w_Bs g (K 4) o1.2.2.1 ++ (w_Mg g (K 9) o1.2.2.2.1 ++ (w_Ou g (K 7) o1.2.2.2.2.1 ++ (w_Bs g (K 5) o1.2.2.2.2.2 ++ (rest)))))))) (va_runV (As := [.int (2 : Int32)]) (rest := []) ⟨hx, hb, hml, hown, ht⟩ (c_Rn_put (l := l) (D := D) (A := A) (g := g) (rest := w_Cs g (K 8) s2 ++ (rest)) (K := K) ho2) (cwV 1 ht (gd_V m_322 m_324 mp_5 m_1 m_325) rfl rfl rfl (by decide +kernel) ⟨(Nat.le_of_ble_eq_true rfl), (Nat.le_of_ble_eq_true rfl)⟩) (prV (ci := 8) (q0 := 0) hKK hI ((mv_6).trans ((mv_6).trans ((mv_6).trans ((mv_6).trans ((mv_5).trans (mv_5)))))) rfl rfl rfl) rfl rfl hl.1 rfl (lv_room (Nat.le_of_ble_eq_true rfl)) d_Rn_accept_58 ⟨(Nat.le_of_ble_eq_true rfl), (Nat.le_of_ble_eq_true rfl)⟩) hS (fun _ => (((mv_6).trans ((mv_6).trans ((mv_6).trans ((mv_6).trans ((mv_5).trans (mv_5))))))).symm) (fun _ H locs hI hS => ?_)
  have hI : Iw D A (w_Rn g (K 0) (fun j => K (j + 1) 0) o1.2.1 ++ (w_Bs g (K 6) s1 ++ (w_Cs g (K 8) s2 ++ (w_Bs g (K 4) o1.2.2.1 ++ (w_Mg g (K 9) o1.2.2.2.1 ++ (w_Ou g (K 7) o1.2.2.2.2.1 ++ (w_Bs g (K 5) o1.2.2.2.2.2 ++ (rest)))))))) H := hI
  refine lv_if_eq (tgt := 69) hx hb d_Rn_accept_61 (by decide) (fun hc => ?_) (fun hc => ?_)
  · have h := it_t h hc
    exact t_Rn_accept_69 X (lv_sub hl [] rfl) hI hS h
  · have h := it_f h hc
    exact t_Rn_accept_64 X (lv_sub hl [0] rfl) hI hS h
set_option maxRecDepth 100000 in
set_option maxHeartbeats 4000000 in
theorem t_Rn_accept_20 {p : Program} {l : Launch} {e : Env} {s : State} {m : MethodId} {args : Array Value} {below : List Frame} {meth : Method} {c : Code} {D : va_G} {A : Nat → Prop} {g : Nat → ClassId} {rest : va_W} {K : Nat → Nat → Nat} {ls : Array Slot} {H : Heap} {locs : List Loc} {k9 : S_Rn × S_Bs × S_Bs × S_Mg × S_Ou × S_Bs × Int32 → Option (S_Rn × S_Bs × S_Bs × S_Mg × S_Ou × S_Bs)} {s2 : S_Cs} {s0 : S_Rn} {s1 : S_Bs} {s3 : S_Bs} {s4 : S_Mg} {s5 : S_Ou} {s6 : S_Bs} {x1 : Int32} {out : S_Rn × S_Bs × S_Bs × S_Mg × S_Ou × S_Bs} (X : Cx p s m args meth c prog_1_method_29_code 2 ws_Rn_accept R_Rn none D g) (hk9 : ∀ (v : S_Rn × S_Bs × S_Bs × S_Mg × S_Ou × S_Bs × Int32) (ls : Array Slot) (H : Heap) (locs : List Loc), lv_has ls 2 [(0, .ref (K 0 0)), (1, .int v.2.2.2.2.2.2)] → Iw D A (w_Rn g (K 0) (fun j => K (j + 1) 0) v.1 ++ (w_Bs g (K 6) v.2.1 ++ (w_Cs g (K 8) s2 ++ (w_Bs g (K 4) v.2.2.1 ++ (w_Mg g (K 9) v.2.2.2.1 ++ (w_Ou g (K 7) v.2.2.2.2.1 ++ (w_Bs g (K 5) v.2.2.2.2.2.1 ++ (rest)))))))) H → va_S A s.heap H locs → k9 v = some out → W p l e (headSpec ws_Rn_accept { frames := 3, cells := 0, slots := 0, locals := 63 }).room s m args below meth c H locs 0 0 (MQ below (QcV D A g (fun (_ : Unit) => w_Rn g (K 0) (fun j => K (j + 1) 0) out.1 ++ (w_Bs g (K 6) out.2.1 ++ (w_Cs g (K 8) s2 ++ (w_Bs g (K 4) out.2.2.1 ++ (w_Mg g (K 9) out.2.2.2.1 ++ (w_Ou g (K 7) out.2.2.2.2.1 ++ (w_Bs g (K 5) out.2.2.2.2.2 ++ (rest))))))))) args s 0 0 A) (F0 m 9 ls [])) (hl : lv_has ls 2 [(0, .ref (K 0 0)), (1, .int x1)]) (hI : Iw D A (w_Rn g (K 0) (fun j => K (j + 1) 0) s0 ++ (w_Bs g (K 6) s1 ++ (w_Cs g (K 8) s2 ++ (w_Bs g (K 4) s3 ++ (w_Mg g (K 9) s4 ++ (w_Ou g (K 7) s5 ++ (w_Bs g (K 5) s6 ++ (rest)))))))) H) (hS : va_S A s.heap H locs) (h : B_Rn_accept_20 k9 s2 s0 s1 s3 s4 s5 s6 x1 = some out) : W p l e (headSpec ws_Rn_accept { frames := 3, cells := 0, slots := 0, locals := 63 }).room s m args below meth c H locs 0 0 (MQ below (QcV D A g (fun (_ : Unit) => w_Rn g (K 0) (fun j => K (j + 1) 0) out.1 ++ (w_Bs g (K 6) out.2.1 ++ (w_Cs g (K 8) s2 ++ (w_Bs g (K 4) out.2.2.1 ++ (w_Mg g (K 9) out.2.2.2.1 ++ (w_Ou g (K 7) out.2.2.2.2.1 ++ (w_Bs g (K 5) out.2.2.2.2.2 ++ (rest))))))))) args s 0 0 A) (F0 m 20 ls []) := by
  have X1 := X
  obtain ⟨hx, hb, hml, hown, hts, hr, hlocks, hKK⟩ := X1
  have ht : ∀ w ∈ TB, w.before args s = true := fun w h => hts w (List.mem_cons_of_mem _ h)
  have hK := hKK.1
  unfold B_Rn_accept_20 at h
  refine lv_aload_n hx hb d_Rn_accept_20 rfl (lv_at hl 0 rfl) ?_
  refine va_get (D := D) (ci := 8) (v := .ref (K 6 0)) (C := R_Rn) (T := T_Rn) (N := 16) hx hb ht in_Rn hown hK hI.1 0 rfl rfl 5 (by decide) (ht _ m_208) (fun _ h9 => h9) rfl d_Rn_accept_21 ?_
  refine lv_aload_n hx hb d_Rn_accept_24 rfl (lv_at hl 0 rfl) ?_
  refine va_get (D := D) (ci := 8) (v := .ref (K 8 0)) (C := R_Rn) (T := T_Rn) (N := 16) hx hb ht in_Rn hown hK hI.1 0 rfl rfl 7 (by decide) (ht _ m_210) (fun _ h9 => h9) rfl d_Rn_accept_25 ?_
  refine lv_iload_n hx hb d_Rn_accept_28 rfl (lv_at hl 1 rfl) ?_
  obtain ⟨o1, ho2, h⟩ := bd_s h
  refine cl_i (W1 := fun (_ : Unit) => w_Rn g (K 0) (fun j => K (j + 1) 0) s0 ++ (w_Bs g (K 6) s1 ++ (w_Cs g (K 8) s2 ++ (w_Bs g (K 4) s3 ++ (w_Mg g (K 9) s4 ++ (w_Ou g (K 7) s5 ++ (w_Bs g (K 5) s6 ++ (rest)))))))) (va_runV (As := [.int x1]) (rest := [.ref (K 6 0)]) ⟨hx, hb, hml, hown, ht⟩ (c_Cs_id (l := l) (D := D) (A := A) (g := g) (rest := w_Rn g (K 0) (fun j => K (j + 1) 0) s0 ++ (w_Bs g (K 6) s1 ++ (w_Bs g (K 4) s3 ++ (w_Mg g (K 9) s4 ++ (w_Ou g (K 7) s5 ++ (w_Bs g (K 5) s6 ++ (rest))))))) (a0 := K 8) ho2) (cwV 1 ht (gd_V m_367 m_368 m_369 m_4 m_370) rfl rfl rfl (by decide +kernel) ⟨(Nat.le_of_ble_eq_true rfl), (Nat.le_of_ble_eq_true rfl)⟩) (prV (ci := 1) (q0 := 0) hKK hI (mv_2) rfl rfl rfl) rfl rfl hl.1 rfl (lv_room (Nat.le_of_ble_eq_true rfl)) d_Rn_accept_29 ⟨(Nat.le_of_ble_eq_true rfl), (Nat.le_of_ble_eq_true rfl)⟩) hS (fun _ => ((mv_2)).symm) (fun _ H locs hI hS => ?_)
  have hI : Iw D A (w_Rn g (K 0) (fun j => K (j + 1) 0) s0 ++ (w_Bs g (K 6) s1 ++ (w_Cs g (K 8) s2 ++ (w_Bs g (K 4) s3 ++ (w_Mg g (K 9) s4 ++ (w_Ou g (K 7) s5 ++ (w_Bs g (K 5) s6 ++ (rest)))))))) H := hI
  obtain ⟨o3, ho4, h⟩ := bd_s h
  refine cl_v (W1 := fun (_ : Unit) => w_Rn g (K 0) (fun j => K (j + 1) 0) s0 ++ (w_Bs g (K 6) o3 ++ (w_Cs g (K 8) s2 ++ (w_Bs g (K 4) s3 ++ (w_Mg g (K 9) s4 ++ (w_Ou g (K 7) s5 ++ (w_Bs g (K 5) s6 ++ (rest)))))))) (va_runV (As := [.int o1]) (rest := []) ⟨hx, hb, hml, hown, ht⟩ (c_Bs_append (l := l) (D := D) (A := A) (g := g) (rest := w_Rn g (K 0) (fun j => K (j + 1) 0) s0 ++ (w_Cs g (K 8) s2 ++ (w_Bs g (K 4) s3 ++ (w_Mg g (K 9) s4 ++ (w_Ou g (K 7) s5 ++ (w_Bs g (K 5) s6 ++ (rest))))))) (a0 := K 6) ho4) (cwV 1 ht (gd_V m_266 m_267 m_268 m_2 m_269) rfl rfl rfl (by decide +kernel) ⟨(Nat.le_of_ble_eq_true rfl), (Nat.le_of_ble_eq_true rfl)⟩) (prV (ci := 0) (q0 := 0) hKK hI (mv_1) rfl rfl rfl) rfl rfl hl.1 rfl (lv_room (Nat.le_of_ble_eq_true rfl)) d_Rn_accept_32 ⟨(Nat.le_of_ble_eq_true rfl), (Nat.le_of_ble_eq_true rfl)⟩) hS (fun _ => ((mv_1)).symm) (fun _ H locs hI hS => ?_)
  have hI : Iw D A (w_Rn g (K 0) (fun j => K (j + 1) 0) s0 ++ (w_Bs g (K 6) o3 ++ (w_Cs g (K 8) s2 ++ (w_Bs g (K 4) s3 ++ (w_Mg g (K 9) s4 ++ (w_Ou g (K 7) s5 ++ (w_Bs g (K 5) s6 ++ (rest)))))))) H := hI
  refine lv_aload_n hx hb d_Rn_accept_35 rfl (lv_at hl 0 rfl) ?_
  refine va_get (D := D) (ci := 8) (v := .ref (K 6 0)) (C := R_Rn) (T := T_Rn) (N := 16) hx hb ht in_Rn hown hK hI.1 0 rfl rfl 5 (by decide) (ht _ m_208) (fun _ h9 => h9) rfl d_Rn_accept_36 ?_
  refine lv_aload_n hx hb d_Rn_accept_39 rfl (lv_at hl 0 rfl) ?_
  refine va_get (D := D) (ci := 8) (v := .ref (K 8 0)) (C := R_Rn) (T := T_Rn) (N := 16) hx hb ht in_Rn hown hK hI.1 0 rfl rfl 7 (by decide) (ht _ m_210) (fun _ h9 => h9) rfl d_Rn_accept_40 ?_
  refine lv_iload_n hx hb d_Rn_accept_43 rfl (lv_at hl 1 rfl) ?_
  obtain ⟨o5, ho6, h⟩ := bd_s h
  refine cl_i (W1 := fun (_ : Unit) => w_Rn g (K 0) (fun j => K (j + 1) 0) s0 ++ (w_Bs g (K 6) o3 ++ (w_Cs g (K 8) s2 ++ (w_Bs g (K 4) s3 ++ (w_Mg g (K 9) s4 ++ (w_Ou g (K 7) s5 ++ (w_Bs g (K 5) s6 ++ (rest)))))))) (va_runV (As := [.int x1]) (rest := [.ref (K 6 0)]) ⟨hx, hb, hml, hown, ht⟩ (c_Cs_result (l := l) (D := D) (A := A) (g := g) (rest := w_Rn g (K 0) (fun j => K (j + 1) 0) s0 ++ (w_Bs g (K 6) o3 ++ (w_Bs g (K 4) s3 ++ (w_Mg g (K 9) s4 ++ (w_Ou g (K 7) s5 ++ (w_Bs g (K 5) s6 ++ (rest))))))) (a0 := K 8) ho6) (cwV 1 ht (gd_V m_375 m_376 m_377 m_4 m_378) rfl rfl rfl (by decide +kernel) ⟨(Nat.le_of_ble_eq_true rfl), (Nat.le_of_ble_eq_true rfl)⟩) (prV (ci := 1) (q0 := 0) hKK hI (mv_2) rfl rfl rfl) rfl rfl hl.1 rfl (lv_room (Nat.le_of_ble_eq_true rfl)) d_Rn_accept_44 ⟨(Nat.le_of_ble_eq_true rfl), (Nat.le_of_ble_eq_true rfl)⟩) hS (fun _ => ((mv_2)).symm) (fun _ H locs hI hS => ?_)
  have hI : Iw D A (w_Rn g (K 0) (fun j => K (j + 1) 0) s0 ++ (w_Bs g (K 6) o3 ++ (w_Cs g (K 8) s2 ++ (w_Bs g (K 4) s3 ++ (w_Mg g (K 9) s4 ++ (w_Ou g (K 7) s5 ++ (w_Bs g (K 5) s6 ++ (rest)))))))) H := hI
  obtain ⟨o7, ho8, h⟩ := bd_s h
  refine cl_v (W1 := fun (_ : Unit) => w_Rn g (K 0) (fun j => K (j + 1) 0) s0 ++ (w_Bs g (K 6) o7 ++ (w_Cs g (K 8) s2 ++ (w_Bs g (K 4) s3 ++ (w_Mg g (K 9) s4 ++ (w_Ou g (K 7) s5 ++ (w_Bs g (K 5) s6 ++ (rest)))))))) (va_runV (As := [.int o5]) (rest := []) ⟨hx, hb, hml, hown, ht⟩ (c_Bs_append (l := l) (D := D) (A := A) (g := g) (rest := w_Rn g (K 0) (fun j => K (j + 1) 0) s0 ++ (w_Cs g (K 8) s2 ++ (w_Bs g (K 4) s3 ++ (w_Mg g (K 9) s4 ++ (w_Ou g (K 7) s5 ++ (w_Bs g (K 5) s6 ++ (rest))))))) (a0 := K 6) ho8) (cwV 1 ht (gd_V m_266 m_267 m_268 m_2 m_269) rfl rfl rfl (by decide +kernel) ⟨(Nat.le_of_ble_eq_true rfl), (Nat.le_of_ble_eq_true rfl)⟩) (prV (ci := 0) (q0 := 0) hKK hI (mv_1) rfl rfl rfl) rfl rfl hl.1 rfl (lv_room (Nat.le_of_ble_eq_true rfl)) d_Rn_accept_47 ⟨(Nat.le_of_ble_eq_true rfl), (Nat.le_of_ble_eq_true rfl)⟩) hS (fun _ => ((mv_1)).symm) (fun _ H locs hI hS => ?_)
  have hI : Iw D A (w_Rn g (K 0) (fun j => K (j + 1) 0) s0 ++ (w_Bs g (K 6) o7 ++ (w_Cs g (K 8) s2 ++ (w_Bs g (K 4) s3 ++ (w_Mg g (K 9) s4 ++ (w_Ou g (K 7) s5 ++ (w_Bs g (K 5) s6 ++ (rest)))))))) H := hI
  refine lv_iinc (k := 1) (v := (x1 + 1)) hx hb d_Rn_accept_50 hl rfl (congrArg (fun z => x1 + z) (by decide)) (Nat.le_of_ble_eq_true rfl) rfl (fun ls hl => ?_)
  have hl : lv_has ls 2 [(1, .int (x1 + 1)), (0, .ref (K 0 0))] := hl
  refine lv_goto (tgt := 9) hx hb d_Rn_accept_53 (by decide) ?_
  exact hk9 (s0, o7, s3, s4, s5, s6, (x1 + 1)) _ _ _ (lv_sub hl [1, 0] rfl) hI hS h
set_option maxRecDepth 100000 in
set_option maxHeartbeats 4000000 in
theorem t_Rn_accept_9 {p : Program} {l : Launch} {e : Env} {s : State} {m : MethodId} {args : Array Value} {below : List Frame} {meth : Method} {c : Code} {D : va_G} {A : Nat → Prop} {g : Nat → ClassId} {rest : va_W} {K : Nat → Nat → Nat} {ls : Array Slot} {H : Heap} {locs : List Loc} {k9 : S_Rn × S_Bs × S_Bs × S_Mg × S_Ou × S_Bs × Int32 → Option (S_Rn × S_Bs × S_Bs × S_Mg × S_Ou × S_Bs)} {s2 : S_Cs} {s0 : S_Rn} {s1 : S_Bs} {s3 : S_Bs} {s4 : S_Mg} {s5 : S_Ou} {s6 : S_Bs} {x1 : Int32} {out : S_Rn × S_Bs × S_Bs × S_Mg × S_Ou × S_Bs} (X : Cx p s m args meth c prog_1_method_29_code 2 ws_Rn_accept R_Rn none D g) (hk9 : ∀ (v : S_Rn × S_Bs × S_Bs × S_Mg × S_Ou × S_Bs × Int32) (ls : Array Slot) (H : Heap) (locs : List Loc), lv_has ls 2 [(0, .ref (K 0 0)), (1, .int v.2.2.2.2.2.2)] → Iw D A (w_Rn g (K 0) (fun j => K (j + 1) 0) v.1 ++ (w_Bs g (K 6) v.2.1 ++ (w_Cs g (K 8) s2 ++ (w_Bs g (K 4) v.2.2.1 ++ (w_Mg g (K 9) v.2.2.2.1 ++ (w_Ou g (K 7) v.2.2.2.2.1 ++ (w_Bs g (K 5) v.2.2.2.2.2.1 ++ (rest)))))))) H → va_S A s.heap H locs → k9 v = some out → W p l e (headSpec ws_Rn_accept { frames := 3, cells := 0, slots := 0, locals := 63 }).room s m args below meth c H locs 0 0 (MQ below (QcV D A g (fun (_ : Unit) => w_Rn g (K 0) (fun j => K (j + 1) 0) out.1 ++ (w_Bs g (K 6) out.2.1 ++ (w_Cs g (K 8) s2 ++ (w_Bs g (K 4) out.2.2.1 ++ (w_Mg g (K 9) out.2.2.2.1 ++ (w_Ou g (K 7) out.2.2.2.2.1 ++ (w_Bs g (K 5) out.2.2.2.2.2 ++ (rest))))))))) args s 0 0 A) (F0 m 9 ls [])) (hl : lv_has ls 2 [(0, .ref (K 0 0)), (1, .int x1)]) (hI : Iw D A (w_Rn g (K 0) (fun j => K (j + 1) 0) s0 ++ (w_Bs g (K 6) s1 ++ (w_Cs g (K 8) s2 ++ (w_Bs g (K 4) s3 ++ (w_Mg g (K 9) s4 ++ (w_Ou g (K 7) s5 ++ (w_Bs g (K 5) s6 ++ (rest)))))))) H) (hS : va_S A s.heap H locs) (h : B_Rn_accept_9 k9 s2 s0 s1 s3 s4 s5 s6 x1 = some out) : W p l e (headSpec ws_Rn_accept { frames := 3, cells := 0, slots := 0, locals := 63 }).room s m args below meth c H locs 0 0 (MQ below (QcV D A g (fun (_ : Unit) => w_Rn g (K 0) (fun j => K (j + 1) 0) out.1 ++ (w_Bs g (K 6) out.2.1 ++ (w_Cs g (K 8) s2 ++ (w_Bs g (K 4) out.2.2.1 ++ (w_Mg g (K 9) out.2.2.2.1 ++ (w_Ou g (K 7) out.2.2.2.2.1 ++ (w_Bs g (K 5) out.2.2.2.2.2 ++ (rest))))))))) args s 0 0 A) (F0 m 9 ls []) := by
  have X1 := X
  obtain ⟨hx, hb, hml, hown, hts, hr, hlocks, hKK⟩ := X1
  have ht : ∀ w ∈ TB, w.before args s = true := fun w h => hts w (List.mem_cons_of_mem _ h)
  have hK := hKK.1
  unfold B_Rn_accept_9 at h
  refine lv_iload_n hx hb d_Rn_accept_9 rfl (lv_at hl 1 rfl) ?_
  refine lv_aload_n hx hb d_Rn_accept_10 rfl (lv_at hl 0 rfl) ?_
  refine va_get (D := D) (ci := 8) (v := .ref (K 8 0)) (C := R_Rn) (T := T_Rn) (N := 16) hx hb ht in_Rn hown hK hI.1 0 rfl rfl 7 (by decide) (ht _ m_210) (fun _ h9 => h9) rfl d_Rn_accept_11 ?_
  obtain ⟨o1, ho2, h⟩ := bd_s h
  refine cl_i (W1 := fun (_ : Unit) => w_Rn g (K 0) (fun j => K (j + 1) 0) s0 ++ (w_Bs g (K 6) s1 ++ (w_Cs g (K 8) s2 ++ (w_Bs g (K 4) s3 ++ (w_Mg g (K 9) s4 ++ (w_Ou g (K 7) s5 ++ (w_Bs g (K 5) s6 ++ (rest)))))))) (va_runV (As := []) (rest := [.int x1]) ⟨hx, hb, hml, hown, ht⟩ (c_Cs_count (l := l) (D := D) (A := A) (g := g) (rest := w_Rn g (K 0) (fun j => K (j + 1) 0) s0 ++ (w_Bs g (K 6) s1 ++ (w_Bs g (K 4) s3 ++ (w_Mg g (K 9) s4 ++ (w_Ou g (K 7) s5 ++ (w_Bs g (K 5) s6 ++ (rest))))))) (a0 := K 8) ho2) (cwV 0 ht (gd_V m_363 m_364 m_365 m_4 m_366) rfl rfl rfl (by decide +kernel) ⟨(Nat.le_of_ble_eq_true rfl), (Nat.le_of_ble_eq_true rfl)⟩) (prV (ci := 1) (q0 := 0) hKK hI (mv_2) rfl rfl rfl) rfl rfl hl.1 rfl (lv_room (Nat.le_of_ble_eq_true rfl)) d_Rn_accept_14 ⟨(Nat.le_of_ble_eq_true rfl), (Nat.le_of_ble_eq_true rfl)⟩) hS (fun _ => ((mv_2)).symm) (fun _ H locs hI hS => ?_)
  have hI : Iw D A (w_Rn g (K 0) (fun j => K (j + 1) 0) s0 ++ (w_Bs g (K 6) s1 ++ (w_Cs g (K 8) s2 ++ (w_Bs g (K 4) s3 ++ (w_Mg g (K 9) s4 ++ (w_Ou g (K 7) s5 ++ (w_Bs g (K 5) s6 ++ (rest)))))))) H := hI
  refine lv_icmp_ge (tgt := 56) hx hb d_Rn_accept_17 (by decide) (fun hc => ?_) (fun hc => ?_)
  · have h := it_t h hc
    exact t_Rn_accept_56 X (lv_sub hl [0] rfl) hI hS h
  · have h := it_f h hc
    exact t_Rn_accept_20 X hk9 (lv_sub hl [0, 1] rfl) hI hS h
set_option maxRecDepth 100000 in
set_option maxHeartbeats 4000000 in
theorem T_Rn_accept_9 {p : Program} {l : Launch} {e : Env} {s : State} {m : MethodId} {args : Array Value} {below : List Frame} {meth : Method} {c : Code} {D : va_G} {A : Nat → Prop} {g : Nat → ClassId} {rest : va_W} {K : Nat → Nat → Nat} {ls : Array Slot} {H : Heap} {locs : List Loc} {s2 : S_Cs} {s0 : S_Rn} {s1 : S_Bs} {s3 : S_Bs} {s4 : S_Mg} {s5 : S_Ou} {s6 : S_Bs} {x1 : Int32} {out : S_Rn × S_Bs × S_Bs × S_Mg × S_Ou × S_Bs} (X : Cx p s m args meth c prog_1_method_29_code 2 ws_Rn_accept R_Rn none D g) (hl : lv_has ls 2 [(0, .ref (K 0 0)), (1, .int x1)]) (hI : Iw D A (w_Rn g (K 0) (fun j => K (j + 1) 0) s0 ++ (w_Bs g (K 6) s1 ++ (w_Cs g (K 8) s2 ++ (w_Bs g (K 4) s3 ++ (w_Mg g (K 9) s4 ++ (w_Ou g (K 7) s5 ++ (w_Bs g (K 5) s6 ++ (rest)))))))) H) (hS : va_S A s.heap H locs) (h : L_Rn_accept_9  s2 (s0, s1, s3, s4, s5, s6, x1) = some out) : W p l e (headSpec ws_Rn_accept { frames := 3, cells := 0, slots := 0, locals := 63 }).room s m args below meth c H locs 0 0 (MQ below (QcV D A g (fun (_ : Unit) => w_Rn g (K 0) (fun j => K (j + 1) 0) out.1 ++ (w_Bs g (K 6) out.2.1 ++ (w_Cs g (K 8) s2 ++ (w_Bs g (K 4) out.2.2.1 ++ (w_Mg g (K 9) out.2.2.2.1 ++ (w_Ou g (K 7) out.2.2.2.2.1 ++ (w_Bs g (K 5) out.2.2.2.2.2 ++ (rest))))))))) args s 0 0 A) (F0 m 9 ls []) := by
  unfold L_Rn_accept_9 at h
  exact lp_ind (P := fun v => ∀ (ls : Array Slot) (H : Heap) (locs : List Loc), lv_has ls 2 [(0, .ref (K 0 0)), (1, .int v.2.2.2.2.2.2)] → Iw D A (w_Rn g (K 0) (fun j => K (j + 1) 0) v.1 ++ (w_Bs g (K 6) v.2.1 ++ (w_Cs g (K 8) s2 ++ (w_Bs g (K 4) v.2.2.1 ++ (w_Mg g (K 9) v.2.2.2.1 ++ (w_Ou g (K 7) v.2.2.2.2.1 ++ (w_Bs g (K 5) v.2.2.2.2.2.1 ++ (rest)))))))) H → va_S A s.heap H locs → W p l e (headSpec ws_Rn_accept { frames := 3, cells := 0, slots := 0, locals := 63 }).room s m args below meth c H locs 0 0 (MQ below (QcV D A g (fun (_ : Unit) => w_Rn g (K 0) (fun j => K (j + 1) 0) out.1 ++ (w_Bs g (K 6) out.2.1 ++ (w_Cs g (K 8) s2 ++ (w_Bs g (K 4) out.2.2.1 ++ (w_Mg g (K 9) out.2.2.2.1 ++ (w_Ou g (K 7) out.2.2.2.2.1 ++ (w_Bs g (K 5) out.2.2.2.2.2 ++ (rest))))))))) args s 0 0 A) (F0 m 9 ls [])) (fun k v ih hb ls H locs  hl hI hS => t_Rn_accept_9 X  (fun v' ls H locs  hl hI hS h' => ih v' h' ls H locs  hl hI hS) hl hI hS hb) FU _ h ls H locs  hl hI hS
set_option maxRecDepth 100000 in
set_option maxHeartbeats 4000000 in
theorem t_Rn_accept_0 {p : Program} {l : Launch} {e : Env} {s : State} {m : MethodId} {args : Array Value} {below : List Frame} {meth : Method} {c : Code} {D : va_G} {A : Nat → Prop} {g : Nat → ClassId} {rest : va_W} {K : Nat → Nat → Nat} {ls : Array Slot} {H : Heap} {locs : List Loc} {s2 : S_Cs} {s0 : S_Rn} {s1 : S_Bs} {s3 : S_Bs} {s4 : S_Mg} {s5 : S_Ou} {s6 : S_Bs} {out : S_Rn × S_Bs × S_Bs × S_Mg × S_Ou × S_Bs} (X : Cx p s m args meth c prog_1_method_29_code 2 ws_Rn_accept R_Rn none D g) (hl : lv_has ls 2 [(0, .ref (K 0 0))]) (hI : Iw D A (w_Rn g (K 0) (fun j => K (j + 1) 0) s0 ++ (w_Bs g (K 6) s1 ++ (w_Cs g (K 8) s2 ++ (w_Bs g (K 4) s3 ++ (w_Mg g (K 9) s4 ++ (w_Ou g (K 7) s5 ++ (w_Bs g (K 5) s6 ++ (rest)))))))) H) (hS : va_S A s.heap H locs) (h : B_Rn_accept_0  s2 s0 s1 s3 s4 s5 s6 = some out) : W p l e (headSpec ws_Rn_accept { frames := 3, cells := 0, slots := 0, locals := 63 }).room s m args below meth c H locs 0 0 (MQ below (QcV D A g (fun (_ : Unit) => w_Rn g (K 0) (fun j => K (j + 1) 0) out.1 ++ (w_Bs g (K 6) out.2.1 ++ (w_Cs g (K 8) s2 ++ (w_Bs g (K 4) out.2.2.1 ++ (w_Mg g (K 9) out.2.2.2.1 ++ (w_Ou g (K 7) out.2.2.2.2.1 ++ (w_Bs g (K 5) out.2.2.2.2.2 ++ (rest))))))))) args s 0 0 A) (F0 m 0 ls []) := by
  have X1 := X
  obtain ⟨hx, hb, hml, hown, hts, hr, hlocks, hKK⟩ := X1
  have ht : ∀ w ∈ TB, w.before args s = true := fun w h => hts w (List.mem_cons_of_mem _ h)
  have hK := hKK.1
  unfold B_Rn_accept_0 at h
  refine lv_aload_n hx hb d_Rn_accept_0 rfl (lv_at hl 0 rfl) ?_
  refine va_get (D := D) (ci := 8) (v := .ref (K 6 0)) (C := R_Rn) (T := T_Rn) (N := 16) hx hb ht in_Rn hown hK hI.1 0 rfl rfl 5 (by decide) (ht _ m_208) (fun _ h9 => h9) rfl d_Rn_accept_1 ?_
  obtain ⟨o1, ho2, h⟩ := bd_s h
  refine cl_v (W1 := fun (_ : Unit) => w_Rn g (K 0) (fun j => K (j + 1) 0) s0 ++ (w_Bs g (K 6) o1 ++ (w_Cs g (K 8) s2 ++ (w_Bs g (K 4) s3 ++ (w_Mg g (K 9) s4 ++ (w_Ou g (K 7) s5 ++ (w_Bs g (K 5) s6 ++ (rest)))))))) (va_runV (As := []) (rest := []) ⟨hx, hb, hml, hown, ht⟩ (c_Bs_reset (l := l) (D := D) (A := A) (g := g) (rest := w_Rn g (K 0) (fun j => K (j + 1) 0) s0 ++ (w_Cs g (K 8) s2 ++ (w_Bs g (K 4) s3 ++ (w_Mg g (K 9) s4 ++ (w_Ou g (K 7) s5 ++ (w_Bs g (K 5) s6 ++ (rest))))))) (a0 := K 6) ho2) (cwV 0 ht (gd_V m_274 m_275 m_276 m_2 m_277) rfl rfl rfl (by decide +kernel) ⟨(Nat.le_of_ble_eq_true rfl), (Nat.le_of_ble_eq_true rfl)⟩) (prV (ci := 0) (q0 := 0) hKK hI (mv_1) rfl rfl rfl) rfl rfl hl.1 rfl (lv_room (Nat.le_of_ble_eq_true rfl)) d_Rn_accept_4 ⟨(Nat.le_of_ble_eq_true rfl), (Nat.le_of_ble_eq_true rfl)⟩) hS (fun _ => ((mv_1)).symm) (fun _ H locs hI hS => ?_)
  have hI : Iw D A (w_Rn g (K 0) (fun j => K (j + 1) 0) s0 ++ (w_Bs g (K 6) o1 ++ (w_Cs g (K 8) s2 ++ (w_Bs g (K 4) s3 ++ (w_Mg g (K 9) s4 ++ (w_Ou g (K 7) s5 ++ (w_Bs g (K 5) s6 ++ (rest)))))))) H := hI
  refine lv_iconst (v := 0) hx hb d_Rn_accept_7 (by decide) ?_
  refine lv_istore_n hx hb d_Rn_accept_8 rfl hl (Nat.le_of_ble_eq_true rfl) rfl (fun ls hl => ?_)
  have hl : lv_has ls 2 [(1, .int (0 : Int32)), (0, .ref (K 0 0))] := hl
  exact T_Rn_accept_9 X (lv_sub hl [1, 0] rfl) hI hS h
set_option maxRecDepth 100000 in
set_option maxHeartbeats 4000000 in
theorem c_Rn_accept {l : Launch} {D : va_G} {A : Nat → Prop} {g : Nat → ClassId} {rest : va_W} {K : Nat → Nat → Nat} {s0 : S_Rn} {s1 : S_Bs} {s2 : S_Cs} {s3 : S_Bs} {s4 : S_Mg} {s5 : S_Ou} {s6 : S_Bs} {out : S_Rn × S_Bs × S_Bs × S_Mg × S_Ou × S_Bs} (h : F_Rn_accept s0 s1 s2 s3 s4 s5 s6 = some out) : Met l y_Rn_accept ws_Rn_accept { frames := 3, cells := 0, slots := 0, locals := 63 } (PcW D A g [.ref (K 0 0)] (w_Rn g (K 0) (fun j => K (j + 1) 0) s0 ++ (w_Bs g (K 6) s1 ++ (w_Cs g (K 8) s2 ++ (w_Bs g (K 4) s3 ++ (w_Mg g (K 9) s4 ++ (w_Ou g (K 7) s5 ++ (w_Bs g (K 5) s6 ++ (rest))))))))) (QcV D A g (fun (_ : Unit) => w_Rn g (K 0) (fun j => K (j + 1) 0) out.1 ++ (w_Bs g (K 6) out.2.1 ++ (w_Cs g (K 8) s2 ++ (w_Bs g (K 4) out.2.2.1 ++ (w_Mg g (K 9) out.2.2.2.1 ++ (w_Ou g (K 7) out.2.2.2.2.1 ++ (w_Bs g (K 5) out.2.2.2.2.2 ++ (rest))))))))) 0 0 A := by
  refine Met.ofW (cc := prog_1_method_29_code) (maxL := 2) (ret := none) (by decide) rfl ?_
  intro p e s m args below meth c s₁ B hml hv
  obtain ⟨rfl, hI, hK⟩ := hv
  have hl := lv_entry [.ref (K 0 0)] (n := 2) (Nat.le_of_ble_eq_true rfl)
  rw [lg_entry_eq]
  generalize (lg_sl [.ref (K 0 0)] ++ List.replicate (2 - (lg_sl [.ref (K 0 0)]).length) Slot.unset).toArray = ls at hl ⊢
  have hl : lv_has ls 2 [(0, .ref (K 0 0))] := hl
  exact t_Rn_accept_0 ⟨B.exec, B.bytes, hml, findClass_of_methodNamed B.named, atoms_spec (ws := ws_Rn_accept) B.pre, B.returns, B.notSynchronized, hK⟩ (lv_sub hl [0] rfl) hI va_S.rf h
def ws_Rn_refuse : List Cond := .code y_Rn_refuse prog_1_method_28_code 2 none :: TB
def B_Rn_refuse_28 (s0 : S_Rn) (s1 : S_Bs) (s2 : S_Bs) (s3 : S_Mg) (s4 : S_Ou) (s5 : S_Bs) : Option (S_Rn × S_Bs × S_Bs × S_Mg × S_Ou × S_Bs) :=
  some (s0, s1, s2, s3, s4, s5)
def B_Rn_refuse_23 (s0 : S_Rn) (s1 : S_Bs) (s2 : S_Bs) (s3 : S_Mg) (s4 : S_Ou) (s5 : S_Bs) : Option (S_Rn × S_Bs × S_Bs × S_Mg × S_Ou × S_Bs) :=
  ((F_Rn_begin s0 (3 : Int32)).bind fun o1 => (B_Rn_refuse_28 o1 s1 s2 s3 s4 s5))
def B_Rn_refuse_0 (s0 : S_Rn) (s1 : S_Bs) (s2 : S_Bs) (s3 : S_Mg) (s4 : S_Ou) (s5 : S_Bs) (x1 : Int32) : Option (S_Rn × S_Bs × S_Bs × S_Mg × S_Ou × S_Bs) :=
  ((F_Bs_reset s1).bind fun o1 => ((F_Bs_append o1 x1).bind fun o3 => ((F_Rn_put s0 o3 s2 s3 s4 s5 (3 : Int32)).bind fun o5 => (if o5.1 = 0 then (B_Rn_refuse_28 o5.2.1 o3 o5.2.2.1 o5.2.2.2.1 o5.2.2.2.2.1 o5.2.2.2.2.2) else (B_Rn_refuse_23 o5.2.1 o3 o5.2.2.1 o5.2.2.2.1 o5.2.2.2.2.1 o5.2.2.2.2.2)))))
def F_Rn_refuse (s0 : S_Rn) (s1 : S_Bs) (s2 : S_Bs) (s3 : S_Mg) (s4 : S_Ou) (s5 : S_Bs) (x1 : Int32) : Option (S_Rn × S_Bs × S_Bs × S_Mg × S_Ou × S_Bs) := B_Rn_refuse_0 s0 s1 s2 s3 s4 s5 x1
set_option maxRecDepth 100000 in
set_option maxHeartbeats 4000000 in
theorem t_Rn_refuse_28 {p : Program} {l : Launch} {e : Env} {s : State} {m : MethodId} {args : Array Value} {below : List Frame} {meth : Method} {c : Code} {D : va_G} {A : Nat → Prop} {g : Nat → ClassId} {rest : va_W} {K : Nat → Nat → Nat} {ls : Array Slot} {H : Heap} {locs : List Loc} {s0 : S_Rn} {s1 : S_Bs} {s2 : S_Bs} {s3 : S_Mg} {s4 : S_Ou} {s5 : S_Bs} {out : S_Rn × S_Bs × S_Bs × S_Mg × S_Ou × S_Bs} (X : Cx p s m args meth c prog_1_method_28_code 2 ws_Rn_refuse R_Rn none D g) (hl : lv_has ls 2 []) (hI : Iw D A (w_Rn g (K 0) (fun j => K (j + 1) 0) s0 ++ (w_Bs g (K 6) s1 ++ (w_Bs g (K 4) s2 ++ (w_Mg g (K 9) s3 ++ (w_Ou g (K 7) s4 ++ (w_Bs g (K 5) s5 ++ (rest))))))) H) (hS : va_S A s.heap H locs) (h : B_Rn_refuse_28  s0 s1 s2 s3 s4 s5 = some out) : W p l e (headSpec ws_Rn_refuse { frames := 3, cells := 0, slots := 0, locals := 63 }).room s m args below meth c H locs 0 0 (MQ below (QcV D A g (fun (_ : Unit) => w_Rn g (K 0) (fun j => K (j + 1) 0) out.1 ++ (w_Bs g (K 6) out.2.1 ++ (w_Bs g (K 4) out.2.2.1 ++ (w_Mg g (K 9) out.2.2.2.1 ++ (w_Ou g (K 7) out.2.2.2.2.1 ++ (w_Bs g (K 5) out.2.2.2.2.2 ++ (rest)))))))) args s 0 0 A) (F0 m 28 ls []) := by
  have X1 := X
  obtain ⟨hx, hb, hml, hown, hts, hr, hlocks, hKK⟩ := X1
  have ht : ∀ w ∈ TB, w.before args s = true := fun w h => hts w (List.mem_cons_of_mem _ h)
  have hK := hKK.1
  unfold B_Rn_refuse_28 at h
  have h9 := Option.some.inj h
  subst h9
  exact W.vret hx hb hr (fun t ht hW => ⟨⟨(), rfl, trivial, ⟨by rw [ht]; exact hI, hKK.moved hW⟩⟩, hS.F ht⟩) hS.2.2 d_Rn_refuse_28
set_option maxRecDepth 100000 in
set_option maxHeartbeats 4000000 in
theorem t_Rn_refuse_23 {p : Program} {l : Launch} {e : Env} {s : State} {m : MethodId} {args : Array Value} {below : List Frame} {meth : Method} {c : Code} {D : va_G} {A : Nat → Prop} {g : Nat → ClassId} {rest : va_W} {K : Nat → Nat → Nat} {ls : Array Slot} {H : Heap} {locs : List Loc} {s0 : S_Rn} {s1 : S_Bs} {s2 : S_Bs} {s3 : S_Mg} {s4 : S_Ou} {s5 : S_Bs} {out : S_Rn × S_Bs × S_Bs × S_Mg × S_Ou × S_Bs} (X : Cx p s m args meth c prog_1_method_28_code 2 ws_Rn_refuse R_Rn none D g) (hl : lv_has ls 2 [(0, .ref (K 0 0))]) (hI : Iw D A (w_Rn g (K 0) (fun j => K (j + 1) 0) s0 ++ (w_Bs g (K 6) s1 ++ (w_Bs g (K 4) s2 ++ (w_Mg g (K 9) s3 ++ (w_Ou g (K 7) s4 ++ (w_Bs g (K 5) s5 ++ (rest))))))) H) (hS : va_S A s.heap H locs) (h : B_Rn_refuse_23  s0 s1 s2 s3 s4 s5 = some out) : W p l e (headSpec ws_Rn_refuse { frames := 3, cells := 0, slots := 0, locals := 63 }).room s m args below meth c H locs 0 0 (MQ below (QcV D A g (fun (_ : Unit) => w_Rn g (K 0) (fun j => K (j + 1) 0) out.1 ++ (w_Bs g (K 6) out.2.1 ++ (w_Bs g (K 4) out.2.2.1 ++ (w_Mg g (K 9) out.2.2.2.1 ++ (w_Ou g (K 7) out.2.2.2.2.1 ++ (w_Bs g (K 5) out.2.2.2.2.2 ++ (rest)))))))) args s 0 0 A) (F0 m 23 ls []) := by
  have X1 := X
  obtain ⟨hx, hb, hml, hown, hts, hr, hlocks, hKK⟩ := X1
  have ht : ∀ w ∈ TB, w.before args s = true := fun w h => hts w (List.mem_cons_of_mem _ h)
  have hK := hKK.1
  unfold B_Rn_refuse_23 at h
  refine lv_aload_n hx hb d_Rn_refuse_23 rfl (lv_at hl 0 rfl) ?_
  refine lv_iconst (v := 3) hx hb d_Rn_refuse_24 (by decide) ?_
  obtain ⟨o1, ho2, h⟩ := bd_s h
  refine cl_v (W1 := fun (_ : Unit) => w_Rn g (K 0) (fun j => K (j + 1) 0) o1 ++ (w_Bs g (K 6) s1 ++ (w_Bs g (K 4) s2 ++ (w_Mg g (K 9) s3 ++ (w_Ou g (K 7) s4 ++ (w_Bs g (K 5) s5 ++ (rest))))))) (va_runV (As := [.int (3 : Int32)]) (rest := []) ⟨hx, hb, hml, hown, ht⟩ (c_Rn_begin (l := l) (D := D) (A := A) (g := g) (rest := w_Bs g (K 6) s1 ++ (w_Bs g (K 4) s2 ++ (w_Mg g (K 9) s3 ++ (w_Ou g (K 7) s4 ++ (w_Bs g (K 5) s5 ++ (rest)))))) (K := K) ho2) (cwV 1 ht (gd_V m_282 m_284 mp_0 m_1 m_285) rfl rfl rfl (by decide +kernel) ⟨(Nat.le_of_ble_eq_true rfl), (Nat.le_of_ble_eq_true rfl)⟩) (prV (ci := 8) (q0 := 0) hKK hI (List.Perm.refl _) rfl rfl rfl) rfl rfl hl.1 rfl (lv_room (Nat.le_of_ble_eq_true rfl)) d_Rn_refuse_25 ⟨(Nat.le_of_ble_eq_true rfl), (Nat.le_of_ble_eq_true rfl)⟩) hS (fun _ => ((List.Perm.refl _)).symm) (fun _ H locs hI hS => ?_)
  have hI : Iw D A (w_Rn g (K 0) (fun j => K (j + 1) 0) o1 ++ (w_Bs g (K 6) s1 ++ (w_Bs g (K 4) s2 ++ (w_Mg g (K 9) s3 ++ (w_Ou g (K 7) s4 ++ (w_Bs g (K 5) s5 ++ (rest))))))) H := hI
  exact t_Rn_refuse_28 X (lv_sub hl [] rfl) hI hS h
set_option maxRecDepth 100000 in
set_option maxHeartbeats 4000000 in
theorem t_Rn_refuse_0 {p : Program} {l : Launch} {e : Env} {s : State} {m : MethodId} {args : Array Value} {below : List Frame} {meth : Method} {c : Code} {D : va_G} {A : Nat → Prop} {g : Nat → ClassId} {rest : va_W} {K : Nat → Nat → Nat} {ls : Array Slot} {H : Heap} {locs : List Loc} {s0 : S_Rn} {s1 : S_Bs} {s2 : S_Bs} {s3 : S_Mg} {s4 : S_Ou} {s5 : S_Bs} {x1 : Int32} {out : S_Rn × S_Bs × S_Bs × S_Mg × S_Ou × S_Bs} (X : Cx p s m args meth c prog_1_method_28_code 2 ws_Rn_refuse R_Rn none D g) (hl : lv_has ls 2 [(0, .ref (K 0 0)), (1, .int x1)]) (hI : Iw D A (w_Rn g (K 0) (fun j => K (j + 1) 0) s0 ++ (w_Bs g (K 6) s1 ++ (w_Bs g (K 4) s2 ++ (w_Mg g (K 9) s3 ++ (w_Ou g (K 7) s4 ++ (w_Bs g (K 5) s5 ++ (rest))))))) H) (hS : va_S A s.heap H locs) (h : B_Rn_refuse_0  s0 s1 s2 s3 s4 s5 x1 = some out) : W p l e (headSpec ws_Rn_refuse { frames := 3, cells := 0, slots := 0, locals := 63 }).room s m args below meth c H locs 0 0 (MQ below (QcV D A g (fun (_ : Unit) => w_Rn g (K 0) (fun j => K (j + 1) 0) out.1 ++ (w_Bs g (K 6) out.2.1 ++ (w_Bs g (K 4) out.2.2.1 ++ (w_Mg g (K 9) out.2.2.2.1 ++ (w_Ou g (K 7) out.2.2.2.2.1 ++ (w_Bs g (K 5) out.2.2.2.2.2 ++ (rest)))))))) args s 0 0 A) (F0 m 0 ls []) := by
  have X1 := X
  obtain ⟨hx, hb, hml, hown, hts, hr, hlocks, hKK⟩ := X1
  have ht : ∀ w ∈ TB, w.before args s = true := fun w h => hts w (List.mem_cons_of_mem _ h)
  have hK := hKK.1
  unfold B_Rn_refuse_0 at h
  refine lv_aload_n hx hb d_Rn_refuse_0 rfl (lv_at hl 0 rfl) ?_
  refine va_get (D := D) (ci := 8) (v := .ref (K 6 0)) (C := R_Rn) (T := T_Rn) (N := 16) hx hb ht in_Rn hown hK hI.1 0 rfl rfl 5 (by decide) (ht _ m_208) (fun _ h9 => h9) rfl d_Rn_refuse_1 ?_
  obtain ⟨o1, ho2, h⟩ := bd_s h
  refine cl_v (W1 := fun (_ : Unit) => w_Rn g (K 0) (fun j => K (j + 1) 0) s0 ++ (w_Bs g (K 6) o1 ++ (w_Bs g (K 4) s2 ++ (w_Mg g (K 9) s3 ++ (w_Ou g (K 7) s4 ++ (w_Bs g (K 5) s5 ++ (rest))))))) (va_runV (As := []) (rest := []) ⟨hx, hb, hml, hown, ht⟩ (c_Bs_reset (l := l) (D := D) (A := A) (g := g) (rest := w_Rn g (K 0) (fun j => K (j + 1) 0) s0 ++ (w_Bs g (K 4) s2 ++ (w_Mg g (K 9) s3 ++ (w_Ou g (K 7) s4 ++ (w_Bs g (K 5) s5 ++ (rest)))))) (a0 := K 6) ho2) (cwV 0 ht (gd_V m_274 m_275 m_276 m_2 m_277) rfl rfl rfl (by decide +kernel) ⟨(Nat.le_of_ble_eq_true rfl), (Nat.le_of_ble_eq_true rfl)⟩) (prV (ci := 0) (q0 := 0) hKK hI (mv_1) rfl rfl rfl) rfl rfl hl.1 rfl (lv_room (Nat.le_of_ble_eq_true rfl)) d_Rn_refuse_4 ⟨(Nat.le_of_ble_eq_true rfl), (Nat.le_of_ble_eq_true rfl)⟩) hS (fun _ => ((mv_1)).symm) (fun _ H locs hI hS => ?_)
  have hI : Iw D A (w_Rn g (K 0) (fun j => K (j + 1) 0) s0 ++ (w_Bs g (K 6) o1 ++ (w_Bs g (K 4) s2 ++ (w_Mg g (K 9) s3 ++ (w_Ou g (K 7) s4 ++ (w_Bs g (K 5) s5 ++ (rest))))))) H := hI
  refine lv_aload_n hx hb d_Rn_refuse_7 rfl (lv_at hl 0 rfl) ?_
  refine va_get (D := D) (ci := 8) (v := .ref (K 6 0)) (C := R_Rn) (T := T_Rn) (N := 16) hx hb ht in_Rn hown hK hI.1 0 rfl rfl 5 (by decide) (ht _ m_208) (fun _ h9 => h9) rfl d_Rn_refuse_8 ?_
  refine lv_iload_n hx hb d_Rn_refuse_11 rfl (lv_at hl 1 rfl) ?_
  obtain ⟨o3, ho4, h⟩ := bd_s h
  refine cl_v (W1 := fun (_ : Unit) => w_Rn g (K 0) (fun j => K (j + 1) 0) s0 ++ (w_Bs g (K 6) o3 ++ (w_Bs g (K 4) s2 ++ (w_Mg g (K 9) s3 ++ (w_Ou g (K 7) s4 ++ (w_Bs g (K 5) s5 ++ (rest))))))) (va_runV (As := [.int x1]) (rest := []) ⟨hx, hb, hml, hown, ht⟩ (c_Bs_append (l := l) (D := D) (A := A) (g := g) (rest := w_Rn g (K 0) (fun j => K (j + 1) 0) s0 ++ (w_Bs g (K 4) s2 ++ (w_Mg g (K 9) s3 ++ (w_Ou g (K 7) s4 ++ (w_Bs g (K 5) s5 ++ (rest)))))) (a0 := K 6) ho4) (cwV 1 ht (gd_V m_266 m_267 m_268 m_2 m_269) rfl rfl rfl (by decide +kernel) ⟨(Nat.le_of_ble_eq_true rfl), (Nat.le_of_ble_eq_true rfl)⟩) (prV (ci := 0) (q0 := 0) hKK hI (mv_1) rfl rfl rfl) rfl rfl hl.1 rfl (lv_room (Nat.le_of_ble_eq_true rfl)) d_Rn_refuse_12 ⟨(Nat.le_of_ble_eq_true rfl), (Nat.le_of_ble_eq_true rfl)⟩) hS (fun _ => ((mv_1)).symm) (fun _ H locs hI hS => ?_)
  have hI : Iw D A (w_Rn g (K 0) (fun j => K (j + 1) 0) s0 ++ (w_Bs g (K 6) o3 ++ (w_Bs g (K 4) s2 ++ (w_Mg g (K 9) s3 ++ (w_Ou g (K 7) s4 ++ (w_Bs g (K 5) s5 ++ (rest))))))) H := hI
  refine lv_aload_n hx hb d_Rn_refuse_15 rfl (lv_at hl 0 rfl) ?_
  refine lv_iconst (v := 3) hx hb d_Rn_refuse_16 (by decide) ?_
  obtain ⟨o5, ho6, h⟩ := bd_s h
  refine cl_i (W1 := fun (_ : Unit) => w_Rn g (K 0) (fun j => K (j + 1) 0) o5.2.1 ++ (w_Bs g (K 6) o3 ++ (w_Bs g (K 4) o5.2.2.1 ++ (w_Mg g (K 9) o5.2.2.2.1 ++ (w_Ou g (K 7) o5.2.2.2.2.1 ++ (w_Bs g (K 5) o5.2.2.2.2.2 ++ (rest))))))) (va_runV (As := [.int (3 : Int32)]) (rest := []) ⟨hx, hb, hml, hown, ht⟩ (c_Rn_put (l := l) (D := D) (A := A) (g := g) (rest := rest) (K := K) ho6) (cwV 1 ht (gd_V m_322 m_324 mp_5 m_1 m_325) rfl rfl rfl (by decide +kernel) ⟨(Nat.le_of_ble_eq_true rfl), (Nat.le_of_ble_eq_true rfl)⟩) (prV (ci := 8) (q0 := 0) hKK hI ((mv_5).trans ((mv_5).trans ((mv_5).trans ((mv_5).trans ((mv_5).trans (mv_5)))))) rfl rfl rfl) rfl rfl hl.1 rfl (lv_room (Nat.le_of_ble_eq_true rfl)) d_Rn_refuse_17 ⟨(Nat.le_of_ble_eq_true rfl), (Nat.le_of_ble_eq_true rfl)⟩) hS (fun _ => (((mv_5).trans ((mv_5).trans ((mv_5).trans ((mv_5).trans ((mv_5).trans (mv_5))))))).symm) (fun _ H locs hI hS => ?_)
  have hI : Iw D A (w_Rn g (K 0) (fun j => K (j + 1) 0) o5.2.1 ++ (w_Bs g (K 6) o3 ++ (w_Bs g (K 4) o5.2.2.1 ++ (w_Mg g (K 9) o5.2.2.2.1 ++ (w_Ou g (K 7) o5.2.2.2.2.1 ++ (w_Bs g (K 5) o5.2.2.2.2.2 ++ (rest))))))) H := hI
  refine lv_if_eq (tgt := 28) hx hb d_Rn_refuse_20 (by decide) (fun hc => ?_) (fun hc => ?_)
  · have h := it_t h hc
    exact t_Rn_refuse_28 X (lv_sub hl [] rfl) hI hS h
  · have h := it_f h hc
    exact t_Rn_refuse_23 X (lv_sub hl [0] rfl) hI hS h
set_option maxRecDepth 100000 in
set_option maxHeartbeats 4000000 in
theorem c_Rn_refuse {l : Launch} {D : va_G} {A : Nat → Prop} {g : Nat → ClassId} {rest : va_W} {K : Nat → Nat → Nat} {s0 : S_Rn} {s1 : S_Bs} {s2 : S_Bs} {s3 : S_Mg} {s4 : S_Ou} {s5 : S_Bs} {x1 : Int32} {out : S_Rn × S_Bs × S_Bs × S_Mg × S_Ou × S_Bs} (h : F_Rn_refuse s0 s1 s2 s3 s4 s5 x1 = some out) : Met l y_Rn_refuse ws_Rn_refuse { frames := 3, cells := 0, slots := 0, locals := 63 } (PcW D A g [.ref (K 0 0), .int x1] (w_Rn g (K 0) (fun j => K (j + 1) 0) s0 ++ (w_Bs g (K 6) s1 ++ (w_Bs g (K 4) s2 ++ (w_Mg g (K 9) s3 ++ (w_Ou g (K 7) s4 ++ (w_Bs g (K 5) s5 ++ (rest)))))))) (QcV D A g (fun (_ : Unit) => w_Rn g (K 0) (fun j => K (j + 1) 0) out.1 ++ (w_Bs g (K 6) out.2.1 ++ (w_Bs g (K 4) out.2.2.1 ++ (w_Mg g (K 9) out.2.2.2.1 ++ (w_Ou g (K 7) out.2.2.2.2.1 ++ (w_Bs g (K 5) out.2.2.2.2.2 ++ (rest)))))))) 0 0 A := by
  refine Met.ofW (cc := prog_1_method_28_code) (maxL := 2) (ret := none) (by decide) rfl ?_
  intro p e s m args below meth c s₁ B hml hv
  obtain ⟨rfl, hI, hK⟩ := hv
  have hl := lv_entry [.ref (K 0 0), .int x1] (n := 2) (Nat.le_of_ble_eq_true rfl)
  rw [lg_entry_eq]
  generalize (lg_sl [.ref (K 0 0), .int x1] ++ List.replicate (2 - (lg_sl [.ref (K 0 0), .int x1]).length) Slot.unset).toArray = ls at hl ⊢
  have hl : lv_has ls 2 [(0, .ref (K 0 0)), (1, .int x1)] := hl
  exact t_Rn_refuse_0 ⟨B.exec, B.bytes, hml, findClass_of_methodNamed B.named, atoms_spec (ws := ws_Rn_refuse) B.pre, B.returns, B.notSynchronized, hK⟩ (lv_sub hl [0, 1] rfl) hI va_S.rf h
def ws_Rn_lookAtRequest : List Cond := .code y_Rn_lookAtRequest prog_1_method_27_code 2 none :: TB
def B_Rn_lookAtRequest_71 (s0 : S_Rn) (s1 : S_Bs) (s2 : S_Cs) (s3 : S_Bs) (s4 : S_Mg) (s5 : S_Ou) (s6 : S_Bs) : Option (S_Rn × S_Bs × S_Cs × S_Bs × S_Mg × S_Ou × S_Bs) :=
  some (s0, s1, s2, s3, s4, s5, s6)
def B_Rn_lookAtRequest_19 (s0 : S_Rn) (s1 : S_Bs) (s2 : S_Cs) (s3 : S_Bs) (s4 : S_Mg) (s5 : S_Ou) (s6 : S_Bs) : Option (S_Rn × S_Bs × S_Cs × S_Bs × S_Mg × S_Ou × S_Bs) :=
  ((F_Rn_breakOff s0 s1 s3 s4 s5 s6).bind fun o1 => (B_Rn_lookAtRequest_71 o1.1 o1.2.1 s2 o1.2.2.1 o1.2.2.2.1 o1.2.2.2.2.1 o1.2.2.2.2.2))
def B_Rn_lookAtRequest_67 (s0 : S_Rn) (s1 : S_Bs) (s2 : S_Cs) (s3 : S_Bs) (s4 : S_Mg) (s5 : S_Ou) (s6 : S_Bs) : Option (S_Rn × S_Bs × S_Cs × S_Bs × S_Mg × S_Ou × S_Bs) :=
  ((F_Rn_accept s0 s1 s2 s3 s4 s5 s6).bind fun o1 => (B_Rn_lookAtRequest_71 o1.1 o1.2.1 s2 o1.2.2.1 o1.2.2.2.1 o1.2.2.2.2.1 o1.2.2.2.2.2))
def B_Rn_lookAtRequest_59 (s0 : S_Rn) (s1 : S_Bs) (s2 : S_Cs) (s3 : S_Bs) (s4 : S_Mg) (s5 : S_Ou) (s6 : S_Bs) : Option (S_Rn × S_Bs × S_Cs × S_Bs × S_Mg × S_Ou × S_Bs) :=
  ((F_Rn_refuse s0 s1 s3 s4 s5 s6 (2 : Int32)).bind fun o1 => (B_Rn_lookAtRequest_71 o1.1 o1.2.1 s2 o1.2.2.1 o1.2.2.2.1 o1.2.2.2.2.1 o1.2.2.2.2.2))
def B_Rn_lookAtRequest_47 (s0 : S_Rn) (s1 : S_Bs) (s2 : S_Cs) (s3 : S_Bs) (s4 : S_Mg) (s5 : S_Ou) (s6 : S_Bs) : Option (S_Rn × S_Bs × S_Cs × S_Bs × S_Mg × S_Ou × S_Bs) :=
  ((F_Bs_get s3 (3 : Int32)).bind fun o1 => (if o1 = (1 : Int32) then (B_Rn_lookAtRequest_67 s0 s1 s2 s3 s4 s5 s6) else (B_Rn_lookAtRequest_59 s0 s1 s2 s3 s4 s5 s6)))
def B_Rn_lookAtRequest_39 (s0 : S_Rn) (s1 : S_Bs) (s2 : S_Cs) (s3 : S_Bs) (s4 : S_Mg) (s5 : S_Ou) (s6 : S_Bs) : Option (S_Rn × S_Bs × S_Cs × S_Bs × S_Mg × S_Ou × S_Bs) :=
  ((F_Rn_refuse s0 s1 s3 s4 s5 s6 (1 : Int32)).bind fun o1 => (B_Rn_lookAtRequest_71 o1.1 o1.2.1 s2 o1.2.2.1 o1.2.2.2.1 o1.2.2.2.2.1 o1.2.2.2.2.2))
def B_Rn_lookAtRequest_26 (s0 : S_Rn) (s1 : S_Bs) (s2 : S_Cs) (s3 : S_Bs) (s4 : S_Mg) (s5 : S_Ou) (s6 : S_Bs) : Option (S_Rn × S_Bs × S_Cs × S_Bs × S_Mg × S_Ou × S_Bs) :=
  ((F_Bs_get s3 (2 : Int32)).bind fun o1 => (if (o1 - o1 / (2 : Int32) * (2 : Int32)) = 0 then (B_Rn_lookAtRequest_39 s0 s1 s2 s3 s4 s5 s6) else (B_Rn_lookAtRequest_47 s0 s1 s2 s3 s4 s5 s6)))
def B_Rn_lookAtRequest_5 (s0 : S_Rn) (s1 : S_Bs) (s2 : S_Cs) (s3 : S_Bs) (s4 : S_Mg) (s5 : S_Ou) (s6 : S_Bs) : Option (S_Rn × S_Bs × S_Cs × S_Bs × S_Mg × S_Ou × S_Bs) :=
  ((F_Cs_readRequest s2 s3).bind fun o1 => (if o1.1 = 0 then (B_Rn_lookAtRequest_19 s0 s1 o1.2 s3 s4 s5 s6) else (B_Rn_lookAtRequest_26 s0 s1 o1.2 s3 s4 s5 s6)))
def B_Rn_lookAtRequest_0 (s0 : S_Rn) (s1 : S_Bs) (s2 : S_Cs) (s3 : S_Bs) (s4 : S_Mg) (s5 : S_Ou) (s6 : S_Bs) (x1 : Int32) : Option (S_Rn × S_Bs × S_Cs × S_Bs × S_Mg × S_Ou × S_Bs) :=
  (if x1 = (1 : Int32) then (B_Rn_lookAtRequest_5 s0 s1 s2 s3 s4 s5 s6) else (B_Rn_lookAtRequest_19 s0 s1 s2 s3 s4 s5 s6))
def F_Rn_lookAtRequest (s0 : S_Rn) (s1 : S_Bs) (s2 : S_Cs) (s3 : S_Bs) (s4 : S_Mg) (s5 : S_Ou) (s6 : S_Bs) (x1 : Int32) : Option (S_Rn × S_Bs × S_Cs × S_Bs × S_Mg × S_Ou × S_Bs) := B_Rn_lookAtRequest_0 s0 s1 s2 s3 s4 s5 s6 x1
set_option maxRecDepth 100000 in
set_option maxHeartbeats 4000000 in
theorem t_Rn_lookAtRequest_71 {p : Program} {l : Launch} {e : Env} {s : State} {m : MethodId} {args : Array Value} {below : List Frame} {meth : Method} {c : Code} {D : va_G} {A : Nat → Prop} {g : Nat → ClassId} {rest : va_W} {K : Nat → Nat → Nat} {ls : Array Slot} {H : Heap} {locs : List Loc} {s0 : S_Rn} {s1 : S_Bs} {s2 : S_Cs} {s3 : S_Bs} {s4 : S_Mg} {s5 : S_Ou} {s6 : S_Bs} {out : S_Rn × S_Bs × S_Cs × S_Bs × S_Mg × S_Ou × S_Bs} (X : Cx p s m args meth c prog_1_method_27_code 2 ws_Rn_lookAtRequest R_Rn none D g) (hl : lv_has ls 2 []) (hI : Iw D A (w_Rn g (K 0) (fun j => K (j + 1) 0) s0 ++ (w_Bs g (K 6) s1 ++ (w_Cs g (K 8) s2 ++ (w_Bs g (K 4) s3 ++ (w_Mg g (K 9) s4 ++ (w_Ou g (K 7) s5 ++ (w_Bs g (K 5) s6 ++ (rest)))))))) H) (hS : va_S A s.heap H locs) (h : B_Rn_lookAtRequest_71  s0 s1 s2 s3 s4 s5 s6 = some out) : W p l e (headSpec ws_Rn_lookAtRequest { frames := 4, cells := 0, slots := 0, locals := 84 }).room s m args below meth c H locs 0 0 (MQ below (QcV D A g (fun (_ : Unit) => w_Rn g (K 0) (fun j => K (j + 1) 0) out.1 ++ (w_Bs g (K 6) out.2.1 ++ (w_Cs g (K 8) out.2.2.1 ++ (w_Bs g (K 4) out.2.2.2.1 ++ (w_Mg g (K 9) out.2.2.2.2.1 ++ (w_Ou g (K 7) out.2.2.2.2.2.1 ++ (w_Bs g (K 5) out.2.2.2.2.2.2 ++ (rest))))))))) args s 0 0 A) (F0 m 71 ls []) := by
  have X1 := X
  obtain ⟨hx, hb, hml, hown, hts, hr, hlocks, hKK⟩ := X1
  have ht : ∀ w ∈ TB, w.before args s = true := fun w h => hts w (List.mem_cons_of_mem _ h)
  have hK := hKK.1
  unfold B_Rn_lookAtRequest_71 at h
  have h9 := Option.some.inj h
  subst h9
  exact W.vret hx hb hr (fun t ht hW => ⟨⟨(), rfl, trivial, ⟨by rw [ht]; exact hI, hKK.moved hW⟩⟩, hS.F ht⟩) hS.2.2 d_Rn_lookAtRequest_71
set_option maxRecDepth 100000 in
set_option maxHeartbeats 4000000 in
theorem t_Rn_lookAtRequest_19 {p : Program} {l : Launch} {e : Env} {s : State} {m : MethodId} {args : Array Value} {below : List Frame} {meth : Method} {c : Code} {D : va_G} {A : Nat → Prop} {g : Nat → ClassId} {rest : va_W} {K : Nat → Nat → Nat} {ls : Array Slot} {H : Heap} {locs : List Loc} {s0 : S_Rn} {s1 : S_Bs} {s2 : S_Cs} {s3 : S_Bs} {s4 : S_Mg} {s5 : S_Ou} {s6 : S_Bs} {out : S_Rn × S_Bs × S_Cs × S_Bs × S_Mg × S_Ou × S_Bs} (X : Cx p s m args meth c prog_1_method_27_code 2 ws_Rn_lookAtRequest R_Rn none D g) (hl : lv_has ls 2 [(0, .ref (K 0 0))]) (hI : Iw D A (w_Rn g (K 0) (fun j => K (j + 1) 0) s0 ++ (w_Bs g (K 6) s1 ++ (w_Cs g (K 8) s2 ++ (w_Bs g (K 4) s3 ++ (w_Mg g (K 9) s4 ++ (w_Ou g (K 7) s5 ++ (w_Bs g (K 5) s6 ++ (rest)))))))) H) (hS : va_S A s.heap H locs) (h : B_Rn_lookAtRequest_19  s0 s1 s2 s3 s4 s5 s6 = some out) : W p l e (headSpec ws_Rn_lookAtRequest { frames := 4, cells := 0, slots := 0, locals := 84 }).room s m args below meth c H locs 0 0 (MQ below (QcV D A g (fun (_ : Unit) => w_Rn g (K 0) (fun j => K (j + 1) 0) out.1 ++ (w_Bs g (K 6) out.2.1 ++ (w_Cs g (K 8) out.2.2.1 ++ (w_Bs g (K 4) out.2.2.2.1 ++ (w_Mg g (K 9) out.2.2.2.2.1 ++ (w_Ou g (K 7) out.2.2.2.2.2.1 ++ (w_Bs g (K 5) out.2.2.2.2.2.2 ++ (rest))))))))) args s 0 0 A) (F0 m 19 ls []) := by
  have X1 := X
  obtain ⟨hx, hb, hml, hown, hts, hr, hlocks, hKK⟩ := X1
  have ht : ∀ w ∈ TB, w.before args s = true := fun w h => hts w (List.mem_cons_of_mem _ h)
  have hK := hKK.1
  unfold B_Rn_lookAtRequest_19 at h
  refine lv_aload_n hx hb d_Rn_lookAtRequest_19 rfl (lv_at hl 0 rfl) ?_
  obtain ⟨o1, ho2, h⟩ := bd_s h
  refine cl_v (W1 := fun (_ : Unit) => w_Rn g (K 0) (fun j => K (j + 1) 0) o1.1 ++ (w_Bs g (K 6) o1.2.1 ++ (w_Cs g (K 8) s2 ++ (w_Bs g (K 4) o1.2.2.1 ++ (w_Mg g (K 9) o1.2.2.2.1 ++ (w_Ou g (K 7) o1.2.2.2.2.1 ++ (w_Bs g (K 5) o1.2.2.2.2.2 ++ (rest)))))))) (va_runV (As := []) (rest := []) ⟨hx, hb, hml, hown, ht⟩ (c_Rn_breakOff (l := l) (D := D) (A := A) (g := g) (rest := w_Cs g (K 8) s2 ++ (rest)) (K := K) ho2) (cwV 0 ht (gd_V m_318 m_320 mp_4 m_1 m_321) rfl rfl rfl (by decide +kernel) ⟨(Nat.le_of_ble_eq_true rfl), (Nat.le_of_ble_eq_true rfl)⟩) (prV (ci := 8) (q0 := 0) hKK hI ((mv_6).trans ((mv_6).trans ((mv_6).trans ((mv_6).trans ((mv_5).trans (mv_5)))))) rfl rfl rfl) rfl rfl hl.1 rfl (lv_room (Nat.le_of_ble_eq_true rfl)) d_Rn_lookAtRequest_20 ⟨(Nat.le_of_ble_eq_true rfl), (Nat.le_of_ble_eq_true rfl)⟩) hS (fun _ => (((mv_6).trans ((mv_6).trans ((mv_6).trans ((mv_6).trans ((mv_5).trans (mv_5))))))).symm) (fun _ H locs hI hS => ?_)
  have hI : Iw D A (w_Rn g (K 0) (fun j => K (j + 1) 0) o1.1 ++ (w_Bs g (K 6) o1.2.1 ++ (w_Cs g (K 8) s2 ++ (w_Bs g (K 4) o1.2.2.1 ++ (w_Mg g (K 9) o1.2.2.2.1 ++ (w_Ou g (K 7) o1.2.2.2.2.1 ++ (w_Bs g (K 5) o1.2.2.2.2.2 ++ (rest)))))))) H := hI
  refine lv_goto (tgt := 71) hx hb d_Rn_lookAtRequest_23 (by decide) ?_
  exact t_Rn_lookAtRequest_71 X (lv_sub hl [] rfl) hI hS h
set_option maxRecDepth 100000 in
set_option maxHeartbeats 4000000 in
theorem t_Rn_lookAtRequest_67 {p : Program} {l : Launch} {e : Env} {s : State} {m : MethodId} {args : Array Value} {below : List Frame} {meth : Method} {c : Code} {D : va_G} {A : Nat → Prop} {g : Nat → ClassId} {rest : va_W} {K : Nat → Nat → Nat} {ls : Array Slot} {H : Heap} {locs : List Loc} {s0 : S_Rn} {s1 : S_Bs} {s2 : S_Cs} {s3 : S_Bs} {s4 : S_Mg} {s5 : S_Ou} {s6 : S_Bs} {out : S_Rn × S_Bs × S_Cs × S_Bs × S_Mg × S_Ou × S_Bs} (X : Cx p s m args meth c prog_1_method_27_code 2 ws_Rn_lookAtRequest R_Rn none D g) (hl : lv_has ls 2 [(0, .ref (K 0 0))]) (hI : Iw D A (w_Rn g (K 0) (fun j => K (j + 1) 0) s0 ++ (w_Bs g (K 6) s1 ++ (w_Cs g (K 8) s2 ++ (w_Bs g (K 4) s3 ++ (w_Mg g (K 9) s4 ++ (w_Ou g (K 7) s5 ++ (w_Bs g (K 5) s6 ++ (rest)))))))) H) (hS : va_S A s.heap H locs) (h : B_Rn_lookAtRequest_67  s0 s1 s2 s3 s4 s5 s6 = some out) : W p l e (headSpec ws_Rn_lookAtRequest { frames := 4, cells := 0, slots := 0, locals := 84 }).room s m args below meth c H locs 0 0 (MQ below (QcV D A g (fun (_ : Unit) => w_Rn g (K 0) (fun j => K (j + 1) 0) out.1 ++ (w_Bs g (K 6) out.2.1 ++ (w_Cs g (K 8) out.2.2.1 ++ (w_Bs g (K 4) out.2.2.2.1 ++ (w_Mg g (K 9) out.2.2.2.2.1 ++ (w_Ou g (K 7) out.2.2.2.2.2.1 ++ (w_Bs g (K 5) out.2.2.2.2.2.2 ++ (rest))))))))) args s 0 0 A) (F0 m 67 ls []) := by
  have X1 := X
  obtain ⟨hx, hb, hml, hown, hts, hr, hlocks, hKK⟩ := X1
  have ht : ∀ w ∈ TB, w.before args s = true := fun w h => hts w (List.mem_cons_of_mem _ h)
  have hK := hKK.1
  unfold B_Rn_lookAtRequest_67 at h
  refine lv_aload_n hx hb d_Rn_lookAtRequest_67 rfl (lv_at hl 0 rfl) ?_
  obtain ⟨o1, ho2, h⟩ := bd_s h
  refine cl_v (W1 := fun (_ : Unit) => w_Rn g (K 0) (fun j => K (j + 1) 0) o1.1 ++ (w_Bs g (K 6) o1.2.1 ++ (w_Cs g (K 8) s2 ++ (w_Bs g (K 4) o1.2.2.1 ++ (w_Mg g (K 9) o1.2.2.2.1 ++ (w_Ou g (K 7) o1.2.2.2.2.1 ++ (w_Bs g (K 5) o1.2.2.2.2.2 ++ (rest)))))))) (va_runV (As := []) (rest := []) ⟨hx, hb, hml, hown, ht⟩ (c_Rn_accept (l := l) (D := D) (A := A) (g := g) (rest := rest) (K := K) ho2) (cwV 0 ht (gd_V m_359 m_361 mp_9 m_1 m_362) rfl rfl rfl (by decide +kernel) ⟨(Nat.le_of_ble_eq_true rfl), (Nat.le_of_ble_eq_true rfl)⟩) (prV (ci := 8) (q0 := 0) hKK hI ((mv_6).trans ((mv_6).trans ((mv_6).trans ((mv_6).trans ((mv_6).trans ((mv_6).trans (mv_6))))))) rfl rfl rfl) rfl rfl hl.1 rfl (lv_room (Nat.le_of_ble_eq_true rfl)) d_Rn_lookAtRequest_68 ⟨(Nat.le_of_ble_eq_true rfl), (Nat.le_of_ble_eq_true rfl)⟩) hS (fun _ => (((mv_6).trans ((mv_6).trans ((mv_6).trans ((mv_6).trans ((mv_6).trans ((mv_6).trans (mv_6)))))))).symm) (fun _ H locs hI hS => ?_)
  have hI : Iw D A (w_Rn g (K 0) (fun j => K (j + 1) 0) o1.1 ++ (w_Bs g (K 6) o1.2.1 ++ (w_Cs g (K 8) s2 ++ (w_Bs g (K 4) o1.2.2.1 ++ (w_Mg g (K 9) o1.2.2.2.1 ++ (w_Ou g (K 7) o1.2.2.2.2.1 ++ (w_Bs g (K 5) o1.2.2.2.2.2 ++ (rest)))))))) H := hI
  exact t_Rn_lookAtRequest_71 X (lv_sub hl [] rfl) hI hS h
set_option maxRecDepth 100000 in
set_option maxHeartbeats 4000000 in
theorem t_Rn_lookAtRequest_59 {p : Program} {l : Launch} {e : Env} {s : State} {m : MethodId} {args : Array Value} {below : List Frame} {meth : Method} {c : Code} {D : va_G} {A : Nat → Prop} {g : Nat → ClassId} {rest : va_W} {K : Nat → Nat → Nat} {ls : Array Slot} {H : Heap} {locs : List Loc} {s0 : S_Rn} {s1 : S_Bs} {s2 : S_Cs} {s3 : S_Bs} {s4 : S_Mg} {s5 : S_Ou} {s6 : S_Bs} {out : S_Rn × S_Bs × S_Cs × S_Bs × S_Mg × S_Ou × S_Bs} (X : Cx p s m args meth c prog_1_method_27_code 2 ws_Rn_lookAtRequest R_Rn none D g) (hl : lv_has ls 2 [(0, .ref (K 0 0))]) (hI : Iw D A (w_Rn g (K 0) (fun j => K (j + 1) 0) s0 ++ (w_Bs g (K 6) s1 ++ (w_Cs g (K 8) s2 ++ (w_Bs g (K 4) s3 ++ (w_Mg g (K 9) s4 ++ (w_Ou g (K 7) s5 ++ (w_Bs g (K 5) s6 ++ (rest)))))))) H) (hS : va_S A s.heap H locs) (h : B_Rn_lookAtRequest_59  s0 s1 s2 s3 s4 s5 s6 = some out) : W p l e (headSpec ws_Rn_lookAtRequest { frames := 4, cells := 0, slots := 0, locals := 84 }).room s m args below meth c H locs 0 0 (MQ below (QcV D A g (fun (_ : Unit) => w_Rn g (K 0) (fun j => K (j + 1) 0) out.1 ++ (w_Bs g (K 6) out.2.1 ++ (w_Cs g (K 8) out.2.2.1 ++ (w_Bs g (K 4) out.2.2.2.1 ++ (w_Mg g (K 9) out.2.2.2.2.1 ++ (w_Ou g (K 7) out.2.2.2.2.2.1 ++ (w_Bs g (K 5) out.2.2.2.2.2.2 ++ (rest))))))))) args s 0 0 A) (F0 m 59 ls []) := by
  have X1 := X
  obtain ⟨hx, hb, hml, hown, hts, hr, hlocks, hKK⟩ := X1
  have ht : ∀ w ∈ TB, w.before args s = true := fun w h => hts w (List.mem_cons_of_mem _ h)
  have hK := hKK.1
  unfold B_Rn_lookAtRequest_59 at h
  refine lv_aload_n hx hb d_Rn_lookAtRequest_59 rfl (lv_at hl 0 rfl) ?_
  refine lv_iconst (v := 2) hx hb d_Rn_lookAtRequest_60 (by decide) ?_
  obtain ⟨o1, ho2, h⟩ := bd_s h
  refine cl_v (W1 := fun (_ : Unit) => w_Rn g (K 0) (fun j => K (j + 1) 0) o1.1 ++ (w_Bs g (K 6) o1.2.1 ++ (w_Cs g (K 8) s2 ++ (w_Bs g (K 4) o1.2.2.1 ++ (w_Mg g (K 9) o1.2.2.2.1 ++ (w_Ou g (K 7) o1.2.2.2.2.1 ++ (w_Bs g (K 5) o1.2.2.2.2.2 ++ (rest)))))))) (va_runV (As := [.int (2 : Int32)]) (rest := []) ⟨hx, hb, hml, hown, ht⟩ (c_Rn_refuse (l := l) (D := D) (A := A) (g := g) (rest := w_Cs g (K 8) s2 ++ (rest)) (K := K) ho2) (cwV 1 ht (gd_V m_355 m_357 mp_8 m_1 m_358) rfl rfl rfl (by decide +kernel) ⟨(Nat.le_of_ble_eq_true rfl), (Nat.le_of_ble_eq_true rfl)⟩) (prV (ci := 8) (q0 := 0) hKK hI ((mv_6).trans ((mv_6).trans ((mv_6).trans ((mv_6).trans ((mv_5).trans (mv_5)))))) rfl rfl rfl) rfl rfl hl.1 rfl (lv_room (Nat.le_of_ble_eq_true rfl)) d_Rn_lookAtRequest_61 ⟨(Nat.le_of_ble_eq_true rfl), (Nat.le_of_ble_eq_true rfl)⟩) hS (fun _ => (((mv_6).trans ((mv_6).trans ((mv_6).trans ((mv_6).trans ((mv_5).trans (mv_5))))))).symm) (fun _ H locs hI hS => ?_)
  have hI : Iw D A (w_Rn g (K 0) (fun j => K (j + 1) 0) o1.1 ++ (w_Bs g (K 6) o1.2.1 ++ (w_Cs g (K 8) s2 ++ (w_Bs g (K 4) o1.2.2.1 ++ (w_Mg g (K 9) o1.2.2.2.1 ++ (w_Ou g (K 7) o1.2.2.2.2.1 ++ (w_Bs g (K 5) o1.2.2.2.2.2 ++ (rest)))))))) H := hI
  refine lv_goto (tgt := 71) hx hb d_Rn_lookAtRequest_64 (by decide) ?_
  exact t_Rn_lookAtRequest_71 X (lv_sub hl [] rfl) hI hS h
set_option maxRecDepth 100000 in
set_option maxHeartbeats 4000000 in
theorem t_Rn_lookAtRequest_47 {p : Program} {l : Launch} {e : Env} {s : State} {m : MethodId} {args : Array Value} {below : List Frame} {meth : Method} {c : Code} {D : va_G} {A : Nat → Prop} {g : Nat → ClassId} {rest : va_W} {K : Nat → Nat → Nat} {ls : Array Slot} {H : Heap} {locs : List Loc} {s0 : S_Rn} {s1 : S_Bs} {s2 : S_Cs} {s3 : S_Bs} {s4 : S_Mg} {s5 : S_Ou} {s6 : S_Bs} {out : S_Rn × S_Bs × S_Cs × S_Bs × S_Mg × S_Ou × S_Bs} (X : Cx p s m args meth c prog_1_method_27_code 2 ws_Rn_lookAtRequest R_Rn none D g) (hl : lv_has ls 2 [(0, .ref (K 0 0))]) (hI : Iw D A (w_Rn g (K 0) (fun j => K (j + 1) 0) s0 ++ (w_Bs g (K 6) s1 ++ (w_Cs g (K 8) s2 ++ (w_Bs g (K 4) s3 ++ (w_Mg g (K 9) s4 ++ (w_Ou g (K 7) s5 ++ (w_Bs g (K 5) s6 ++ (rest)))))))) H) (hS : va_S A s.heap H locs) (h : B_Rn_lookAtRequest_47  s0 s1 s2 s3 s4 s5 s6 = some out) : W p l e (headSpec ws_Rn_lookAtRequest { frames := 4, cells := 0, slots := 0, locals := 84 }).room s m args below meth c H locs 0 0 (MQ below (QcV D A g (fun (_ : Unit) => w_Rn g (K 0) (fun j => K (j + 1) 0) out.1 ++ (w_Bs g (K 6) out.2.1 ++ (w_Cs g (K 8) out.2.2.1 ++ (w_Bs g (K 4) out.2.2.2.1 ++ (w_Mg g (K 9) out.2.2.2.2.1 ++ (w_Ou g (K 7) out.2.2.2.2.2.1 ++ (w_Bs g (K 5) out.2.2.2.2.2.2 ++ (rest))))))))) args s 0 0 A) (F0 m 47 ls []) := by
  have X1 := X
  obtain ⟨hx, hb, hml, hown, hts, hr, hlocks, hKK⟩ := X1
  have ht : ∀ w ∈ TB, w.before args s = true := fun w h => hts w (List.mem_cons_of_mem _ h)
  have hK := hKK.1
  unfold B_Rn_lookAtRequest_47 at h
  refine lv_aload_n hx hb d_Rn_lookAtRequest_47 rfl (lv_at hl 0 rfl) ?_
  refine va_get (D := D) (ci := 8) (v := .ref (K 4 0)) (C := R_Rn) (T := T_Rn) (N := 16) hx hb ht in_Rn hown hK hI.1 0 rfl rfl 3 (by decide) (ht _ m_206) (fun _ h9 => h9) rfl d_Rn_lookAtRequest_48 ?_
  refine lv_iconst (v := 3) hx hb d_Rn_lookAtRequest_51 (by decide) ?_
  obtain ⟨o1, ho2, h⟩ := bd_s h
  refine cl_i (W1 := fun (_ : Unit) => w_Rn g (K 0) (fun j => K (j + 1) 0) s0 ++ (w_Bs g (K 6) s1 ++ (w_Cs g (K 8) s2 ++ (w_Bs g (K 4) s3 ++ (w_Mg g (K 9) s4 ++ (w_Ou g (K 7) s5 ++ (w_Bs g (K 5) s6 ++ (rest)))))))) (va_runV (As := [.int (3 : Int32)]) (rest := []) ⟨hx, hb, hml, hown, ht⟩ (c_Bs_get (l := l) (D := D) (A := A) (g := g) (rest := w_Rn g (K 0) (fun j => K (j + 1) 0) s0 ++ (w_Bs g (K 6) s1 ++ (w_Cs g (K 8) s2 ++ (w_Mg g (K 9) s4 ++ (w_Ou g (K 7) s5 ++ (w_Bs g (K 5) s6 ++ (rest))))))) (a0 := K 4) ho2) (cwV 1 ht (gd_V m_306 m_307 m_308 m_2 m_309) rfl rfl rfl (by decide +kernel) ⟨(Nat.le_of_ble_eq_true rfl), (Nat.le_of_ble_eq_true rfl)⟩) (prV (ci := 0) (q0 := 0) hKK hI (mv_3) rfl rfl rfl) rfl rfl hl.1 rfl (lv_room (Nat.le_of_ble_eq_true rfl)) d_Rn_lookAtRequest_52 ⟨(Nat.le_of_ble_eq_true rfl), (Nat.le_of_ble_eq_true rfl)⟩) hS (fun _ => ((mv_3)).symm) (fun _ H locs hI hS => ?_)
  have hI : Iw D A (w_Rn g (K 0) (fun j => K (j + 1) 0) s0 ++ (w_Bs g (K 6) s1 ++ (w_Cs g (K 8) s2 ++ (w_Bs g (K 4) s3 ++ (w_Mg g (K 9) s4 ++ (w_Ou g (K 7) s5 ++ (w_Bs g (K 5) s6 ++ (rest)))))))) H := hI
  refine lv_iconst (v := 1) hx hb d_Rn_lookAtRequest_55 (by decide) ?_
  refine lv_icmp_eq (tgt := 67) hx hb d_Rn_lookAtRequest_56 (by decide) (fun hc => ?_) (fun hc => ?_)
  · have h := it_t h hc
    exact t_Rn_lookAtRequest_67 X (lv_sub hl [0] rfl) hI hS h
  · have h := it_f h hc
    exact t_Rn_lookAtRequest_59 X (lv_sub hl [0] rfl) hI hS h
set_option maxRecDepth 100000 in
set_option maxHeartbeats 4000000 in
theorem t_Rn_lookAtRequest_39 {p : Program} {l : Launch} {e : Env} {s : State} {m : MethodId} {args : Array Value} {below : List Frame} {meth : Method} {c : Code} {D : va_G} {A : Nat → Prop} {g : Nat → ClassId} {rest : va_W} {K : Nat → Nat → Nat} {ls : Array Slot} {H : Heap} {locs : List Loc} {s0 : S_Rn} {s1 : S_Bs} {s2 : S_Cs} {s3 : S_Bs} {s4 : S_Mg} {s5 : S_Ou} {s6 : S_Bs} {out : S_Rn × S_Bs × S_Cs × S_Bs × S_Mg × S_Ou × S_Bs} (X : Cx p s m args meth c prog_1_method_27_code 2 ws_Rn_lookAtRequest R_Rn none D g) (hl : lv_has ls 2 [(0, .ref (K 0 0))]) (hI : Iw D A (w_Rn g (K 0) (fun j => K (j + 1) 0) s0 ++ (w_Bs g (K 6) s1 ++ (w_Cs g (K 8) s2 ++ (w_Bs g (K 4) s3 ++ (w_Mg g (K 9) s4 ++ (w_Ou g (K 7) s5 ++ (w_Bs g (K 5) s6 ++ (rest)))))))) H) (hS : va_S A s.heap H locs) (h : B_Rn_lookAtRequest_39  s0 s1 s2 s3 s4 s5 s6 = some out) : W p l e (headSpec ws_Rn_lookAtRequest { frames := 4, cells := 0, slots := 0, locals := 84 }).room s m args below meth c H locs 0 0 (MQ below (QcV D A g (fun (_ : Unit) => w_Rn g (K 0) (fun j => K (j + 1) 0) out.1 ++ (w_Bs g (K 6) out.2.1 ++ (w_Cs g (K 8) out.2.2.1 ++ (w_Bs g (K 4) out.2.2.2.1 ++ (w_Mg g (K 9) out.2.2.2.2.1 ++ (w_Ou g (K 7) out.2.2.2.2.2.1 ++ (w_Bs g (K 5) out.2.2.2.2.2.2 ++ (rest))))))))) args s 0 0 A) (F0 m 39 ls []) := by
  have X1 := X
  obtain ⟨hx, hb, hml, hown, hts, hr, hlocks, hKK⟩ := X1
  have ht : ∀ w ∈ TB, w.before args s = true := fun w h => hts w (List.mem_cons_of_mem _ h)
  have hK := hKK.1
  unfold B_Rn_lookAtRequest_39 at h
  refine lv_aload_n hx hb d_Rn_lookAtRequest_39 rfl (lv_at hl 0 rfl) ?_
  refine lv_iconst (v := 1) hx hb d_Rn_lookAtRequest_40 (by decide) ?_
  obtain ⟨o1, ho2, h⟩ := bd_s h
  refine cl_v (W1 := fun (_ : Unit) => w_Rn g (K 0) (fun j => K (j + 1) 0) o1.1 ++ (w_Bs g (K 6) o1.2.1 ++ (w_Cs g (K 8) s2 ++ (w_Bs g (K 4) o1.2.2.1 ++ (w_Mg g (K 9) o1.2.2.2.1 ++ (w_Ou g (K 7) o1.2.2.2.2.1 ++ (w_Bs g (K 5) o1.2.2.2.2.2 ++ (rest)))))))) (va_runV (As := [.int (1 : Int32)]) (rest := []) ⟨hx, hb, hml, hown, ht⟩ (c_Rn_refuse (l := l) (D := D) (A := A) (g := g) (rest := w_Cs g (K 8) s2 ++ (rest)) (K := K) ho2) (cwV 1 ht (gd_V m_355 m_357 mp_8 m_1 m_358) rfl rfl rfl (by decide +kernel) ⟨(Nat.le_of_ble_eq_true rfl), (Nat.le_of_ble_eq_true rfl)⟩) (prV (ci := 8) (q0 := 0) hKK hI ((mv_6).trans ((mv_6).trans ((mv_6).trans ((mv_6).trans ((mv_5).trans (mv_5)))))) rfl rfl rfl) rfl rfl hl.1 rfl (lv_room (Nat.le_of_ble_eq_true rfl)) d_Rn_lookAtRequest_41 ⟨(Nat.le_of_ble_eq_true rfl), (Nat.le_of_ble_eq_true rfl)⟩) hS (fun _ => (((mv_6).trans ((mv_6).trans ((mv_6).trans ((mv_6).trans ((mv_5).trans (mv_5))))))).symm) (fun _ H locs hI hS => ?_)
  have hI : Iw D A (w_Rn g (K 0) (fun j => K (j + 1) 0) o1.1 ++ (w_Bs g (K 6) o1.2.1 ++ (w_Cs g (K 8) s2 ++ (w_Bs g (K 4) o1.2.2.1 ++ (w_Mg g (K 9) o1.2.2.2.1 ++ (w_Ou g (K 7) o1.2.2.2.2.1 ++ (w_Bs g (K 5) o1.2.2.2.2.2 ++ (rest)))))))) H := hI
  refine lv_goto (tgt := 71) hx hb d_Rn_lookAtRequest_44 (by decide) ?_
  exact t_Rn_lookAtRequest_71 X (lv_sub hl [] rfl) hI hS h
set_option maxRecDepth 100000 in
set_option maxHeartbeats 4000000 in
theorem t_Rn_lookAtRequest_26 {p : Program} {l : Launch} {e : Env} {s : State} {m : MethodId} {args : Array Value} {below : List Frame} {meth : Method} {c : Code} {D : va_G} {A : Nat → Prop} {g : Nat → ClassId} {rest : va_W} {K : Nat → Nat → Nat} {ls : Array Slot} {H : Heap} {locs : List Loc} {s0 : S_Rn} {s1 : S_Bs} {s2 : S_Cs} {s3 : S_Bs} {s4 : S_Mg} {s5 : S_Ou} {s6 : S_Bs} {out : S_Rn × S_Bs × S_Cs × S_Bs × S_Mg × S_Ou × S_Bs} (X : Cx p s m args meth c prog_1_method_27_code 2 ws_Rn_lookAtRequest R_Rn none D g) (hl : lv_has ls 2 [(0, .ref (K 0 0))]) (hI : Iw D A (w_Rn g (K 0) (fun j => K (j + 1) 0) s0 ++ (w_Bs g (K 6) s1 ++ (w_Cs g (K 8) s2 ++ (w_Bs g (K 4) s3 ++ (w_Mg g (K 9) s4 ++ (w_Ou g (K 7) s5 ++ (w_Bs g (K 5) s6 ++ (rest)))))))) H) (hS : va_S A s.heap H locs) (h : B_Rn_lookAtRequest_26  s0 s1 s2 s3 s4 s5 s6 = some out) : W p l e (headSpec ws_Rn_lookAtRequest { frames := 4, cells := 0, slots := 0, locals := 84 }).room s m args below meth c H locs 0 0 (MQ below (QcV D A g (fun (_ : Unit) => w_Rn g (K 0) (fun j => K (j + 1) 0) out.1 ++ (w_Bs g (K 6) out.2.1 ++ (w_Cs g (K 8) out.2.2.1 ++ (w_Bs g (K 4) out.2.2.2.1 ++ (w_Mg g (K 9) out.2.2.2.2.1 ++ (w_Ou g (K 7) out.2.2.2.2.2.1 ++ (w_Bs g (K 5) out.2.2.2.2.2.2 ++ (rest))))))))) args s 0 0 A) (F0 m 26 ls []) := by
  have X1 := X
  obtain ⟨hx, hb, hml, hown, hts, hr, hlocks, hKK⟩ := X1
  have ht : ∀ w ∈ TB, w.before args s = true := fun w h => hts w (List.mem_cons_of_mem _ h)
  have hK := hKK.1
  unfold B_Rn_lookAtRequest_26 at h
  refine lv_aload_n hx hb d_Rn_lookAtRequest_26 rfl (lv_at hl 0 rfl) ?_
  refine va_get (D := D) (ci := 8) (v := .ref (K 4 0)) (C := R_Rn) (T := T_Rn) (N := 16) hx hb ht in_Rn hown hK hI.1 0 rfl rfl 3 (by decide) (ht _ m_206) (fun _ h9 => h9) rfl d_Rn_lookAtRequest_27 ?_
  refine lv_iconst (v := 2) hx hb d_Rn_lookAtRequest_30 (by decide) ?_
  obtain ⟨o1, ho2, h⟩ := bd_s h
  refine cl_i (W1 := fun (_ : Unit) => w_Rn g (K 0) (fun j => K (j + 1) 0) s0 ++ (w_Bs g (K 6) s1 ++ (w_Cs g (K 8) s2 ++ (w_Bs g (K 4) s3 ++ (w_Mg g (K 9) s4 ++ (w_Ou g (K 7) s5 ++ (w_Bs g (K 5) s6 ++ (rest)))))))) (va_runV (As := [.int (2 : Int32)]) (rest := []) ⟨hx, hb, hml, hown, ht⟩ (c_Bs_get (l := l) (D := D) (A := A) (g := g) (rest := w_Rn g (K 0) (fun j => K (j + 1) 0) s0 ++ (w_Bs g (K 6) s1 ++ (w_Cs g (K 8) s2 ++ (w_Mg g (K 9) s4 ++ (w_Ou g (K 7) s5 ++ (w_Bs g (K 5) s6 ++ (rest))))))) (a0 := K 4) ho2) (cwV 1 ht (gd_V m_306 m_307 m_308 m_2 m_309) rfl rfl rfl (by decide +kernel) ⟨(Nat.le_of_ble_eq_true rfl), (Nat.le_of_ble_eq_true rfl)⟩) (prV (ci := 0) (q0 := 0) hKK hI (mv_3) rfl rfl rfl) rfl rfl hl.1 rfl (lv_room (Nat.le_of_ble_eq_true rfl)) d_Rn_lookAtRequest_31 ⟨(Nat.le_of_ble_eq_true rfl), (Nat.le_of_ble_eq_true rfl)⟩) hS (fun _ => ((mv_3)).symm) (fun _ H locs hI hS => ?_)
  have hI : Iw D A (w_Rn g (K 0) (fun j => K (j + 1) 0) s0 ++ (w_Bs g (K 6) s1 ++ (w_Cs g (K 8) s2 ++ (w_Bs g (K 4) s3 ++ (w_Mg g (K 9) s4 ++ (w_Ou g (K 7) s5 ++ (w_Bs g (K 5) s6 ++ (rest)))))))) H := hI
  refine lv_iconst (v := 2) hx hb d_Rn_lookAtRequest_34 (by decide) ?_
  refine lv_irem hx hb d_Rn_lookAtRequest_35 (by decide) ?_
  refine lv_if_ne (tgt := 47) hx hb d_Rn_lookAtRequest_36 (by decide) (fun hc => ?_) (fun hc => ?_)
  · have h := it_f h hc
    exact t_Rn_lookAtRequest_47 X (lv_sub hl [0] rfl) hI hS h
  · have h := it_t h hc
    exact t_Rn_lookAtRequest_39 X (lv_sub hl [0] rfl) hI hS h
set_option maxRecDepth 100000 in
set_option maxHeartbeats 4000000 in
theorem t_Rn_lookAtRequest_5 {p : Program} {l : Launch} {e : Env} {s : State} {m : MethodId} {args : Array Value} {below : List Frame} {meth : Method} {c : Code} {D : va_G} {A : Nat → Prop} {g : Nat → ClassId} {rest : va_W} {K : Nat → Nat → Nat} {ls : Array Slot} {H : Heap} {locs : List Loc} {s0 : S_Rn} {s1 : S_Bs} {s2 : S_Cs} {s3 : S_Bs} {s4 : S_Mg} {s5 : S_Ou} {s6 : S_Bs} {out : S_Rn × S_Bs × S_Cs × S_Bs × S_Mg × S_Ou × S_Bs} (X : Cx p s m args meth c prog_1_method_27_code 2 ws_Rn_lookAtRequest R_Rn none D g) (hl : lv_has ls 2 [(0, .ref (K 0 0))]) (hI : Iw D A (w_Rn g (K 0) (fun j => K (j + 1) 0) s0 ++ (w_Bs g (K 6) s1 ++ (w_Cs g (K 8) s2 ++ (w_Bs g (K 4) s3 ++ (w_Mg g (K 9) s4 ++ (w_Ou g (K 7) s5 ++ (w_Bs g (K 5) s6 ++ (rest)))))))) H) (hS : va_S A s.heap H locs) (h : B_Rn_lookAtRequest_5  s0 s1 s2 s3 s4 s5 s6 = some out) : W p l e (headSpec ws_Rn_lookAtRequest { frames := 4, cells := 0, slots := 0, locals := 84 }).room s m args below meth c H locs 0 0 (MQ below (QcV D A g (fun (_ : Unit) => w_Rn g (K 0) (fun j => K (j + 1) 0) out.1 ++ (w_Bs g (K 6) out.2.1 ++ (w_Cs g (K 8) out.2.2.1 ++ (w_Bs g (K 4) out.2.2.2.1 ++ (w_Mg g (K 9) out.2.2.2.2.1 ++ (w_Ou g (K 7) out.2.2.2.2.2.1 ++ (w_Bs g (K 5) out.2.2.2.2.2.2 ++ (rest))))))))) args s 0 0 A) (F0 m 5 ls []) := by
  have X1 := X
  obtain ⟨hx, hb, hml, hown, hts, hr, hlocks, hKK⟩ := X1
  have ht : ∀ w ∈ TB, w.before args s = true := fun w h => hts w (List.mem_cons_of_mem _ h)
  have hK := hKK.1
  unfold B_Rn_lookAtRequest_5 at h
  refine lv_aload_n hx hb d_Rn_lookAtRequest_5 rfl (lv_at hl 0 rfl) ?_
  refine va_get (D := D) (ci := 8) (v := .ref (K 8 0)) (C := R_Rn) (T := T_Rn) (N := 16) hx hb ht in_Rn hown hK hI.1 0 rfl rfl 7 (by decide) (ht _ m_210) (fun _ h9 => h9) rfl d_Rn_lookAtRequest_6 ?_
  refine lv_aload_n hx hb d_Rn_lookAtRequest_9 rfl (lv_at hl 0 rfl) ?_
  refine va_get (D := D) (ci := 8) (v := .ref (K 4 0)) (C := R_Rn) (T := T_Rn) (N := 16) hx hb ht in_Rn hown hK hI.1 0 rfl rfl 3 (by decide) (ht _ m_206) (fun _ h9 => h9) rfl d_Rn_lookAtRequest_10 ?_
  obtain ⟨o1, ho2, h⟩ := bd_s h
  refine cl_i (W1 := fun (_ : Unit) => w_Rn g (K 0) (fun j => K (j + 1) 0) s0 ++ (w_Bs g (K 6) s1 ++ (w_Cs g (K 8) o1.2 ++ (w_Bs g (K 4) s3 ++ (w_Mg g (K 9) s4 ++ (w_Ou g (K 7) s5 ++ (w_Bs g (K 5) s6 ++ (rest)))))))) (va_runV (As := [.ref (K 4 0)]) (rest := []) ⟨hx, hb, hml, hown, ht⟩ (c_Cs_readRequest (l := l) (D := D) (A := A) (g := g) (rest := w_Rn g (K 0) (fun j => K (j + 1) 0) s0 ++ (w_Bs g (K 6) s1 ++ (w_Mg g (K 9) s4 ++ (w_Ou g (K 7) s5 ++ (w_Bs g (K 5) s6 ++ (rest)))))) (a0 := K 8) (a1 := K 4) ho2) (cwV 1 ht (gd_V m_342 m_343 m_344 m_4 m_345) rfl rfl rfl (by decide +kernel) ⟨(Nat.le_of_ble_eq_true rfl), (Nat.le_of_ble_eq_true rfl)⟩) (prV (ci := 1) (q0 := 0) hKK hI ((mv_3).trans (mv_3)) rfl rfl rfl) rfl rfl hl.1 rfl (lv_room (Nat.le_of_ble_eq_true rfl)) d_Rn_lookAtRequest_13 ⟨(Nat.le_of_ble_eq_true rfl), (Nat.le_of_ble_eq_true rfl)⟩) hS (fun _ => (((mv_3).trans (mv_3))).symm) (fun _ H locs hI hS => ?_)
  have hI : Iw D A (w_Rn g (K 0) (fun j => K (j + 1) 0) s0 ++ (w_Bs g (K 6) s1 ++ (w_Cs g (K 8) o1.2 ++ (w_Bs g (K 4) s3 ++ (w_Mg g (K 9) s4 ++ (w_Ou g (K 7) s5 ++ (w_Bs g (K 5) s6 ++ (rest)))))))) H := hI
  refine lv_if_ne (tgt := 26) hx hb d_Rn_lookAtRequest_16 (by decide) (fun hc => ?_) (fun hc => ?_)
  · have h := it_f h hc
    exact t_Rn_lookAtRequest_26 X (lv_sub hl [0] rfl) hI hS h
  · have h := it_t h hc
    exact t_Rn_lookAtRequest_19 X (lv_sub hl [0] rfl) hI hS h
set_option maxRecDepth 100000 in
set_option maxHeartbeats 4000000 in
theorem t_Rn_lookAtRequest_0 {p : Program} {l : Launch} {e : Env} {s : State} {m : MethodId} {args : Array Value} {below : List Frame} {meth : Method} {c : Code} {D : va_G} {A : Nat → Prop} {g : Nat → ClassId} {rest : va_W} {K : Nat → Nat → Nat} {ls : Array Slot} {H : Heap} {locs : List Loc} {s0 : S_Rn} {s1 : S_Bs} {s2 : S_Cs} {s3 : S_Bs} {s4 : S_Mg} {s5 : S_Ou} {s6 : S_Bs} {x1 : Int32} {out : S_Rn × S_Bs × S_Cs × S_Bs × S_Mg × S_Ou × S_Bs} (X : Cx p s m args meth c prog_1_method_27_code 2 ws_Rn_lookAtRequest R_Rn none D g) (hl : lv_has ls 2 [(0, .ref (K 0 0)), (1, .int x1)]) (hI : Iw D A (w_Rn g (K 0) (fun j => K (j + 1) 0) s0 ++ (w_Bs g (K 6) s1 ++ (w_Cs g (K 8) s2 ++ (w_Bs g (K 4) s3 ++ (w_Mg g (K 9) s4 ++ (w_Ou g (K 7) s5 ++ (w_Bs g (K 5) s6 ++ (rest)))))))) H) (hS : va_S A s.heap H locs) (h : B_Rn_lookAtRequest_0  s0 s1 s2 s3 s4 s5 s6 x1 = some out) : W p l e (headSpec ws_Rn_lookAtRequest { frames := 4, cells := 0, slots := 0, locals := 84 }).room s m args below meth c H locs 0 0 (MQ below (QcV D A g (fun (_ : Unit) => w_Rn g (K 0) (fun j => K (j + 1) 0) out.1 ++ (w_Bs g (K 6) out.2.1 ++ (w_Cs g (K 8) out.2.2.1 ++ (w_Bs g (K 4) out.2.2.2.1 ++ (w_Mg g (K 9) out.2.2.2.2.1 ++ (w_Ou g (K 7) out.2.2.2.2.2.1 ++ (w_Bs g (K 5) out.2.2.2.2.2.2 ++ (rest))))))))) args s 0 0 A) (F0 m 0 ls []) := by
  have X1 := X
  obtain ⟨hx, hb, hml, hown, hts, hr, hlocks, hKK⟩ := X1
  have ht : ∀ w ∈ TB, w.before args s = true := fun w h => hts w (List.mem_cons_of_mem _ h)
  have hK := hKK.1
  unfold B_Rn_lookAtRequest_0 at h
  refine lv_iload_n hx hb d_Rn_lookAtRequest_0 rfl (lv_at hl 1 rfl) ?_
  refine lv_iconst (v := 1) hx hb d_Rn_lookAtRequest_1 (by decide) ?_
  refine lv_icmp_ne (tgt := 19) hx hb d_Rn_lookAtRequest_2 (by decide) (fun hc => ?_) (fun hc => ?_)
  · have h := it_f h hc
    exact t_Rn_lookAtRequest_19 X (lv_sub hl [0] rfl) hI hS h
  · have h := it_t h hc
    exact t_Rn_lookAtRequest_5 X (lv_sub hl [0] rfl) hI hS h
set_option maxRecDepth 100000 in
set_option maxHeartbeats 4000000 in
theorem c_Rn_lookAtRequest {l : Launch} {D : va_G} {A : Nat → Prop} {g : Nat → ClassId} {rest : va_W} {K : Nat → Nat → Nat} {s0 : S_Rn} {s1 : S_Bs} {s2 : S_Cs} {s3 : S_Bs} {s4 : S_Mg} {s5 : S_Ou} {s6 : S_Bs} {x1 : Int32} {out : S_Rn × S_Bs × S_Cs × S_Bs × S_Mg × S_Ou × S_Bs} (h : F_Rn_lookAtRequest s0 s1 s2 s3 s4 s5 s6 x1 = some out) : Met l y_Rn_lookAtRequest ws_Rn_lookAtRequest { frames := 4, cells := 0, slots := 0, locals := 84 } (PcW D A g [.ref (K 0 0), .int x1] (w_Rn g (K 0) (fun j => K (j + 1) 0) s0 ++ (w_Bs g (K 6) s1 ++ (w_Cs g (K 8) s2 ++ (w_Bs g (K 4) s3 ++ (w_Mg g (K 9) s4 ++ (w_Ou g (K 7) s5 ++ (w_Bs g (K 5) s6 ++ (rest))))))))) (QcV D A g (fun (_ : Unit) => w_Rn g (K 0) (fun j => K (j + 1) 0) out.1 ++ (w_Bs g (K 6) out.2.1 ++ (w_Cs g (K 8) out.2.2.1 ++ (w_Bs g (K 4) out.2.2.2.1 ++ (w_Mg g (K 9) out.2.2.2.2.1 ++ (w_Ou g (K 7) out.2.2.2.2.2.1 ++ (w_Bs g (K 5) out.2.2.2.2.2.2 ++ (rest))))))))) 0 0 A := by
  refine Met.ofW (cc := prog_1_method_27_code) (maxL := 2) (ret := none) (by decide) rfl ?_
  intro p e s m args below meth c s₁ B hml hv
  obtain ⟨rfl, hI, hK⟩ := hv
  have hl := lv_entry [.ref (K 0 0), .int x1] (n := 2) (Nat.le_of_ble_eq_true rfl)
  rw [lg_entry_eq]
  generalize (lg_sl [.ref (K 0 0), .int x1] ++ List.replicate (2 - (lg_sl [.ref (K 0 0), .int x1]).length) Slot.unset).toArray = ls at hl ⊢
  have hl : lv_has ls 2 [(0, .ref (K 0 0)), (1, .int x1)] := hl
  exact t_Rn_lookAtRequest_0 ⟨B.exec, B.bytes, hml, findClass_of_methodNamed B.named, atoms_spec (ws := ws_Rn_lookAtRequest) B.pre, B.returns, B.notSynchronized, hK⟩ (lv_sub hl [0, 1] rfl) hI va_S.rf h
def ws_Rn_release : List Cond := .code y_Rn_release prog_1_method_30_code 1 none :: TB
def B_Rn_release_21 (s0 : S_Rn) (s1 : S_Bs) (s2 : S_Bs) (s3 : S_Mg) (s4 : S_Ou) (s5 : S_Bs) : Option (S_Rn × S_Bs × S_Bs × S_Mg × S_Ou × S_Bs) :=
  some (s0, s1, s2, s3, s4, s5)
def B_Rn_release_16 (s0 : S_Rn) (s1 : S_Bs) (s2 : S_Bs) (s3 : S_Mg) (s4 : S_Ou) (s5 : S_Bs) : Option (S_Rn × S_Bs × S_Bs × S_Mg × S_Ou × S_Bs) :=
  ((F_Rn_begin s0 (3 : Int32)).bind fun o1 => (B_Rn_release_21 o1 s1 s2 s3 s4 s5))
def B_Rn_release_0 (s0 : S_Rn) (s1 : S_Bs) (s2 : S_Bs) (s3 : S_Mg) (s4 : S_Ou) (s5 : S_Bs) : Option (S_Rn × S_Bs × S_Bs × S_Mg × S_Ou × S_Bs) :=
  ((F_Bs_reset s1).bind fun o1 => ((F_Rn_put s0 o1 s2 s3 s4 s5 (6 : Int32)).bind fun o3 => (if o3.1 = 0 then (B_Rn_release_21 o3.2.1 o1 o3.2.2.1 o3.2.2.2.1 o3.2.2.2.2.1 o3.2.2.2.2.2) else (B_Rn_release_16 o3.2.1 o1 o3.2.2.1 o3.2.2.2.1 o3.2.2.2.2.1 o3.2.2.2.2.2))))
def F_Rn_release (s0 : S_Rn) (s1 : S_Bs) (s2 : S_Bs) (s3 : S_Mg) (s4 : S_Ou) (s5 : S_Bs) : Option (S_Rn × S_Bs × S_Bs × S_Mg × S_Ou × S_Bs) := B_Rn_release_0 s0 s1 s2 s3 s4 s5
set_option maxRecDepth 100000 in
set_option maxHeartbeats 4000000 in
theorem t_Rn_release_21 {p : Program} {l : Launch} {e : Env} {s : State} {m : MethodId} {args : Array Value} {below : List Frame} {meth : Method} {c : Code} {D : va_G} {A : Nat → Prop} {g : Nat → ClassId} {rest : va_W} {K : Nat → Nat → Nat} {ls : Array Slot} {H : Heap} {locs : List Loc} {s0 : S_Rn} {s1 : S_Bs} {s2 : S_Bs} {s3 : S_Mg} {s4 : S_Ou} {s5 : S_Bs} {out : S_Rn × S_Bs × S_Bs × S_Mg × S_Ou × S_Bs} (X : Cx p s m args meth c prog_1_method_30_code 1 ws_Rn_release R_Rn none D g) (hl : lv_has ls 1 []) (hI : Iw D A (w_Rn g (K 0) (fun j => K (j + 1) 0) s0 ++ (w_Bs g (K 6) s1 ++ (w_Bs g (K 4) s2 ++ (w_Mg g (K 9) s3 ++ (w_Ou g (K 7) s4 ++ (w_Bs g (K 5) s5 ++ (rest))))))) H) (hS : va_S A s.heap H locs) (h : B_Rn_release_21  s0 s1 s2 s3 s4 s5 = some out) : W p l e (headSpec ws_Rn_release { frames := 3, cells := 0, slots := 0, locals := 63 }).room s m args below meth c H locs 0 0 (MQ below (QcV D A g (fun (_ : Unit) => w_Rn g (K 0) (fun j => K (j + 1) 0) out.1 ++ (w_Bs g (K 6) out.2.1 ++ (w_Bs g (K 4) out.2.2.1 ++ (w_Mg g (K 9) out.2.2.2.1 ++ (w_Ou g (K 7) out.2.2.2.2.1 ++ (w_Bs g (K 5) out.2.2.2.2.2 ++ (rest)))))))) args s 0 0 A) (F0 m 21 ls []) := by
  have X1 := X
  obtain ⟨hx, hb, hml, hown, hts, hr, hlocks, hKK⟩ := X1
  have ht : ∀ w ∈ TB, w.before args s = true := fun w h => hts w (List.mem_cons_of_mem _ h)
  have hK := hKK.1
  unfold B_Rn_release_21 at h
  have h9 := Option.some.inj h
  subst h9
  exact W.vret hx hb hr (fun t ht hW => ⟨⟨(), rfl, trivial, ⟨by rw [ht]; exact hI, hKK.moved hW⟩⟩, hS.F ht⟩) hS.2.2 d_Rn_release_21
set_option maxRecDepth 100000 in
set_option maxHeartbeats 4000000 in
theorem t_Rn_release_16 {p : Program} {l : Launch} {e : Env} {s : State} {m : MethodId} {args : Array Value} {below : List Frame} {meth : Method} {c : Code} {D : va_G} {A : Nat → Prop} {g : Nat → ClassId} {rest : va_W} {K : Nat → Nat → Nat} {ls : Array Slot} {H : Heap} {locs : List Loc} {s0 : S_Rn} {s1 : S_Bs} {s2 : S_Bs} {s3 : S_Mg} {s4 : S_Ou} {s5 : S_Bs} {out : S_Rn × S_Bs × S_Bs × S_Mg × S_Ou × S_Bs} (X : Cx p s m args meth c prog_1_method_30_code 1 ws_Rn_release R_Rn none D g) (hl : lv_has ls 1 [(0, .ref (K 0 0))]) (hI : Iw D A (w_Rn g (K 0) (fun j => K (j + 1) 0) s0 ++ (w_Bs g (K 6) s1 ++ (w_Bs g (K 4) s2 ++ (w_Mg g (K 9) s3 ++ (w_Ou g (K 7) s4 ++ (w_Bs g (K 5) s5 ++ (rest))))))) H) (hS : va_S A s.heap H locs) (h : B_Rn_release_16  s0 s1 s2 s3 s4 s5 = some out) : W p l e (headSpec ws_Rn_release { frames := 3, cells := 0, slots := 0, locals := 63 }).room s m args below meth c H locs 0 0 (MQ below (QcV D A g (fun (_ : Unit) => w_Rn g (K 0) (fun j => K (j + 1) 0) out.1 ++ (w_Bs g (K 6) out.2.1 ++ (w_Bs g (K 4) out.2.2.1 ++ (w_Mg g (K 9) out.2.2.2.1 ++ (w_Ou g (K 7) out.2.2.2.2.1 ++ (w_Bs g (K 5) out.2.2.2.2.2 ++ (rest)))))))) args s 0 0 A) (F0 m 16 ls []) := by
  have X1 := X
  obtain ⟨hx, hb, hml, hown, hts, hr, hlocks, hKK⟩ := X1
  have ht : ∀ w ∈ TB, w.before args s = true := fun w h => hts w (List.mem_cons_of_mem _ h)
  have hK := hKK.1
  unfold B_Rn_release_16 at h
  refine lv_aload_n hx hb d_Rn_release_16 rfl (lv_at hl 0 rfl) ?_
  refine lv_iconst (v := 3) hx hb d_Rn_release_17 (by decide) ?_
  obtain ⟨o1, ho2, h⟩ := bd_s h
  refine cl_v (W1 := fun (_ : Unit) => w_Rn g (K 0) (fun j => K (j + 1) 0) o1 ++ (w_Bs g (K 6) s1 ++ (w_Bs g (K 4) s2 ++ (w_Mg g (K 9) s3 ++ (w_Ou g (K 7) s4 ++ (w_Bs g (K 5) s5 ++ (rest))))))) (va_runV (As := [.int (3 : Int32)]) (rest := []) ⟨hx, hb, hml, hown, ht⟩ (c_Rn_begin (l := l) (D := D) (A := A) (g := g) (rest := w_Bs g (K 6) s1 ++ (w_Bs g (K 4) s2 ++ (w_Mg g (K 9) s3 ++ (w_Ou g (K 7) s4 ++ (w_Bs g (K 5) s5 ++ (rest)))))) (K := K) ho2) (cwV 1 ht (gd_V m_282 m_284 mp_0 m_1 m_285) rfl rfl rfl (by decide +kernel) ⟨(Nat.le_of_ble_eq_true rfl), (Nat.le_of_ble_eq_true rfl)⟩) (prV (ci := 8) (q0 := 0) hKK hI (List.Perm.refl _) rfl rfl rfl) rfl rfl hl.1 rfl (lv_room (Nat.le_of_ble_eq_true rfl)) d_Rn_release_18 ⟨(Nat.le_of_ble_eq_true rfl), (Nat.le_of_ble_eq_true rfl)⟩) hS (fun _ => ((List.Perm.refl _)).symm) (fun _ H locs hI hS => ?_)
  have hI : Iw D A (w_Rn g (K 0) (fun j => K (j + 1) 0) o1 ++ (w_Bs g (K 6) s1 ++ (w_Bs g (K 4) s2 ++ (w_Mg g (K 9) s3 ++ (w_Ou g (K 7) s4 ++ (w_Bs g (K 5) s5 ++ (rest))))))) H := hI
  exact t_Rn_release_21 X (lv_sub hl [] rfl) hI hS h
set_option maxRecDepth 100000 in
set_option maxHeartbeats 4000000 in
theorem t_Rn_release_0 {p : Program} {l : Launch} {e : Env} {s : State} {m : MethodId} {args : Array Value} {below : List Frame} {meth : Method} {c : Code} {D : va_G} {A : Nat → Prop} {g : Nat → ClassId} {rest : va_W} {K : Nat → Nat → Nat} {ls : Array Slot} {H : Heap} {locs : List Loc} {s0 : S_Rn} {s1 : S_Bs} {s2 : S_Bs} {s3 : S_Mg} {s4 : S_Ou} {s5 : S_Bs} {out : S_Rn × S_Bs × S_Bs × S_Mg × S_Ou × S_Bs} (X : Cx p s m args meth c prog_1_method_30_code 1 ws_Rn_release R_Rn none D g) (hl : lv_has ls 1 [(0, .ref (K 0 0))]) (hI : Iw D A (w_Rn g (K 0) (fun j => K (j + 1) 0) s0 ++ (w_Bs g (K 6) s1 ++ (w_Bs g (K 4) s2 ++ (w_Mg g (K 9) s3 ++ (w_Ou g (K 7) s4 ++ (w_Bs g (K 5) s5 ++ (rest))))))) H) (hS : va_S A s.heap H locs) (h : B_Rn_release_0  s0 s1 s2 s3 s4 s5 = some out) : W p l e (headSpec ws_Rn_release { frames := 3, cells := 0, slots := 0, locals := 63 }).room s m args below meth c H locs 0 0 (MQ below (QcV D A g (fun (_ : Unit) => w_Rn g (K 0) (fun j => K (j + 1) 0) out.1 ++ (w_Bs g (K 6) out.2.1 ++ (w_Bs g (K 4) out.2.2.1 ++ (w_Mg g (K 9) out.2.2.2.1 ++ (w_Ou g (K 7) out.2.2.2.2.1 ++ (w_Bs g (K 5) out.2.2.2.2.2 ++ (rest)))))))) args s 0 0 A) (F0 m 0 ls []) := by
  have X1 := X
  obtain ⟨hx, hb, hml, hown, hts, hr, hlocks, hKK⟩ := X1
  have ht : ∀ w ∈ TB, w.before args s = true := fun w h => hts w (List.mem_cons_of_mem _ h)
  have hK := hKK.1
  unfold B_Rn_release_0 at h
  refine lv_aload_n hx hb d_Rn_release_0 rfl (lv_at hl 0 rfl) ?_
  refine va_get (D := D) (ci := 8) (v := .ref (K 6 0)) (C := R_Rn) (T := T_Rn) (N := 16) hx hb ht in_Rn hown hK hI.1 0 rfl rfl 5 (by decide) (ht _ m_208) (fun _ h9 => h9) rfl d_Rn_release_1 ?_
  obtain ⟨o1, ho2, h⟩ := bd_s h
  refine cl_v (W1 := fun (_ : Unit) => w_Rn g (K 0) (fun j => K (j + 1) 0) s0 ++ (w_Bs g (K 6) o1 ++ (w_Bs g (K 4) s2 ++ (w_Mg g (K 9) s3 ++ (w_Ou g (K 7) s4 ++ (w_Bs g (K 5) s5 ++ (rest))))))) (va_runV (As := []) (rest := []) ⟨hx, hb, hml, hown, ht⟩ (c_Bs_reset (l := l) (D := D) (A := A) (g := g) (rest := w_Rn g (K 0) (fun j => K (j + 1) 0) s0 ++ (w_Bs g (K 4) s2 ++ (w_Mg g (K 9) s3 ++ (w_Ou g (K 7) s4 ++ (w_Bs g (K 5) s5 ++ (rest)))))) (a0 := K 6) ho2) (cwV 0 ht (gd_V m_274 m_275 m_276 m_2 m_277) rfl rfl rfl (by decide +kernel) ⟨(Nat.le_of_ble_eq_true rfl), (Nat.le_of_ble_eq_true rfl)⟩) (prV (ci := 0) (q0 := 0) hKK hI (mv_1) rfl rfl rfl) rfl rfl hl.1 rfl (lv_room (Nat.le_of_ble_eq_true rfl)) d_Rn_release_4 ⟨(Nat.le_of_ble_eq_true rfl), (Nat.le_of_ble_eq_true rfl)⟩) hS (fun _ => ((mv_1)).symm) (fun _ H locs hI hS => ?_)
  have hI : Iw D A (w_Rn g (K 0) (fun j => K (j + 1) 0) s0 ++ (w_Bs g (K 6) o1 ++ (w_Bs g (K 4) s2 ++ (w_Mg g (K 9) s3 ++ (w_Ou g (K 7) s4 ++ (w_Bs g (K 5) s5 ++ (rest))))))) H := hI
  refine lv_aload_n hx hb d_Rn_release_7 rfl (lv_at hl 0 rfl) ?_
  refine lv_bipush (v := 6) hx hb d_Rn_release_8 (by decide) ?_
  obtain ⟨o3, ho4, h⟩ := bd_s h
  refine cl_i (W1 := fun (_ : Unit) => w_Rn g (K 0) (fun j => K (j + 1) 0) o3.2.1 ++ (w_Bs g (K 6) o1 ++ (w_Bs g (K 4) o3.2.2.1 ++ (w_Mg g (K 9) o3.2.2.2.1 ++ (w_Ou g (K 7) o3.2.2.2.2.1 ++ (w_Bs g (K 5) o3.2.2.2.2.2 ++ (rest))))))) (va_runV (As := [.int (6 : Int32)]) (rest := []) ⟨hx, hb, hml, hown, ht⟩ (c_Rn_put (l := l) (D := D) (A := A) (g := g) (rest := rest) (K := K) ho4) (cwV 1 ht (gd_V m_322 m_324 mp_5 m_1 m_325) rfl rfl rfl (by decide +kernel) ⟨(Nat.le_of_ble_eq_true rfl), (Nat.le_of_ble_eq_true rfl)⟩) (prV (ci := 8) (q0 := 0) hKK hI ((mv_5).trans ((mv_5).trans ((mv_5).trans ((mv_5).trans ((mv_5).trans (mv_5)))))) rfl rfl rfl) rfl rfl hl.1 rfl (lv_room (Nat.le_of_ble_eq_true rfl)) d_Rn_release_10 ⟨(Nat.le_of_ble_eq_true rfl), (Nat.le_of_ble_eq_true rfl)⟩) hS (fun _ => (((mv_5).trans ((mv_5).trans ((mv_5).trans ((mv_5).trans ((mv_5).trans (mv_5))))))).symm) (fun _ H locs hI hS => ?_)
  have hI : Iw D A (w_Rn g (K 0) (fun j => K (j + 1) 0) o3.2.1 ++ (w_Bs g (K 6) o1 ++ (w_Bs g (K 4) o3.2.2.1 ++ (w_Mg g (K 9) o3.2.2.2.1 ++ (w_Ou g (K 7) o3.2.2.2.2.1 ++ (w_Bs g (K 5) o3.2.2.2.2.2 ++ (rest))))))) H := hI
  refine lv_if_eq (tgt := 21) hx hb d_Rn_release_13 (by decide) (fun hc => ?_) (fun hc => ?_)
  · have h := it_t h hc
    exact t_Rn_release_21 X (lv_sub hl [] rfl) hI hS h
  · have h := it_f h hc
    exact t_Rn_release_16 X (lv_sub hl [0] rfl) hI hS h
set_option maxRecDepth 100000 in
set_option maxHeartbeats 4000000 in
theorem c_Rn_release {l : Launch} {D : va_G} {A : Nat → Prop} {g : Nat → ClassId} {rest : va_W} {K : Nat → Nat → Nat} {s0 : S_Rn} {s1 : S_Bs} {s2 : S_Bs} {s3 : S_Mg} {s4 : S_Ou} {s5 : S_Bs} {out : S_Rn × S_Bs × S_Bs × S_Mg × S_Ou × S_Bs} (h : F_Rn_release s0 s1 s2 s3 s4 s5 = some out) : Met l y_Rn_release ws_Rn_release { frames := 3, cells := 0, slots := 0, locals := 63 } (PcW D A g [.ref (K 0 0)] (w_Rn g (K 0) (fun j => K (j + 1) 0) s0 ++ (w_Bs g (K 6) s1 ++ (w_Bs g (K 4) s2 ++ (w_Mg g (K 9) s3 ++ (w_Ou g (K 7) s4 ++ (w_Bs g (K 5) s5 ++ (rest)))))))) (QcV D A g (fun (_ : Unit) => w_Rn g (K 0) (fun j => K (j + 1) 0) out.1 ++ (w_Bs g (K 6) out.2.1 ++ (w_Bs g (K 4) out.2.2.1 ++ (w_Mg g (K 9) out.2.2.2.1 ++ (w_Ou g (K 7) out.2.2.2.2.1 ++ (w_Bs g (K 5) out.2.2.2.2.2 ++ (rest)))))))) 0 0 A := by
  refine Met.ofW (cc := prog_1_method_30_code) (maxL := 1) (ret := none) (by decide) rfl ?_
  intro p e s m args below meth c s₁ B hml hv
  obtain ⟨rfl, hI, hK⟩ := hv
  have hl := lv_entry [.ref (K 0 0)] (n := 1) (Nat.le_of_ble_eq_true rfl)
  rw [lg_entry_eq]
  generalize (lg_sl [.ref (K 0 0)] ++ List.replicate (1 - (lg_sl [.ref (K 0 0)]).length) Slot.unset).toArray = ls at hl ⊢
  have hl : lv_has ls 1 [(0, .ref (K 0 0))] := hl
  exact t_Rn_release_0 ⟨B.exec, B.bytes, hml, findClass_of_methodNamed B.named, atoms_spec (ws := ws_Rn_release) B.pre, B.returns, B.notSynchronized, hK⟩ (lv_sub hl [0] rfl) hI va_S.rf h
def ws_Rn_takeFragment : List Cond := .code y_Rn_takeFragment prog_1_method_31_code 5 (some .boolean) :: TB
def B_Rn_takeFragment_54 (s0 : S_Rn) (s1 : S_Cs) (s2 : S_Bs) (s3 : S_Mg) (s4 : S_Bs) : Option (Int32 × S_Mg × S_Bs) :=
  some ((0 : Int32), s3, s4)
def B_Rn_takeFragment_99 (s0 : S_Rn) (s1 : S_Cs) (s2 : S_Bs) (s3 : S_Mg) (s4 : S_Bs) : Option (Int32 × S_Mg × S_Bs) :=
  some ((0 : Int32), s3, s4)
def B_Rn_takeFragment_154 (s0 : S_Rn) (s1 : S_Cs) (s2 : S_Bs) (s3 : S_Mg) (s4 : S_Bs) (y0 : Int32) (y1 : Int32) : Option (Int32 × S_Mg × S_Bs) :=
  ((F_Mg_addFragment s3 y1 y0).bind fun o1 => some ((1 : Int32), o1, s4))
def B_Rn_takeFragment_153 (s0 : S_Rn) (s1 : S_Cs) (s2 : S_Bs) (s3 : S_Mg) (s4 : S_Bs) (y0 : Int32) : Option (Int32 × S_Mg × S_Bs) :=
  (B_Rn_takeFragment_154 s0 s1 s2 s3 s4 (0 : Int32) y0)
def B_Rn_takeFragment_149 (s0 : S_Rn) (s1 : S_Cs) (s2 : S_Bs) (s3 : S_Mg) (s4 : S_Bs) (y0 : Int32) : Option (Int32 × S_Mg × S_Bs) :=
  (B_Rn_takeFragment_154 s0 s1 s2 s3 s4 (1 : Int32) y0)
def B_Rn_takeFragment_138 (s0 : S_Rn) (s1 : S_Cs) (s2 : S_Bs) (s3 : S_Mg) (s4 : S_Bs) (x1 : Int32) (x2 : Int32) : Option (Int32 × S_Mg × S_Bs) :=
  (if (x2 &&& (2 : Int32)) = 0 then (B_Rn_takeFragment_153 s0 s1 s2 s3 s4 x1) else (B_Rn_takeFragment_149 s0 s1 s2 s3 s4 x1))
def B_Rn_takeFragment_116 (k104 : S_Mg × S_Bs × Int32 × Int32 × Int32 → Option (Int32 × S_Mg × S_Bs)) (s0 : S_Rn) (s1 : S_Cs) (s2 : S_Bs) (s3 : S_Mg) (s4 : S_Bs) (x1 : Int32) (x2 : Int32) (x4 : Int32) : Option (Int32 × S_Mg × S_Bs) :=
  ((F_Bs_get s2 x4).bind fun o1 => ((F_Bs_append s4 o1).bind fun o3 => (k104 (s3, o3, x1, x2, (x4 + 1)))))
def B_Rn_takeFragment_104 (k104 : S_Mg × S_Bs × Int32 × Int32 × Int32 → Option (Int32 × S_Mg × S_Bs)) (s0 : S_Rn) (s1 : S_Cs) (s2 : S_Bs) (s3 : S_Mg) (s4 : S_Bs) (x1 : Int32) (x2 : Int32) (x4 : Int32) : Option (Int32 × S_Mg × S_Bs) :=
  ((F_Bs_count s2).bind fun o1 => (if o1 ≤ x4 then (B_Rn_takeFragment_138 s0 s1 s2 s3 s4 x1 x2) else (B_Rn_takeFragment_116 k104 s0 s1 s2 s3 s4 x1 x2 x4)))
def L_Rn_takeFragment_104 (s0 : S_Rn) (s1 : S_Cs) (s2 : S_Bs) (v : S_Mg × S_Bs × Int32 × Int32 × Int32) : Option (Int32 × S_Mg × S_Bs) := lp (fun k104 v => B_Rn_takeFragment_104  k104 s0 s1 s2 v.1 v.2.1 v.2.2.1 v.2.2.2.1 v.2.2.2.2) FU v
def B_Rn_takeFragment_101 (s0 : S_Rn) (s1 : S_Cs) (s2 : S_Bs) (s3 : S_Mg) (s4 : S_Bs) (x1 : Int32) (x2 : Int32) : Option (Int32 × S_Mg × S_Bs) :=
  (L_Rn_takeFragment_104 s0 s1 s2 (s3, s4, x1, x2, (4 : Int32)))
def B_Rn_takeFragment_80 (s0 : S_Rn) (s1 : S_Cs) (s2 : S_Bs) (s3 : S_Mg) (s4 : S_Bs) (x1 : Int32) (x2 : Int32) : Option (Int32 × S_Mg × S_Bs) :=
  ((F_Bs_count s2).bind fun o1 => ((F_Bs_hasRoom s4 (o1 - (4 : Int32))).bind fun o3 => (if o3 = 0 then (B_Rn_takeFragment_99 s0 s1 s2 s3 s4) else (B_Rn_takeFragment_101 s0 s1 s2 s3 s4 x1 x2))))
def B_Rn_takeFragment_67 (s0 : S_Rn) (s1 : S_Cs) (s2 : S_Bs) (s3 : S_Mg) (s4 : S_Bs) (x1 : Int32) (x2 : Int32) (y0 : Int32) : Option (Int32 × S_Mg × S_Bs) :=
  ((F_Mg_wants s3 y0 x1).bind fun o1 => (if o1 = 0 then (B_Rn_takeFragment_99 s0 s1 s2 s3 s4) else (B_Rn_takeFragment_80 s0 s1 s2 s3 s4 x1 x2)))
def B_Rn_takeFragment_66 (s0 : S_Rn) (s1 : S_Cs) (s2 : S_Bs) (s3 : S_Mg) (s4 : S_Bs) (x1 : Int32) (x2 : Int32) : Option (Int32 × S_Mg × S_Bs) :=
  (B_Rn_takeFragment_67 s0 s1 s2 s3 s4 x1 x2 (0 : Int32))
def B_Rn_takeFragment_62 (s0 : S_Rn) (s1 : S_Cs) (s2 : S_Bs) (s3 : S_Mg) (s4 : S_Bs) (x1 : Int32) (x2 : Int32) : Option (Int32 × S_Mg × S_Bs) :=
  (B_Rn_takeFragment_67 s0 s1 s2 s3 s4 x1 x2 (1 : Int32))
def B_Rn_takeFragment_56 (s0 : S_Rn) (s1 : S_Cs) (s2 : S_Bs) (s3 : S_Mg) (s4 : S_Bs) (x1 : Int32) (x2 : Int32) : Option (Int32 × S_Mg × S_Bs) :=
  (if (x2 &&& (1 : Int32)) = 0 then (B_Rn_takeFragment_62 s0 s1 s2 s3 s4 x1 x2) else (B_Rn_takeFragment_66 s0 s1 s2 s3 s4 x1 x2))
def B_Rn_takeFragment_49 (s0 : S_Rn) (s1 : S_Cs) (s2 : S_Bs) (s3 : S_Mg) (s4 : S_Bs) (x1 : Int32) (x2 : Int32) : Option (Int32 × S_Mg × S_Bs) :=
  (if x2 ≤ (3 : Int32) then (B_Rn_takeFragment_56 s0 s1 s2 s3 s4 x1 x2) else (B_Rn_takeFragment_54 s0 s1 s2 s3 s4))
def B_Rn_takeFragment_13 (s0 : S_Rn) (s1 : S_Cs) (s2 : S_Bs) (s3 : S_Mg) (s4 : S_Bs) : Option (Int32 × S_Mg × S_Bs) :=
  ((F_Bs_get s2 (2 : Int32)).bind fun o1 => ((F_Cs_find s1 o1).bind fun o3 => ((F_Bs_get s2 (3 : Int32)).bind fun o5 => ((F_Cs_isUsable s1 o3).bind fun o7 => (if o7 = 0 then (B_Rn_takeFragment_54 s0 s1 s2 s3 s4) else (B_Rn_takeFragment_49 s0 s1 s2 s3 s4 o3 o5))))))
def B_Rn_takeFragment_11 (s0 : S_Rn) (s1 : S_Cs) (s2 : S_Bs) (s3 : S_Mg) (s4 : S_Bs) : Option (Int32 × S_Mg × S_Bs) :=
  some ((0 : Int32), s3, s4)
def B_Rn_takeFragment_0 (s0 : S_Rn) (s1 : S_Cs) (s2 : S_Bs) (s3 : S_Mg) (s4 : S_Bs) : Option (Int32 × S_Mg × S_Bs) :=
  ((F_Bs_count s2).bind fun o1 => (if (4 : Int32) ≤ o1 then (B_Rn_takeFragment_13 s0 s1 s2 s3 s4) else (B_Rn_takeFragment_11 s0 s1 s2 s3 s4)))
def F_Rn_takeFragment (s0 : S_Rn) (s1 : S_Cs) (s2 : S_Bs) (s3 : S_Mg) (s4 : S_Bs) : Option (Int32 × S_Mg × S_Bs) := B_Rn_takeFragment_0 s0 s1 s2 s3 s4
set_option maxRecDepth 100000 in
set_option maxHeartbeats 4000000 in
theorem t_Rn_takeFragment_54 {p : Program} {l : Launch} {e : Env} {s : State} {m : MethodId} {args : Array Value} {below : List Frame} {meth : Method} {c : Code} {D : va_G} {A : Nat → Prop} {g : Nat → ClassId} {rest : va_W} {K : Nat → Nat → Nat} {ls : Array Slot} {H : Heap} {locs : List Loc} {s0 : S_Rn} {s1 : S_Cs} {s2 : S_Bs} {s3 : S_Mg} {s4 : S_Bs} {out : Int32 × S_Mg × S_Bs} (X : Cx p s m args meth c prog_1_method_31_code 5 ws_Rn_takeFragment R_Rn (some .boolean) D g) (hl : lv_has ls 5 []) (hI : Iw D A (w_Rn g (K 0) (fun j => K (j + 1) 0) s0 ++ (w_Cs g (K 8) s1 ++ (w_Bs g (K 4) s2 ++ (w_Mg g (K 9) s3 ++ (w_Bs g (K 5) s4 ++ (rest)))))) H) (hS : va_S A s.heap H locs) (h : B_Rn_takeFragment_54  s0 s1 s2 s3 s4 = some out) : W p l e (headSpec ws_Rn_takeFragment { frames := 2, cells := 0, slots := 0, locals := 42 }).room s m args below meth c H locs 0 0 (MQ below (QcI D A g out.1 (fun (_ : Unit) => w_Rn g (K 0) (fun j => K (j + 1) 0) s0 ++ (w_Cs g (K 8) s1 ++ (w_Bs g (K 4) s2 ++ (w_Mg g (K 9) out.2.1 ++ (w_Bs g (K 5) out.2.2 ++ (rest))))))) args s 0 0 A) (F0 m 54 ls []) := by
  have X1 := X
  obtain ⟨hx, hb, hml, hown, hts, hr, hlocks, hKK⟩ := X1
  have ht : ∀ w ∈ TB, w.before args s = true := fun w h => hts w (List.mem_cons_of_mem _ h)
  have hK := hKK.1
  unfold B_Rn_takeFragment_54 at h
  refine lv_iconst (v := 0) hx hb d_Rn_takeFragment_54 (by decide) ?_
  have h9 := Option.some.inj h
  subst h9
  exact W.zret (v := (0 : Int32)) hx hb hr rfl (fun t ht hW => ⟨⟨_, (), rfl, rfl, ⟨by rw [ht]; exact hI, hKK.moved hW⟩⟩, hS.F ht⟩) hS.2.2 d_Rn_takeFragment_55
set_option maxRecDepth 100000 in
set_option maxHeartbeats 4000000 in
theorem t_Rn_takeFragment_99 {p : Program} {l : Launch} {e : Env} {s : State} {m : MethodId} {args : Array Value} {below : List Frame} {meth : Method} {c : Code} {D : va_G} {A : Nat → Prop} {g : Nat → ClassId} {rest : va_W} {K : Nat → Nat → Nat} {ls : Array Slot} {H : Heap} {locs : List Loc} {s0 : S_Rn} {s1 : S_Cs} {s2 : S_Bs} {s3 : S_Mg} {s4 : S_Bs} {out : Int32 × S_Mg × S_Bs} (X : Cx p s m args meth c prog_1_method_31_code 5 ws_Rn_takeFragment R_Rn (some .boolean) D g) (hl : lv_has ls 5 []) (hI : Iw D A (w_Rn g (K 0) (fun j => K (j + 1) 0) s0 ++ (w_Cs g (K 8) s1 ++ (w_Bs g (K 4) s2 ++ (w_Mg g (K 9) s3 ++ (w_Bs g (K 5) s4 ++ (rest)))))) H) (hS : va_S A s.heap H locs) (h : B_Rn_takeFragment_99  s0 s1 s2 s3 s4 = some out) : W p l e (headSpec ws_Rn_takeFragment { frames := 2, cells := 0, slots := 0, locals := 42 }).room s m args below meth c H locs 0 0 (MQ below (QcI D A g out.1 (fun (_ : Unit) => w_Rn g (K 0) (fun j => K (j + 1) 0) s0 ++ (w_Cs g (K 8) s1 ++ (w_Bs g (K 4) s2 ++ (w_Mg g (K 9) out.2.1 ++ (w_Bs g (K 5) out.2.2 ++ (rest))))))) args s 0 0 A) (F0 m 99 ls []) := by
  have X1 := X
  obtain ⟨hx, hb, hml, hown, hts, hr, hlocks, hKK⟩ := X1
  have ht : ∀ w ∈ TB, w.before args s = true := fun w h => hts w (List.mem_cons_of_mem _ h)
  have hK := hKK.1
  unfold B_Rn_takeFragment_99 at h
  refine lv_iconst (v := 0) hx hb d_Rn_takeFragment_99 (by decide) ?_
  have h9 := Option.some.inj h
  subst h9
  exact W.zret (v := (0 : Int32)) hx hb hr rfl (fun t ht hW => ⟨⟨_, (), rfl, rfl, ⟨by rw [ht]; exact hI, hKK.moved hW⟩⟩, hS.F ht⟩) hS.2.2 d_Rn_takeFragment_100
set_option maxRecDepth 100000 in
set_option maxHeartbeats 4000000 in
theorem t_Rn_takeFragment_154 {p : Program} {l : Launch} {e : Env} {s : State} {m : MethodId} {args : Array Value} {below : List Frame} {meth : Method} {c : Code} {D : va_G} {A : Nat → Prop} {g : Nat → ClassId} {rest : va_W} {K : Nat → Nat → Nat} {ls : Array Slot} {H : Heap} {locs : List Loc} {s0 : S_Rn} {s1 : S_Cs} {s2 : S_Bs} {s3 : S_Mg} {s4 : S_Bs} {y0 : Int32} {y1 : Int32} {out : Int32 × S_Mg × S_Bs} (X : Cx p s m args meth c prog_1_method_31_code 5 ws_Rn_takeFragment R_Rn (some .boolean) D g) (hl : lv_has ls 5 []) (hI : Iw D A (w_Rn g (K 0) (fun j => K (j + 1) 0) s0 ++ (w_Cs g (K 8) s1 ++ (w_Bs g (K 4) s2 ++ (w_Mg g (K 9) s3 ++ (w_Bs g (K 5) s4 ++ (rest)))))) H) (hS : va_S A s.heap H locs) (h : B_Rn_takeFragment_154  s0 s1 s2 s3 s4 y0 y1 = some out) : W p l e (headSpec ws_Rn_takeFragment { frames := 2, cells := 0, slots := 0, locals := 42 }).room s m args below meth c H locs 0 0 (MQ below (QcI D A g out.1 (fun (_ : Unit) => w_Rn g (K 0) (fun j => K (j + 1) 0) s0 ++ (w_Cs g (K 8) s1 ++ (w_Bs g (K 4) s2 ++ (w_Mg g (K 9) out.2.1 ++ (w_Bs g (K 5) out.2.2 ++ (rest))))))) args s 0 0 A) (F0 m 154 ls [.int y0, .int y1, .ref (K 9 0)]) := by
  have X1 := X
  obtain ⟨hx, hb, hml, hown, hts, hr, hlocks, hKK⟩ := X1
  have ht : ∀ w ∈ TB, w.before args s = true := fun w h => hts w (List.mem_cons_of_mem _ h)
  have hK := hKK.1
  unfold B_Rn_takeFragment_154 at h
  obtain ⟨o1, ho2, h⟩ := bd_s h
  refine cl_v (W1 := fun (_ : Unit) => w_Rn g (K 0) (fun j => K (j + 1) 0) s0 ++ (w_Cs g (K 8) s1 ++ (w_Bs g (K 4) s2 ++ (w_Mg g (K 9) o1 ++ (w_Bs g (K 5) s4 ++ (rest)))))) (va_runV (As := [.int y1, .int y0]) (rest := []) ⟨hx, hb, hml, hown, ht⟩ (c_Mg_addFragment (l := l) (D := D) (A := A) (g := g) (rest := w_Rn g (K 0) (fun j => K (j + 1) 0) s0 ++ (w_Cs g (K 8) s1 ++ (w_Bs g (K 4) s2 ++ (w_Bs g (K 5) s4 ++ (rest))))) (a0 := K 9) ho2) (cwV 2 ht (gd_V m_400 m_401 m_402 m_5 m_403) rfl rfl rfl (by decide +kernel) ⟨(Nat.le_of_ble_eq_true rfl), (Nat.le_of_ble_eq_true rfl)⟩) (prV (ci := 3) (q0 := 0) hKK hI (mv_3) rfl rfl rfl) rfl rfl hl.1 rfl (lv_room (Nat.le_of_ble_eq_true rfl)) d_Rn_takeFragment_154 ⟨(Nat.le_of_ble_eq_true rfl), (Nat.le_of_ble_eq_true rfl)⟩) hS (fun _ => ((mv_3)).symm) (fun _ H locs hI hS => ?_)
  have hI : Iw D A (w_Rn g (K 0) (fun j => K (j + 1) 0) s0 ++ (w_Cs g (K 8) s1 ++ (w_Bs g (K 4) s2 ++ (w_Mg g (K 9) o1 ++ (w_Bs g (K 5) s4 ++ (rest)))))) H := hI
  refine lv_iconst (v := 1) hx hb d_Rn_takeFragment_157 (by decide) ?_
  have h9 := Option.some.inj h
  subst h9
  exact W.zret (v := (1 : Int32)) hx hb hr rfl (fun t ht hW => ⟨⟨_, (), rfl, rfl, ⟨by rw [ht]; exact hI, hKK.moved hW⟩⟩, hS.F ht⟩) hS.2.2 d_Rn_takeFragment_158
set_option maxRecDepth 100000 in
set_option maxHeartbeats 4000000 in
theorem t_Rn_takeFragment_153 {p : Program} {l : Launch} {e : Env} {s : State} {m : MethodId} {args : Array Value} {below : List Frame} {meth : Method} {c : Code} {D : va_G} {A : Nat → Prop} {g : Nat → ClassId} {rest : va_W} {K : Nat → Nat → Nat} {ls : Array Slot} {H : Heap} {locs : List Loc} {s0 : S_Rn} {s1 : S_Cs} {s2 : S_Bs} {s3 : S_Mg} {s4 : S_Bs} {y0 : Int32} {out : Int32 × S_Mg × S_Bs} (X : Cx p s m args meth c prog_1_method_31_code 5 ws_Rn_takeFragment R_Rn (some .boolean) D g) (hl : lv_has ls 5 []) (hI : Iw D A (w_Rn g (K 0) (fun j => K (j + 1) 0) s0 ++ (w_Cs g (K 8) s1 ++ (w_Bs g (K 4) s2 ++ (w_Mg g (K 9) s3 ++ (w_Bs g (K 5) s4 ++ (rest)))))) H) (hS : va_S A s.heap H locs) (h : B_Rn_takeFragment_153  s0 s1 s2 s3 s4 y0 = some out) : W p l e (headSpec ws_Rn_takeFragment { frames := 2, cells := 0, slots := 0, locals := 42 }).room s m args below meth c H locs 0 0 (MQ below (QcI D A g out.1 (fun (_ : Unit) => w_Rn g (K 0) (fun j => K (j + 1) 0) s0 ++ (w_Cs g (K 8) s1 ++ (w_Bs g (K 4) s2 ++ (w_Mg g (K 9) out.2.1 ++ (w_Bs g (K 5) out.2.2 ++ (rest))))))) args s 0 0 A) (F0 m 153 ls [.int y0, .ref (K 9 0)]) := by
  have X1 := X
  obtain ⟨hx, hb, hml, hown, hts, hr, hlocks, hKK⟩ := X1
  have ht : ∀ w ∈ TB, w.before args s = true := fun w h => hts w (List.mem_cons_of_mem _ h)
  have hK := hKK.1
  unfold B_Rn_takeFragment_153 at h
  refine lv_iconst (v := 0) hx hb d_Rn_takeFragment_153 (by decide) ?_
  exact t_Rn_takeFragment_154 X (lv_sub hl [] rfl) hI hS h
set_option maxRecDepth 100000 in
set_option maxHeartbeats 4000000 in
theorem t_Rn_takeFragment_149 {p : Program} {l : Launch} {e : Env} {s : State} {m : MethodId} {args : Array Value} {below : List Frame} {meth : Method} {c : Code} {D : va_G} {A : Nat → Prop} {g : Nat → ClassId} {rest : va_W} {K : Nat → Nat → Nat} {ls : Array Slot} {H : Heap} {locs : List Loc} {s0 : S_Rn} {s1 : S_Cs} {s2 : S_Bs} {s3 : S_Mg} {s4 : S_Bs} {y0 : Int32} {out : Int32 × S_Mg × S_Bs} (X : Cx p s m args meth c prog_1_method_31_code 5 ws_Rn_takeFragment R_Rn (some .boolean) D g) (hl : lv_has ls 5 []) (hI : Iw D A (w_Rn g (K 0) (fun j => K (j + 1) 0) s0 ++ (w_Cs g (K 8) s1 ++ (w_Bs g (K 4) s2 ++ (w_Mg g (K 9) s3 ++ (w_Bs g (K 5) s4 ++ (rest)))))) H) (hS : va_S A s.heap H locs) (h : B_Rn_takeFragment_149  s0 s1 s2 s3 s4 y0 = some out) : W p l e (headSpec ws_Rn_takeFragment { frames := 2, cells := 0, slots := 0, locals := 42 }).room s m args below meth c H locs 0 0 (MQ below (QcI D A g out.1 (fun (_ : Unit) => w_Rn g (K 0) (fun j => K (j + 1) 0) s0 ++ (w_Cs g (K 8) s1 ++ (w_Bs g (K 4) s2 ++ (w_Mg g (K 9) out.2.1 ++ (w_Bs g (K 5) out.2.2 ++ (rest))))))) args s 0 0 A) (F0 m 149 ls [.int y0, .ref (K 9 0)]) := by
  have X1 := X
  obtain ⟨hx, hb, hml, hown, hts, hr, hlocks, hKK⟩ := X1
  have ht : ∀ w ∈ TB, w.before args s = true := fun w h => hts w (List.mem_cons_of_mem _ h)
  have hK := hKK.1
  unfold B_Rn_takeFragment_149 at h
  refine lv_iconst (v := 1) hx hb d_Rn_takeFragment_149 (by decide) ?_
  refine lv_goto (tgt := 154) hx hb d_Rn_takeFragment_150 (by decide) ?_
  exact t_Rn_takeFragment_154 X (lv_sub hl [] rfl) hI hS h
set_option maxRecDepth 100000 in
set_option maxHeartbeats 4000000 in
theorem t_Rn_takeFragment_138 {p : Program} {l : Launch} {e : Env} {s : State} {m : MethodId} {args : Array Value} {below : List Frame} {meth : Method} {c : Code} {D : va_G} {A : Nat → Prop} {g : Nat → ClassId} {rest : va_W} {K : Nat → Nat → Nat} {ls : Array Slot} {H : Heap} {locs : List Loc} {s0 : S_Rn} {s1 : S_Cs} {s2 : S_Bs} {s3 : S_Mg} {s4 : S_Bs} {x1 : Int32} {x2 : Int32} {out : Int32 × S_Mg × S_Bs} (X : Cx p s m args meth c prog_1_method_31_code 5 ws_Rn_takeFragment R_Rn (some .boolean) D g) (hl : lv_has ls 5 [(0, .ref (K 0 0)), (1, .int x1), (2, .int x2)]) (hI : Iw D A (w_Rn g (K 0) (fun j => K (j + 1) 0) s0 ++ (w_Cs g (K 8) s1 ++ (w_Bs g (K 4) s2 ++ (w_Mg g (K 9) s3 ++ (w_Bs g (K 5) s4 ++ (rest)))))) H) (hS : va_S A s.heap H locs) (h : B_Rn_takeFragment_138  s0 s1 s2 s3 s4 x1 x2 = some out) : W p l e (headSpec ws_Rn_takeFragment { frames := 2, cells := 0, slots := 0, locals := 42 }).room s m args below meth c H locs 0 0 (MQ below (QcI D A g out.1 (fun (_ : Unit) => w_Rn g (K 0) (fun j => K (j + 1) 0) s0 ++ (w_Cs g (K 8) s1 ++ (w_Bs g (K 4) s2 ++ (w_Mg g (K 9) out.2.1 ++ (w_Bs g (K 5) out.2.2 ++ (rest))))))) args s 0 0 A) (F0 m 138 ls []) := by
  have X1 := X
  obtain ⟨hx, hb, hml, hown, hts, hr, hlocks, hKK⟩ := X1
  have ht : ∀ w ∈ TB, w.before args s = true := fun w h => hts w (List.mem_cons_of_mem _ h)
  have hK := hKK.1
  unfold B_Rn_takeFragment_138 at h
  refine lv_aload_n hx hb d_Rn_takeFragment_138 rfl (lv_at hl 0 rfl) ?_
  refine va_get (D := D) (ci := 8) (v := .ref (K 9 0)) (C := R_Rn) (T := T_Rn) (N := 16) hx hb ht in_Rn hown hK hI.1 0 rfl rfl 8 (by decide) (ht _ m_211) (fun _ h9 => h9) rfl d_Rn_takeFragment_139 ?_
  refine lv_iload_n hx hb d_Rn_takeFragment_142 rfl (lv_at hl 1 rfl) ?_
  refine lv_iload_n hx hb d_Rn_takeFragment_143 rfl (lv_at hl 2 rfl) ?_
  refine lv_iconst (v := 2) hx hb d_Rn_takeFragment_144 (by decide) ?_
  refine lv_iand hx hb d_Rn_takeFragment_145 ?_
  refine lv_if_eq (tgt := 153) hx hb d_Rn_takeFragment_146 (by decide) (fun hc => ?_) (fun hc => ?_)
  · have h := it_t h hc
    exact t_Rn_takeFragment_153 X (lv_sub hl [] rfl) hI hS h
  · have h := it_f h hc
    exact t_Rn_takeFragment_149 X (lv_sub hl [] rfl) hI hS h
set_option maxRecDepth 100000 in
set_option maxHeartbeats 4000000 in
theorem t_Rn_takeFragment_116 {p : Program} {l : Launch} {e : Env} {s : State} {m : MethodId} {args : Array Value} {below : List Frame} {meth : Method} {c : Code} {D : va_G} {A : Nat → Prop} {g : Nat → ClassId} {rest : va_W} {K : Nat → Nat → Nat} {ls : Array Slot} {H : Heap} {locs : List Loc} {k104 : S_Mg × S_Bs × Int32 × Int32 × Int32 → Option (Int32 × S_Mg × S_Bs)} {s0 : S_Rn} {s1 : S_Cs} {s2 : S_Bs} {s3 : S_Mg} {s4 : S_Bs} {x1 : Int32} {x2 : Int32} {x4 : Int32} {out : Int32 × S_Mg × S_Bs} (X : Cx p s m args meth c prog_1_method_31_code 5 ws_Rn_takeFragment R_Rn (some .boolean) D g) (hk104 : ∀ (v : S_Mg × S_Bs × Int32 × Int32 × Int32) (ls : Array Slot) (H : Heap) (locs : List Loc), lv_has ls 5 [(0, .ref (K 0 0)), (1, .int v.2.2.1), (2, .int v.2.2.2.1), (4, .int v.2.2.2.2)] → Iw D A (w_Rn g (K 0) (fun j => K (j + 1) 0) s0 ++ (w_Cs g (K 8) s1 ++ (w_Bs g (K 4) s2 ++ (w_Mg g (K 9) v.1 ++ (w_Bs g (K 5) v.2.1 ++ (rest)))))) H → va_S A s.heap H locs → k104 v = some out → W p l e (headSpec ws_Rn_takeFragment { frames := 2, cells := 0, slots := 0, locals := 42 }).room s m args below meth c H locs 0 0 (MQ below (QcI D A g out.1 (fun (_ : Unit) => w_Rn g (K 0) (fun j => K (j + 1) 0) s0 ++ (w_Cs g (K 8) s1 ++ (w_Bs g (K 4) s2 ++ (w_Mg g (K 9) out.2.1 ++ (w_Bs g (K 5) out.2.2 ++ (rest))))))) args s 0 0 A) (F0 m 104 ls [])) (hl : lv_has ls 5 [(0, .ref (K 0 0)), (1, .int x1), (2, .int x2), (4, .int x4)]) (hI : Iw D A (w_Rn g (K 0) (fun j => K (j + 1) 0) s0 ++ (w_Cs g (K 8) s1 ++ (w_Bs g (K 4) s2 ++ (w_Mg g (K 9) s3 ++ (w_Bs g (K 5) s4 ++ (rest)))))) H) (hS : va_S A s.heap H locs) (h : B_Rn_takeFragment_116 k104 s0 s1 s2 s3 s4 x1 x2 x4 = some out) : W p l e (headSpec ws_Rn_takeFragment { frames := 2, cells := 0, slots := 0, locals := 42 }).room s m args below meth c H locs 0 0 (MQ below (QcI D A g out.1 (fun (_ : Unit) => w_Rn g (K 0) (fun j => K (j + 1) 0) s0 ++ (w_Cs g (K 8) s1 ++ (w_Bs g (K 4) s2 ++ (w_Mg g (K 9) out.2.1 ++ (w_Bs g (K 5) out.2.2 ++ (rest))))))) args s 0 0 A) (F0 m 116 ls []) := by
  have X1 := X
  obtain ⟨hx, hb, hml, hown, hts, hr, hlocks, hKK⟩ := X1
  have ht : ∀ w ∈ TB, w.before args s = true := fun w h => hts w (List.mem_cons_of_mem _ h)
  have hK := hKK.1
  unfold B_Rn_takeFragment_116 at h
  refine lv_aload_n hx hb d_Rn_takeFragment_116 rfl (lv_at hl 0 rfl) ?_
  refine va_get (D := D) (ci := 8) (v := .ref (K 5 0)) (C := R_Rn) (T := T_Rn) (N := 16) hx hb ht in_Rn hown hK hI.1 0 rfl rfl 4 (by decide) (ht _ m_207) (fun _ h9 => h9) rfl d_Rn_takeFragment_117 ?_
  refine lv_aload_n hx hb d_Rn_takeFragment_120 rfl (lv_at hl 0 rfl) ?_
  refine va_get (D := D) (ci := 8) (v := .ref (K 4 0)) (C := R_Rn) (T := T_Rn) (N := 16) hx hb ht in_Rn hown hK hI.1 0 rfl rfl 3 (by decide) (ht _ m_206) (fun _ h9 => h9) rfl d_Rn_takeFragment_121 ?_
  refine lv_iload hx hb d_Rn_takeFragment_124 (lv_at hl 3 rfl) ?_
  obtain ⟨o1, ho2, h⟩ := bd_s h
  refine cl_i (W1 := fun (_ : Unit) => w_Rn g (K 0) (fun j => K (j + 1) 0) s0 ++ (w_Cs g (K 8) s1 ++ (w_Bs g (K 4) s2 ++ (w_Mg g (K 9) s3 ++ (w_Bs g (K 5) s4 ++ (rest)))))) (va_runV (As := [.int x4]) (rest := [.ref (K 5 0)]) ⟨hx, hb, hml, hown, ht⟩ (c_Bs_get (l := l) (D := D) (A := A) (g := g) (rest := w_Rn g (K 0) (fun j => K (j + 1) 0) s0 ++ (w_Cs g (K 8) s1 ++ (w_Mg g (K 9) s3 ++ (w_Bs g (K 5) s4 ++ (rest))))) (a0 := K 4) ho2) (cwV 1 ht (gd_V m_306 m_307 m_308 m_2 m_309) rfl rfl rfl (by decide +kernel) ⟨(Nat.le_of_ble_eq_true rfl), (Nat.le_of_ble_eq_true rfl)⟩) (prV (ci := 0) (q0 := 0) hKK hI (mv_2) rfl rfl rfl) rfl rfl hl.1 rfl (lv_room (Nat.le_of_ble_eq_true rfl)) d_Rn_takeFragment_126 ⟨(Nat.le_of_ble_eq_true rfl), (Nat.le_of_ble_eq_true rfl)⟩) hS (fun _ => ((mv_2)).symm) (fun _ H locs hI hS => ?_)
  have hI : Iw D A (w_Rn g (K 0) (fun j => K (j + 1) 0) s0 ++ (w_Cs g (K 8) s1 ++ (w_Bs g (K 4) s2 ++ (w_Mg g (K 9) s3 ++ (w_Bs g (K 5) s4 ++ (rest)))))) H := hI
  obtain ⟨o3, ho4, h⟩ := bd_s h
  refine cl_v (W1 := fun (_ : Unit) => w_Rn g (K 0) (fun j => K (j + 1) 0) s0 ++ (w_Cs g (K 8) s1 ++ (w_Bs g (K 4) s2 ++ (w_Mg g (K 9) s3 ++ (w_Bs g (K 5) o3 ++ (rest)))))) (va_runV (As := [.int o1]) (rest := []) ⟨hx, hb, hml, hown, ht⟩ (c_Bs_append (l := l) (D := D) (A := A) (g := g) (rest := w_Rn g (K 0) (fun j => K (j + 1) 0) s0 ++ (w_Cs g (K 8) s1 ++ (w_Bs g (K 4) s2 ++ (w_Mg g (K 9) s3 ++ (rest))))) (a0 := K 5) ho4) (cwV 1 ht (gd_V m_266 m_267 m_268 m_2 m_269) rfl rfl rfl (by decide +kernel) ⟨(Nat.le_of_ble_eq_true rfl), (Nat.le_of_ble_eq_true rfl)⟩) (prV (ci := 0) (q0 := 0) hKK hI (mv_4) rfl rfl rfl) rfl rfl hl.1 rfl (lv_room (Nat.le_of_ble_eq_true rfl)) d_Rn_takeFragment_129 ⟨(Nat.le_of_ble_eq_true rfl), (Nat.le_of_ble_eq_true rfl)⟩) hS (fun _ => ((mv_4)).symm) (fun _ H locs hI hS => ?_)
  have hI : Iw D A (w_Rn g (K 0) (fun j => K (j + 1) 0) s0 ++ (w_Cs g (K 8) s1 ++ (w_Bs g (K 4) s2 ++ (w_Mg g (K 9) s3 ++ (w_Bs g (K 5) o3 ++ (rest)))))) H := hI
  refine lv_iinc (k := 3) (v := (x4 + 1)) hx hb d_Rn_takeFragment_132 hl rfl (congrArg (fun z => x4 + z) (by decide)) (Nat.le_of_ble_eq_true rfl) rfl (fun ls hl => ?_)
  have hl : lv_has ls 5 [(4, .int (x4 + 1)), (0, .ref (K 0 0)), (1, .int x1), (2, .int x2)] := hl
  refine lv_goto (tgt := 104) hx hb d_Rn_takeFragment_135 (by decide) ?_
  exact hk104 (s3, o3, x1, x2, (x4 + 1)) _ _ _ (lv_sub hl [1, 2, 3, 0] rfl) hI hS h
set_option maxRecDepth 100000 in
set_option maxHeartbeats 4000000 in
theorem t_Rn_takeFragment_104 {p : Program} {l : Launch} {e : Env} {s : State} {m : MethodId} {args : Array Value} {below : List Frame} {meth : Method} {c : Code} {D : va_G} {A : Nat → Prop} {g : Nat → ClassId} {rest : va_W} {K : Nat → Nat → Nat} {ls : Array Slot} {H : Heap} {locs : List Loc} {k104 : S_Mg × S_Bs × Int32 × Int32 × Int32 → Option (Int32 × S_Mg × S_Bs)} {s0 : S_Rn} {s1 : S_Cs} {s2 : S_Bs} {s3 : S_Mg} {s4 : S_Bs} {x1 : Int32} {x2 : Int32} {x4 : Int32} {out : Int32 × S_Mg × S_Bs} (X : Cx p s m args meth c prog_1_method_31_code 5 ws_Rn_takeFragment R_Rn (some .boolean) D g) (hk104 : ∀ (v : S_Mg × S_Bs × Int32 × Int32 × Int32) (ls : Array Slot) (H : Heap) (locs : List Loc), lv_has ls 5 [(0, .ref (K 0 0)), (1, .int v.2.2.1), (2, .int v.2.2.2.1), (4, .int v.2.2.2.2)] → Iw D A (w_Rn g (K 0) (fun j => K (j + 1) 0) s0 ++ (w_Cs g (K 8) s1 ++ (w_Bs g (K 4) s2 ++ (w_Mg g (K 9) v.1 ++ (w_Bs g (K 5) v.2.1 ++ (rest)))))) H → va_S A s.heap H locs → k104 v = some out → W p l e (headSpec ws_Rn_takeFragment { frames := 2, cells := 0, slots := 0, locals := 42 }).room s m args below meth c H locs 0 0 (MQ below (QcI D A g out.1 (fun (_ : Unit) => w_Rn g (K 0) (fun j => K (j + 1) 0) s0 ++ (w_Cs g (K 8) s1 ++ (w_Bs g (K 4) s2 ++ (w_Mg g (K 9) out.2.1 ++ (w_Bs g (K 5) out.2.2 ++ (rest))))))) args s 0 0 A) (F0 m 104 ls [])) (hl : lv_has ls 5 [(0, .ref (K 0 0)), (1, .int x1), (2, .int x2), (4, .int x4)]) (hI : Iw D A (w_Rn g (K 0) (fun j => K (j + 1) 0) s0 ++ (w_Cs g (K 8) s1 ++ (w_Bs g (K 4) s2 ++ (w_Mg g (K 9) s3 ++ (w_Bs g (K 5) s4 ++ (rest)))))) H) (hS : va_S A s.heap H locs) (h : B_Rn_takeFragment_104 k104 s0 s1 s2 s3 s4 x1 x2 x4 = some out) : W p l e (headSpec ws_Rn_takeFragment { frames := 2, cells := 0, slots := 0, locals := 42 }).room s m args below meth c H locs 0 0 (MQ below (QcI D A g out.1 (fun (_ : Unit) => w_Rn g (K 0) (fun j => K (j + 1) 0) s0 ++ (w_Cs g (K 8) s1 ++ (w_Bs g (K 4) s2 ++ (w_Mg g (K 9) out.2.1 ++ (w_Bs g (K 5) out.2.2 ++ (rest))))))) args s 0 0 A) (F0 m 104 ls []) := by
  have X1 := X
  obtain ⟨hx, hb, hml, hown, hts, hr, hlocks, hKK⟩ := X1
  have ht : ∀ w ∈ TB, w.before args s = true := fun w h => hts w (List.mem_cons_of_mem _ h)
  have hK := hKK.1
  unfold B_Rn_takeFragment_104 at h
  refine lv_iload hx hb d_Rn_takeFragment_104 (lv_at hl 3 rfl) ?_
  refine lv_aload_n hx hb d_Rn_takeFragment_106 rfl (lv_at hl 0 rfl) ?_
  refine va_get (D := D) (ci := 8) (v := .ref (K 4 0)) (C := R_Rn) (T := T_Rn) (N := 16) hx hb ht in_Rn hown hK hI.1 0 rfl rfl 3 (by decide) (ht _ m_206) (fun _ h9 => h9) rfl d_Rn_takeFragment_107 ?_
  obtain ⟨o1, ho2, h⟩ := bd_s h
  refine cl_i (W1 := fun (_ : Unit) => w_Rn g (K 0) (fun j => K (j + 1) 0) s0 ++ (w_Cs g (K 8) s1 ++ (w_Bs g (K 4) s2 ++ (w_Mg g (K 9) s3 ++ (w_Bs g (K 5) s4 ++ (rest)))))) (va_runV (As := []) (rest := [.int x4]) ⟨hx, hb, hml, hown, ht⟩ (c_Bs_count (l := l) (D := D) (A := A) (g := g) (rest := w_Rn g (K 0) (fun j => K (j + 1) 0) s0 ++ (w_Cs g (K 8) s1 ++ (w_Mg g (K 9) s3 ++ (w_Bs g (K 5) s4 ++ (rest))))) (a0 := K 4) ho2) (cwV 0 ht (gd_V m_302 m_303 m_304 m_2 m_305) rfl rfl rfl (by decide +kernel) ⟨(Nat.le_of_ble_eq_true rfl), (Nat.le_of_ble_eq_true rfl)⟩) (prV (ci := 0) (q0 := 0) hKK hI (mv_2) rfl rfl rfl) rfl rfl hl.1 rfl (lv_room (Nat.le_of_ble_eq_true rfl)) d_Rn_takeFragment_110 ⟨(Nat.le_of_ble_eq_true rfl), (Nat.le_of_ble_eq_true rfl)⟩) hS (fun _ => ((mv_2)).symm) (fun _ H locs hI hS => ?_)
  have hI : Iw D A (w_Rn g (K 0) (fun j => K (j + 1) 0) s0 ++ (w_Cs g (K 8) s1 ++ (w_Bs g (K 4) s2 ++ (w_Mg g (K 9) s3 ++ (w_Bs g (K 5) s4 ++ (rest)))))) H := hI
  refine lv_icmp_ge (tgt := 138) hx hb d_Rn_takeFragment_113 (by decide) (fun hc => ?_) (fun hc => ?_)
  · have h := it_t h hc
    exact t_Rn_takeFragment_138 X (lv_sub hl [0, 1, 2] rfl) hI hS h
  · have h := it_f h hc
    exact t_Rn_takeFragment_116 X hk104 (lv_sub hl [0, 1, 2, 3] rfl) hI hS h
set_option maxRecDepth 100000 in
set_option maxHeartbeats 4000000 in
theorem T_Rn_takeFragment_104 {p : Program} {l : Launch} {e : Env} {s : State} {m : MethodId} {args : Array Value} {below : List Frame} {meth : Method} {c : Code} {D : va_G} {A : Nat → Prop} {g : Nat → ClassId} {rest : va_W} {K : Nat → Nat → Nat} {ls : Array Slot} {H : Heap} {locs : List Loc} {s0 : S_Rn} {s1 : S_Cs} {s2 : S_Bs} {s3 : S_Mg} {s4 : S_Bs} {x1 : Int32} {x2 : Int32} {x4 : Int32} {out : Int32 × S_Mg × S_Bs} (X : Cx p s m args meth c prog_1_method_31_code 5 ws_Rn_takeFragment R_Rn (some .boolean) D g) (hl : lv_has ls 5 [(0, .ref (K 0 0)), (1, .int x1), (2, .int x2), (4, .int x4)]) (hI : Iw D A (w_Rn g (K 0) (fun j => K (j + 1) 0) s0 ++ (w_Cs g (K 8) s1 ++ (w_Bs g (K 4) s2 ++ (w_Mg g (K 9) s3 ++ (w_Bs g (K 5) s4 ++ (rest)))))) H) (hS : va_S A s.heap H locs) (h : L_Rn_takeFragment_104  s0 s1 s2 (s3, s4, x1, x2, x4) = some out) : W p l e (headSpec ws_Rn_takeFragment { frames := 2, cells := 0, slots := 0, locals := 42 }).room s m args below meth c H locs 0 0 (MQ below (QcI D A g out.1 (fun (_ : Unit) => w_Rn g (K 0) (fun j => K (j + 1) 0) s0 ++ (w_Cs g (K 8) s1 ++ (w_Bs g (K 4) s2 ++ (w_Mg g (K 9) out.2.1 ++ (w_Bs g (K 5) out.2.2 ++ (rest))))))) args s 0 0 A) (F0 m 104 ls []) := by
  unfold L_Rn_takeFragment_104 at h
  exact lp_ind (P := fun v => ∀ (ls : Array Slot) (H : Heap) (locs : List Loc), lv_has ls 5 [(0, .ref (K 0 0)), (1, .int v.2.2.1), (2, .int v.2.2.2.1), (4, .int v.2.2.2.2)] → Iw D A (w_Rn g (K 0) (fun j => K (j + 1) 0) s0 ++ (w_Cs g (K 8) s1 ++ (w_Bs g (K 4) s2 ++ (w_Mg g (K 9) v.1 ++ (w_Bs g (K 5) v.2.1 ++ (rest)))))) H → va_S A s.heap H locs → W p l e (headSpec ws_Rn_takeFragment { frames := 2, cells := 0, slots := 0, locals := 42 }).room s m args below meth c H locs 0 0 (MQ below (QcI D A g out.1 (fun (_ : Unit) => w_Rn g (K 0) (fun j => K (j + 1) 0) s0 ++ (w_Cs g (K 8) s1 ++ (w_Bs g (K 4) s2 ++ (w_Mg g (K 9) out.2.1 ++ (w_Bs g (K 5) out.2.2 ++ (rest))))))) args s 0 0 A) (F0 m 104 ls [])) (fun k v ih hb ls H locs  hl hI hS => t_Rn_takeFragment_104 X  (fun v' ls H locs  hl hI hS h' => ih v' h' ls H locs  hl hI hS) hl hI hS hb) FU _ h ls H locs  hl hI hS
set_option maxRecDepth 100000 in
set_option maxHeartbeats 4000000 in
theorem t_Rn_takeFragment_101 {p : Program} {l : Launch} {e : Env} {s : State} {m : MethodId} {args : Array Value} {below : List Frame} {meth : Method} {c : Code} {D : va_G} {A : Nat → Prop} {g : Nat → ClassId} {rest : va_W} {K : Nat → Nat → Nat} {ls : Array Slot} {H : Heap} {locs : List Loc} {s0 : S_Rn} {s1 : S_Cs} {s2 : S_Bs} {s3 : S_Mg} {s4 : S_Bs} {x1 : Int32} {x2 : Int32} {out : Int32 × S_Mg × S_Bs} (X : Cx p s m args meth c prog_1_method_31_code 5 ws_Rn_takeFragment R_Rn (some .boolean) D g) (hl : lv_has ls 5 [(0, .ref (K 0 0)), (1, .int x1), (2, .int x2)]) (hI : Iw D A (w_Rn g (K 0) (fun j => K (j + 1) 0) s0 ++ (w_Cs g (K 8) s1 ++ (w_Bs g (K 4) s2 ++ (w_Mg g (K 9) s3 ++ (w_Bs g (K 5) s4 ++ (rest)))))) H) (hS : va_S A s.heap H locs) (h : B_Rn_takeFragment_101  s0 s1 s2 s3 s4 x1 x2 = some out) : W p l e (headSpec ws_Rn_takeFragment { frames := 2, cells := 0, slots := 0, locals := 42 }).room s m args below meth c H locs 0 0 (MQ below (QcI D A g out.1 (fun (_ : Unit) => w_Rn g (K 0) (fun j => K (j + 1) 0) s0 ++ (w_Cs g (K 8) s1 ++ (w_Bs g (K 4) s2 ++ (w_Mg g (K 9) out.2.1 ++ (w_Bs g (K 5) out.2.2 ++ (rest))))))) args s 0 0 A) (F0 m 101 ls []) := by
  have X1 := X
  obtain ⟨hx, hb, hml, hown, hts, hr, hlocks, hKK⟩ := X1
  have ht : ∀ w ∈ TB, w.before args s = true := fun w h => hts w (List.mem_cons_of_mem _ h)
  have hK := hKK.1
  unfold B_Rn_takeFragment_101 at h
  refine lv_iconst (v := 4) hx hb d_Rn_takeFragment_101 (by decide) ?_
  refine lv_istore hx hb d_Rn_takeFragment_102 hl (Nat.le_of_ble_eq_true rfl) rfl (fun ls hl => ?_)
  have hl : lv_has ls 5 [(4, .int (4 : Int32)), (0, .ref (K 0 0)), (1, .int x1), (2, .int x2)] := hl
  exact T_Rn_takeFragment_104 X (lv_sub hl [1, 2, 3, 0] rfl) hI hS h
set_option maxRecDepth 100000 in
set_option maxHeartbeats 4000000 in
theorem t_Rn_takeFragment_80 {p : Program} {l : Launch} {e : Env} {s : State} {m : MethodId} {args : Array Value} {below : List Frame} {meth : Method} {c : Code} {D : va_G} {A : Nat → Prop} {g : Nat → ClassId} {rest : va_W} {K : Nat → Nat → Nat} {ls : Array Slot} {H : Heap} {locs : List Loc} {s0 : S_Rn} {s1 : S_Cs} {s2 : S_Bs} {s3 : S_Mg} {s4 : S_Bs} {x1 : Int32} {x2 : Int32} {out : Int32 × S_Mg × S_Bs} (X : Cx p s m args meth c prog_1_method_31_code 5 ws_Rn_takeFragment R_Rn (some .boolean) D g) (hl : lv_has ls 5 [(0, .ref (K 0 0)), (1, .int x1), (2, .int x2)]) (hI : Iw D A (w_Rn g (K 0) (fun j => K (j + 1) 0) s0 ++ (w_Cs g (K 8) s1 ++ (w_Bs g (K 4) s2 ++ (w_Mg g (K 9) s3 ++ (w_Bs g (K 5) s4 ++ (rest)))))) H) (hS : va_S A s.heap H locs) (h : B_Rn_takeFragment_80  s0 s1 s2 s3 s4 x1 x2 = some out) : W p l e (headSpec ws_Rn_takeFragment { frames := 2, cells := 0, slots := 0, locals := 42 }).room s m args below meth c H locs 0 0 (MQ below (QcI D A g out.1 (fun (_ : Unit) => w_Rn g (K 0) (fun j => K (j + 1) 0) s0 ++ (w_Cs g (K 8) s1 ++ (w_Bs g (K 4) s2 ++ (w_Mg g (K 9) out.2.1 ++ (w_Bs g (K 5) out.2.2 ++ (rest))))))) args s 0 0 A) (F0 m 80 ls []) := by
  have X1 := X
  obtain ⟨hx, hb, hml, hown, hts, hr, hlocks, hKK⟩ := X1
  have ht : ∀ w ∈ TB, w.before args s = true := fun w h => hts w (List.mem_cons_of_mem _ h)
  have hK := hKK.1
  unfold B_Rn_takeFragment_80 at h
  refine lv_aload_n hx hb d_Rn_takeFragment_80 rfl (lv_at hl 0 rfl) ?_
  refine va_get (D := D) (ci := 8) (v := .ref (K 5 0)) (C := R_Rn) (T := T_Rn) (N := 16) hx hb ht in_Rn hown hK hI.1 0 rfl rfl 4 (by decide) (ht _ m_207) (fun _ h9 => h9) rfl d_Rn_takeFragment_81 ?_
  refine lv_aload_n hx hb d_Rn_takeFragment_84 rfl (lv_at hl 0 rfl) ?_
  refine va_get (D := D) (ci := 8) (v := .ref (K 4 0)) (C := R_Rn) (T := T_Rn) (N := 16) hx hb ht in_Rn hown hK hI.1 0 rfl rfl 3 (by decide) (ht _ m_206) (fun _ h9 => h9) rfl d_Rn_takeFragment_85 ?_
  obtain ⟨o1, ho2, h⟩ := bd_s h
  refine cl_i (W1 := fun (_ : Unit) => w_Rn g (K 0) (fun j => K (j + 1) 0) s0 ++ (w_Cs g (K 8) s1 ++ (w_Bs g (K 4) s2 ++ (w_Mg g (K 9) s3 ++ (w_Bs g (K 5) s4 ++ (rest)))))) (va_runV (As := []) (rest := [.ref (K 5 0)]) ⟨hx, hb, hml, hown, ht⟩ (c_Bs_count (l := l) (D := D) (A := A) (g := g) (rest := w_Rn g (K 0) (fun j => K (j + 1) 0) s0 ++ (w_Cs g (K 8) s1 ++ (w_Mg g (K 9) s3 ++ (w_Bs g (K 5) s4 ++ (rest))))) (a0 := K 4) ho2) (cwV 0 ht (gd_V m_302 m_303 m_304 m_2 m_305) rfl rfl rfl (by decide +kernel) ⟨(Nat.le_of_ble_eq_true rfl), (Nat.le_of_ble_eq_true rfl)⟩) (prV (ci := 0) (q0 := 0) hKK hI (mv_2) rfl rfl rfl) rfl rfl hl.1 rfl (lv_room (Nat.le_of_ble_eq_true rfl)) d_Rn_takeFragment_88 ⟨(Nat.le_of_ble_eq_true rfl), (Nat.le_of_ble_eq_true rfl)⟩) hS (fun _ => ((mv_2)).symm) (fun _ H locs hI hS => ?_)
  have hI : Iw D A (w_Rn g (K 0) (fun j => K (j + 1) 0) s0 ++ (w_Cs g (K 8) s1 ++ (w_Bs g (K 4) s2 ++ (w_Mg g (K 9) s3 ++ (w_Bs g (K 5) s4 ++ (rest)))))) H := hI
  refine lv_iconst (v := 4) hx hb d_Rn_takeFragment_91 (by decide) ?_
  refine lv_isub hx hb d_Rn_takeFragment_92 ?_
  obtain ⟨o3, ho4, h⟩ := bd_s h
  refine cl_i (W1 := fun (_ : Unit) => w_Rn g (K 0) (fun j => K (j + 1) 0) s0 ++ (w_Cs g (K 8) s1 ++ (w_Bs g (K 4) s2 ++ (w_Mg g (K 9) s3 ++ (w_Bs g (K 5) s4 ++ (rest)))))) (va_runV (As := [.int (o1 - (4 : Int32))]) (rest := []) ⟨hx, hb, hml, hown, ht⟩ (c_Bs_hasRoom (l := l) (D := D) (A := A) (g := g) (rest := w_Rn g (K 0) (fun j => K (j + 1) 0) s0 ++ (w_Cs g (K 8) s1 ++ (w_Bs g (K 4) s2 ++ (w_Mg g (K 9) s3 ++ (rest))))) (a0 := K 5) ho4) (cwV 1 ht (gd_V m_259 m_260 m_261 m_2 m_262) rfl rfl rfl (by decide +kernel) ⟨(Nat.le_of_ble_eq_true rfl), (Nat.le_of_ble_eq_true rfl)⟩) (prV (ci := 0) (q0 := 0) hKK hI (mv_4) rfl rfl rfl) rfl rfl hl.1 rfl (lv_room (Nat.le_of_ble_eq_true rfl)) d_Rn_takeFragment_93 ⟨(Nat.le_of_ble_eq_true rfl), (Nat.le_of_ble_eq_true rfl)⟩) hS (fun _ => ((mv_4)).symm) (fun _ H locs hI hS => ?_)
  have hI : Iw D A (w_Rn g (K 0) (fun j => K (j + 1) 0) s0 ++ (w_Cs g (K 8) s1 ++ (w_Bs g (K 4) s2 ++ (w_Mg g (K 9) s3 ++ (w_Bs g (K 5) s4 ++ (rest)))))) H := hI
  refine lv_if_ne (tgt := 101) hx hb d_Rn_takeFragment_96 (by decide) (fun hc => ?_) (fun hc => ?_)
  · have h := it_f h hc
    exact t_Rn_takeFragment_101 X (lv_sub hl [0, 1, 2] rfl) hI hS h
  · have h := it_t h hc
    exact t_Rn_takeFragment_99 X (lv_sub hl [] rfl) hI hS h
set_option maxRecDepth 100000 in
set_option maxHeartbeats 4000000 in
theorem t_Rn_takeFragment_67 {p : Program} {l : Launch} {e : Env} {s : State} {m : MethodId} {args : Array Value} {below : List Frame} {meth : Method} {c : Code} {D : va_G} {A : Nat → Prop} {g : Nat → ClassId} {rest : va_W} {K : Nat → Nat → Nat} {ls : Array Slot} {H : Heap} {locs : List Loc} {s0 : S_Rn} {s1 : S_Cs} {s2 : S_Bs} {s3 : S_Mg} {s4 : S_Bs} {x1 : Int32} {x2 : Int32} {y0 : Int32} {out : Int32 × S_Mg × S_Bs} (X : Cx p s m args meth c prog_1_method_31_code 5 ws_Rn_takeFragment R_Rn (some .boolean) D g) (hl : lv_has ls 5 [(0, .ref (K 0 0)), (1, .int x1), (2, .int x2)]) (hI : Iw D A (w_Rn g (K 0) (fun j => K (j + 1) 0) s0 ++ (w_Cs g (K 8) s1 ++ (w_Bs g (K 4) s2 ++ (w_Mg g (K 9) s3 ++ (w_Bs g (K 5) s4 ++ (rest)))))) H) (hS : va_S A s.heap H locs) (h : B_Rn_takeFragment_67  s0 s1 s2 s3 s4 x1 x2 y0 = some out) : W p l e (headSpec ws_Rn_takeFragment { frames := 2, cells := 0, slots := 0, locals := 42 }).room s m args below meth c H locs 0 0 (MQ below (QcI D A g out.1 (fun (_ : Unit) => w_Rn g (K 0) (fun j => K (j + 1) 0) s0 ++ (w_Cs g (K 8) s1 ++ (w_Bs g (K 4) s2 ++ (w_Mg g (K 9) out.2.1 ++ (w_Bs g (K 5) out.2.2 ++ (rest))))))) args s 0 0 A) (F0 m 67 ls [.int y0]) := by
  have X1 := X
  obtain ⟨hx, hb, hml, hown, hts, hr, hlocks, hKK⟩ := X1
  have ht : ∀ w ∈ TB, w.before args s = true := fun w h => hts w (List.mem_cons_of_mem _ h)
  have hK := hKK.1
  unfold B_Rn_takeFragment_67 at h
  refine lv_istore_n hx hb d_Rn_takeFragment_67 rfl hl (Nat.le_of_ble_eq_true rfl) rfl (fun ls hl => ?_)
  have hl : lv_has ls 5 [(3, .int y0), (0, .ref (K 0 0)), (1, .int x1), (2, .int x2)] := hl
  refine lv_aload_n hx hb d_Rn_takeFragment_68 rfl (lv_at hl 1 rfl) ?_
  refine va_get (D := D) (ci := 8) (v := .ref (K 9 0)) (C := R_Rn) (T := T_Rn) (N := 16) hx hb ht in_Rn hown hK hI.1 0 rfl rfl 8 (by decide) (ht _ m_211) (fun _ h9 => h9) rfl d_Rn_takeFragment_69 ?_
  refine lv_iload_n hx hb d_Rn_takeFragment_72 rfl (lv_at hl 0 rfl) ?_
  refine lv_iload_n hx hb d_Rn_takeFragment_73 rfl (lv_at hl 2 rfl) ?_
  obtain ⟨o1, ho2, h⟩ := bd_s h
  refine cl_i (W1 := fun (_ : Unit) => w_Rn g (K 0) (fun j => K (j + 1) 0) s0 ++ (w_Cs g (K 8) s1 ++ (w_Bs g (K 4) s2 ++ (w_Mg g (K 9) s3 ++ (w_Bs g (K 5) s4 ++ (rest)))))) (va_runV (As := [.int y0, .int x1]) (rest := []) ⟨hx, hb, hml, hown, ht⟩ (c_Mg_wants (l := l) (D := D) (A := A) (g := g) (rest := w_Rn g (K 0) (fun j => K (j + 1) 0) s0 ++ (w_Cs g (K 8) s1 ++ (w_Bs g (K 4) s2 ++ (w_Bs g (K 5) s4 ++ (rest))))) (a0 := K 9) ho2) (cwV 2 ht (gd_V m_392 m_393 m_394 m_5 m_395) rfl rfl rfl (by decide +kernel) ⟨(Nat.le_of_ble_eq_true rfl), (Nat.le_of_ble_eq_true rfl)⟩) (prV (ci := 3) (q0 := 0) hKK hI (mv_3) rfl rfl rfl) rfl rfl hl.1 rfl (lv_room (Nat.le_of_ble_eq_true rfl)) d_Rn_takeFragment_74 ⟨(Nat.le_of_ble_eq_true rfl), (Nat.le_of_ble_eq_true rfl)⟩) hS (fun _ => ((mv_3)).symm) (fun _ H locs hI hS => ?_)
  have hI : Iw D A (w_Rn g (K 0) (fun j => K (j + 1) 0) s0 ++ (w_Cs g (K 8) s1 ++ (w_Bs g (K 4) s2 ++ (w_Mg g (K 9) s3 ++ (w_Bs g (K 5) s4 ++ (rest)))))) H := hI
  refine lv_if_eq (tgt := 99) hx hb d_Rn_takeFragment_77 (by decide) (fun hc => ?_) (fun hc => ?_)
  · have h := it_t h hc
    exact t_Rn_takeFragment_99 X (lv_sub hl [] rfl) hI hS h
  · have h := it_f h hc
    exact t_Rn_takeFragment_80 X (lv_sub hl [1, 2, 3] rfl) hI hS h
set_option maxRecDepth 100000 in
set_option maxHeartbeats 4000000 in
theorem t_Rn_takeFragment_66 {p : Program} {l : Launch} {e : Env} {s : State} {m : MethodId} {args : Array Value} {below : List Frame} {meth : Method} {c : Code} {D : va_G} {A : Nat → Prop} {g : Nat → ClassId} {rest : va_W} {K : Nat → Nat → Nat} {ls : Array Slot} {H : Heap} {locs : List Loc} {s0 : S_Rn} {s1 : S_Cs} {s2 : S_Bs} {s3 : S_Mg} {s4 : S_Bs} {x1 : Int32} {x2 : Int32} {out : Int32 × S_Mg × S_Bs} (X : Cx p s m args meth c prog_1_method_31_code 5 ws_Rn_takeFragment R_Rn (some .boolean) D g) (hl : lv_has ls 5 [(0, .ref (K 0 0)), (1, .int x1), (2, .int x2)]) (hI : Iw D A (w_Rn g (K 0) (fun j => K (j + 1) 0) s0 ++ (w_Cs g (K 8) s1 ++ (w_Bs g (K 4) s2 ++ (w_Mg g (K 9) s3 ++ (w_Bs g (K 5) s4 ++ (rest)))))) H) (hS : va_S A s.heap H locs) (h : B_Rn_takeFragment_66  s0 s1 s2 s3 s4 x1 x2 = some out) : W p l e (headSpec ws_Rn_takeFragment { frames := 2, cells := 0, slots := 0, locals := 42 }).room s m args below meth c H locs 0 0 (MQ below (QcI D A g out.1 (fun (_ : Unit) => w_Rn g (K 0) (fun j => K (j + 1) 0) s0 ++ (w_Cs g (K 8) s1 ++ (w_Bs g (K 4) s2 ++ (w_Mg g (K 9) out.2.1 ++ (w_Bs g (K 5) out.2.2 ++ (rest))))))) args s 0 0 A) (F0 m 66 ls []) := by
  have X1 := X
  obtain ⟨hx, hb, hml, hown, hts, hr, hlocks, hKK⟩ := X1
  have ht : ∀ w ∈ TB, w.before args s = true := fun w h => hts w (List.mem_cons_of_mem _ h)
  have hK := hKK.1
  unfold B_Rn_takeFragment_66 at h
  refine lv_iconst (v := 0) hx hb d_Rn_takeFragment_66 (by decide) ?_
  exact t_Rn_takeFragment_67 X (lv_sub hl [0, 1, 2] rfl) hI hS h
set_option maxRecDepth 100000 in
set_option maxHeartbeats 4000000 in
theorem t_Rn_takeFragment_62 {p : Program} {l : Launch} {e : Env} {s : State} {m : MethodId} {args : Array Value} {below : List Frame} {meth : Method} {c : Code} {D : va_G} {A : Nat → Prop} {g : Nat → ClassId} {rest : va_W} {K : Nat → Nat → Nat} {ls : Array Slot} {H : Heap} {locs : List Loc} {s0 : S_Rn} {s1 : S_Cs} {s2 : S_Bs} {s3 : S_Mg} {s4 : S_Bs} {x1 : Int32} {x2 : Int32} {out : Int32 × S_Mg × S_Bs} (X : Cx p s m args meth c prog_1_method_31_code 5 ws_Rn_takeFragment R_Rn (some .boolean) D g) (hl : lv_has ls 5 [(0, .ref (K 0 0)), (1, .int x1), (2, .int x2)]) (hI : Iw D A (w_Rn g (K 0) (fun j => K (j + 1) 0) s0 ++ (w_Cs g (K 8) s1 ++ (w_Bs g (K 4) s2 ++ (w_Mg g (K 9) s3 ++ (w_Bs g (K 5) s4 ++ (rest)))))) H) (hS : va_S A s.heap H locs) (h : B_Rn_takeFragment_62  s0 s1 s2 s3 s4 x1 x2 = some out) : W p l e (headSpec ws_Rn_takeFragment { frames := 2, cells := 0, slots := 0, locals := 42 }).room s m args below meth c H locs 0 0 (MQ below (QcI D A g out.1 (fun (_ : Unit) => w_Rn g (K 0) (fun j => K (j + 1) 0) s0 ++ (w_Cs g (K 8) s1 ++ (w_Bs g (K 4) s2 ++ (w_Mg g (K 9) out.2.1 ++ (w_Bs g (K 5) out.2.2 ++ (rest))))))) args s 0 0 A) (F0 m 62 ls []) := by
  have X1 := X
  obtain ⟨hx, hb, hml, hown, hts, hr, hlocks, hKK⟩ := X1
  have ht : ∀ w ∈ TB, w.before args s = true := fun w h => hts w (List.mem_cons_of_mem _ h)
  have hK := hKK.1
  unfold B_Rn_takeFragment_62 at h
  refine lv_iconst (v := 1) hx hb d_Rn_takeFragment_62 (by decide) ?_
  refine lv_goto (tgt := 67) hx hb d_Rn_takeFragment_63 (by decide) ?_
  exact t_Rn_takeFragment_67 X (lv_sub hl [0, 1, 2] rfl) hI hS h
set_option maxRecDepth 100000 in
set_option maxHeartbeats 4000000 in
theorem t_Rn_takeFragment_56 {p : Program} {l : Launch} {e : Env} {s : State} {m : MethodId} {args : Array Value} {below : List Frame} {meth : Method} {c : Code} {D : va_G} {A : Nat → Prop} {g : Nat → ClassId} {rest : va_W} {K : Nat → Nat → Nat} {ls : Array Slot} {H : Heap} {locs : List Loc} {s0 : S_Rn} {s1 : S_Cs} {s2 : S_Bs} {s3 : S_Mg} {s4 : S_Bs} {x1 : Int32} {x2 : Int32} {out : Int32 × S_Mg × S_Bs} (X : Cx p s m args meth c prog_1_method_31_code 5 ws_Rn_takeFragment R_Rn (some .boolean) D g) (hl : lv_has ls 5 [(0, .ref (K 0 0)), (1, .int x1), (2, .int x2)]) (hI : Iw D A (w_Rn g (K 0) (fun j => K (j + 1) 0) s0 ++ (w_Cs g (K 8) s1 ++ (w_Bs g (K 4) s2 ++ (w_Mg g (K 9) s3 ++ (w_Bs g (K 5) s4 ++ (rest)))))) H) (hS : va_S A s.heap H locs) (h : B_Rn_takeFragment_56  s0 s1 s2 s3 s4 x1 x2 = some out) : W p l e (headSpec ws_Rn_takeFragment { frames := 2, cells := 0, slots := 0, locals := 42 }).room s m args below meth c H locs 0 0 (MQ below (QcI D A g out.1 (fun (_ : Unit) => w_Rn g (K 0) (fun j => K (j + 1) 0) s0 ++ (w_Cs g (K 8) s1 ++ (w_Bs g (K 4) s2 ++ (w_Mg g (K 9) out.2.1 ++ (w_Bs g (K 5) out.2.2 ++ (rest))))))) args s 0 0 A) (F0 m 56 ls []) := by
  have X1 := X
  obtain ⟨hx, hb, hml, hown, hts, hr, hlocks, hKK⟩ := X1
  have ht : ∀ w ∈ TB, w.before args s = true := fun w h => hts w (List.mem_cons_of_mem _ h)
  have hK := hKK.1
  unfold B_Rn_takeFragment_56 at h
  refine lv_iload_n hx hb d_Rn_takeFragment_56 rfl (lv_at hl 2 rfl) ?_
  refine lv_iconst (v := 1) hx hb d_Rn_takeFragment_57 (by decide) ?_
  refine lv_iand hx hb d_Rn_takeFragment_58 ?_
  refine lv_if_ne (tgt := 66) hx hb d_Rn_takeFragment_59 (by decide) (fun hc => ?_) (fun hc => ?_)
  · have h := it_f h hc
    exact t_Rn_takeFragment_66 X (lv_sub hl [0, 1, 2] rfl) hI hS h
  · have h := it_t h hc
    exact t_Rn_takeFragment_62 X (lv_sub hl [0, 1, 2] rfl) hI hS h
set_option maxRecDepth 100000 in
set_option maxHeartbeats 4000000 in
theorem t_Rn_takeFragment_49 {p : Program} {l : Launch} {e : Env} {s : State} {m : MethodId} {args : Array Value} {below : List Frame} {meth : Method} {c : Code} {D : va_G} {A : Nat → Prop} {g : Nat → ClassId} {rest : va_W} {K : Nat → Nat → Nat} {ls : Array Slot} {H : Heap} {locs : List Loc} {s0 : S_Rn} {s1 : S_Cs} {s2 : S_Bs} {s3 : S_Mg} {s4 : S_Bs} {x1 : Int32} {x2 : Int32} {out : Int32 × S_Mg × S_Bs} (X : Cx p s m args meth c prog_1_method_31_code 5 ws_Rn_takeFragment R_Rn (some .boolean) D g) (hl : lv_has ls 5 [(0, .ref (K 0 0)), (1, .int x1), (2, .int x2)]) (hI : Iw D A (w_Rn g (K 0) (fun j => K (j + 1) 0) s0 ++ (w_Cs g (K 8) s1 ++ (w_Bs g (K 4) s2 ++ (w_Mg g (K 9) s3 ++ (w_Bs g (K 5) s4 ++ (rest)))))) H) (hS : va_S A s.heap H locs) (h : B_Rn_takeFragment_49  s0 s1 s2 s3 s4 x1 x2 = some out) : W p l e (headSpec ws_Rn_takeFragment { frames := 2, cells := 0, slots := 0, locals := 42 }).room s m args below meth c H locs 0 0 (MQ below (QcI D A g out.1 (fun (_ : Unit) => w_Rn g (K 0) (fun j => K (j + 1) 0) s0 ++ (w_Cs g (K 8) s1 ++ (w_Bs g (K 4) s2 ++ (w_Mg g (K 9) out.2.1 ++ (w_Bs g (K 5) out.2.2 ++ (rest))))))) args s 0 0 A) (F0 m 49 ls []) := by
  have X1 := X
  obtain ⟨hx, hb, hml, hown, hts, hr, hlocks, hKK⟩ := X1
  have ht : ∀ w ∈ TB, w.before args s = true := fun w h => hts w (List.mem_cons_of_mem _ h)
  have hK := hKK.1
  unfold B_Rn_takeFragment_49 at h
  refine lv_iload_n hx hb d_Rn_takeFragment_49 rfl (lv_at hl 2 rfl) ?_
  refine lv_iconst (v := 3) hx hb d_Rn_takeFragment_50 (by decide) ?_
  refine lv_icmp_le (tgt := 56) hx hb d_Rn_takeFragment_51 (by decide) (fun hc => ?_) (fun hc => ?_)
  · have h := it_t h hc
    exact t_Rn_takeFragment_56 X (lv_sub hl [0, 1, 2] rfl) hI hS h
  · have h := it_f h hc
    exact t_Rn_takeFragment_54 X (lv_sub hl [] rfl) hI hS h
set_option maxRecDepth 100000 in
set_option maxHeartbeats 4000000 in
theorem t_Rn_takeFragment_13 {p : Program} {l : Launch} {e : Env} {s : State} {m : MethodId} {args : Array Value} {below : List Frame} {meth : Method} {c : Code} {D : va_G} {A : Nat → Prop} {g : Nat → ClassId} {rest : va_W} {K : Nat → Nat → Nat} {ls : Array Slot} {H : Heap} {locs : List Loc} {s0 : S_Rn} {s1 : S_Cs} {s2 : S_Bs} {s3 : S_Mg} {s4 : S_Bs} {out : Int32 × S_Mg × S_Bs} (X : Cx p s m args meth c prog_1_method_31_code 5 ws_Rn_takeFragment R_Rn (some .boolean) D g) (hl : lv_has ls 5 [(0, .ref (K 0 0))]) (hI : Iw D A (w_Rn g (K 0) (fun j => K (j + 1) 0) s0 ++ (w_Cs g (K 8) s1 ++ (w_Bs g (K 4) s2 ++ (w_Mg g (K 9) s3 ++ (w_Bs g (K 5) s4 ++ (rest)))))) H) (hS : va_S A s.heap H locs) (h : B_Rn_takeFragment_13  s0 s1 s2 s3 s4 = some out) : W p l e (headSpec ws_Rn_takeFragment { frames := 2, cells := 0, slots := 0, locals := 42 }).room s m args below meth c H locs 0 0 (MQ below (QcI D A g out.1 (fun (_ : Unit) => w_Rn g (K 0) (fun j => K (j + 1) 0) s0 ++ (w_Cs g (K 8) s1 ++ (w_Bs g (K 4) s2 ++ (w_Mg g (K 9) out.2.1 ++ (w_Bs g (K 5) out.2.2 ++ (rest))))))) args s 0 0 A) (F0 m 13 ls []) := by
  have X1 := X
  obtain ⟨hx, hb, hml, hown, hts, hr, hlocks, hKK⟩ := X1
  have ht : ∀ w ∈ TB, w.before args s = true := fun w h => hts w (List.mem_cons_of_mem _ h)
  have hK := hKK.1
  unfold B_Rn_takeFragment_13 at h
  refine lv_aload_n hx hb d_Rn_takeFragment_13 rfl (lv_at hl 0 rfl) ?_
  refine va_get (D := D) (ci := 8) (v := .ref (K 8 0)) (C := R_Rn) (T := T_Rn) (N := 16) hx hb ht in_Rn hown hK hI.1 0 rfl rfl 7 (by decide) (ht _ m_210) (fun _ h9 => h9) rfl d_Rn_takeFragment_14 ?_
  refine lv_aload_n hx hb d_Rn_takeFragment_17 rfl (lv_at hl 0 rfl) ?_
  refine va_get (D := D) (ci := 8) (v := .ref (K 4 0)) (C := R_Rn) (T := T_Rn) (N := 16) hx hb ht in_Rn hown hK hI.1 0 rfl rfl 3 (by decide) (ht _ m_206) (fun _ h9 => h9) rfl d_Rn_takeFragment_18 ?_
  refine lv_iconst (v := 2) hx hb d_Rn_takeFragment_21 (by decide) ?_
  obtain ⟨o1, ho2, h⟩ := bd_s h
  refine cl_i (W1 := fun (_ : Unit) => w_Rn g (K 0) (fun j => K (j + 1) 0) s0 ++ (w_Cs g (K 8) s1 ++ (w_Bs g (K 4) s2 ++ (w_Mg g (K 9) s3 ++ (w_Bs g (K 5) s4 ++ (rest)))))) (va_runV (As := [.int (2 : Int32)]) (rest := [.ref (K 8 0)]) ⟨hx, hb, hml, hown, ht⟩ (c_Bs_get (l := l) (D := D) (A := A) (g := g) (rest := w_Rn g (K 0) (fun j => K (j + 1) 0) s0 ++ (w_Cs g (K 8) s1 ++ (w_Mg g (K 9) s3 ++ (w_Bs g (K 5) s4 ++ (rest))))) (a0 := K 4) ho2) (cwV 1 ht (gd_V m_306 m_307 m_308 m_2 m_309) rfl rfl rfl (by decide +kernel) ⟨(Nat.le_of_ble_eq_true rfl), (Nat.le_of_ble_eq_true rfl)⟩) (prV (ci := 0) (q0 := 0) hKK hI (mv_2) rfl rfl rfl) rfl rfl hl.1 rfl (lv_room (Nat.le_of_ble_eq_true rfl)) d_Rn_takeFragment_22 ⟨(Nat.le_of_ble_eq_true rfl), (Nat.le_of_ble_eq_true rfl)⟩) hS (fun _ => ((mv_2)).symm) (fun _ H locs hI hS => ?_)
  have hI : Iw D A (w_Rn g (K 0) (fun j => K (j + 1) 0) s0 ++ (w_Cs g (K 8) s1 ++ (w_Bs g (K 4) s2 ++ (w_Mg g (K 9) s3 ++ (w_Bs g (K 5) s4 ++ (rest)))))) H := hI
  obtain ⟨o3, ho4, h⟩ := bd_s h
  refine cl_i (W1 := fun (_ : Unit) => w_Rn g (K 0) (fun j => K (j + 1) 0) s0 ++ (w_Cs g (K 8) s1 ++ (w_Bs g (K 4) s2 ++ (w_Mg g (K 9) s3 ++ (w_Bs g (K 5) s4 ++ (rest)))))) (va_runV (As := [.int o1]) (rest := []) ⟨hx, hb, hml, hown, ht⟩ (c_Cs_find (l := l) (D := D) (A := A) (g := g) (rest := w_Rn g (K 0) (fun j => K (j + 1) 0) s0 ++ (w_Bs g (K 4) s2 ++ (w_Mg g (K 9) s3 ++ (w_Bs g (K 5) s4 ++ (rest))))) (a0 := K 8) ho4) (cwV 1 ht (gd_V m_387 m_349 m_350 m_4 m_351) rfl rfl rfl (by decide +kernel) ⟨(Nat.le_of_ble_eq_true rfl), (Nat.le_of_ble_eq_true rfl)⟩) (prV (ci := 1) (q0 := 0) hKK hI (mv_1) rfl rfl rfl) rfl rfl hl.1 rfl (lv_room (Nat.le_of_ble_eq_true rfl)) d_Rn_takeFragment_25 ⟨(Nat.le_of_ble_eq_true rfl), (Nat.le_of_ble_eq_true rfl)⟩) hS (fun _ => ((mv_1)).symm) (fun _ H locs hI hS => ?_)
  have hI : Iw D A (w_Rn g (K 0) (fun j => K (j + 1) 0) s0 ++ (w_Cs g (K 8) s1 ++ (w_Bs g (K 4) s2 ++ (w_Mg g (K 9) s3 ++ (w_Bs g (K 5) s4 ++ (rest)))))) H := hI
  refine lv_istore_n hx hb d_Rn_takeFragment_28 rfl hl (Nat.le_of_ble_eq_true rfl) rfl (fun ls hl => ?_)
  have hl : lv_has ls 5 [(1, .int o3), (0, .ref (K 0 0))] := hl
  refine lv_aload_n hx hb d_Rn_takeFragment_29 rfl (lv_at hl 1 rfl) ?_
  refine va_get (D := D) (ci := 8) (v := .ref (K 4 0)) (C := R_Rn) (T := T_Rn) (N := 16) hx hb ht in_Rn hown hK hI.1 0 rfl rfl 3 (by decide) (ht _ m_206) (fun _ h9 => h9) rfl d_Rn_takeFragment_30 ?_
  refine lv_iconst (v := 3) hx hb d_Rn_takeFragment_33 (by decide) ?_
  obtain ⟨o5, ho6, h⟩ := bd_s h
  refine cl_i (W1 := fun (_ : Unit) => w_Rn g (K 0) (fun j => K (j + 1) 0) s0 ++ (w_Cs g (K 8) s1 ++ (w_Bs g (K 4) s2 ++ (w_Mg g (K 9) s3 ++ (w_Bs g (K 5) s4 ++ (rest)))))) (va_runV (As := [.int (3 : Int32)]) (rest := []) ⟨hx, hb, hml, hown, ht⟩ (c_Bs_get (l := l) (D := D) (A := A) (g := g) (rest := w_Rn g (K 0) (fun j => K (j + 1) 0) s0 ++ (w_Cs g (K 8) s1 ++ (w_Mg g (K 9) s3 ++ (w_Bs g (K 5) s4 ++ (rest))))) (a0 := K 4) ho6) (cwV 1 ht (gd_V m_306 m_307 m_308 m_2 m_309) rfl rfl rfl (by decide +kernel) ⟨(Nat.le_of_ble_eq_true rfl), (Nat.le_of_ble_eq_true rfl)⟩) (prV (ci := 0) (q0 := 0) hKK hI (mv_2) rfl rfl rfl) rfl rfl hl.1 rfl (lv_room (Nat.le_of_ble_eq_true rfl)) d_Rn_takeFragment_34 ⟨(Nat.le_of_ble_eq_true rfl), (Nat.le_of_ble_eq_true rfl)⟩) hS (fun _ => ((mv_2)).symm) (fun _ H locs hI hS => ?_)
  have hI : Iw D A (w_Rn g (K 0) (fun j => K (j + 1) 0) s0 ++ (w_Cs g (K 8) s1 ++ (w_Bs g (K 4) s2 ++ (w_Mg g (K 9) s3 ++ (w_Bs g (K 5) s4 ++ (rest)))))) H := hI
  refine lv_istore_n hx hb d_Rn_takeFragment_37 rfl hl (Nat.le_of_ble_eq_true rfl) rfl (fun ls hl => ?_)
  have hl : lv_has ls 5 [(2, .int o5), (1, .int o3), (0, .ref (K 0 0))] := hl
  refine lv_aload_n hx hb d_Rn_takeFragment_38 rfl (lv_at hl 2 rfl) ?_
  refine va_get (D := D) (ci := 8) (v := .ref (K 8 0)) (C := R_Rn) (T := T_Rn) (N := 16) hx hb ht in_Rn hown hK hI.1 0 rfl rfl 7 (by decide) (ht _ m_210) (fun _ h9 => h9) rfl d_Rn_takeFragment_39 ?_
  refine lv_iload_n hx hb d_Rn_takeFragment_42 rfl (lv_at hl 1 rfl) ?_
  obtain ⟨o7, ho8, h⟩ := bd_s h
  refine cl_i (W1 := fun (_ : Unit) => w_Rn g (K 0) (fun j => K (j + 1) 0) s0 ++ (w_Cs g (K 8) s1 ++ (w_Bs g (K 4) s2 ++ (w_Mg g (K 9) s3 ++ (w_Bs g (K 5) s4 ++ (rest)))))) (va_runV (As := [.int o3]) (rest := []) ⟨hx, hb, hml, hown, ht⟩ (c_Cs_isUsable (l := l) (D := D) (A := A) (g := g) (rest := w_Rn g (K 0) (fun j => K (j + 1) 0) s0 ++ (w_Bs g (K 4) s2 ++ (w_Mg g (K 9) s3 ++ (w_Bs g (K 5) s4 ++ (rest))))) (a0 := K 8) ho8) (cwV 1 ht (gd_V m_388 m_389 m_390 m_4 m_391) rfl rfl rfl (by decide +kernel) ⟨(Nat.le_of_ble_eq_true rfl), (Nat.le_of_ble_eq_true rfl)⟩) (prV (ci := 1) (q0 := 0) hKK hI (mv_1) rfl rfl rfl) rfl rfl hl.1 rfl (lv_room (Nat.le_of_ble_eq_true rfl)) d_Rn_takeFragment_43 ⟨(Nat.le_of_ble_eq_true rfl), (Nat.le_of_ble_eq_true rfl)⟩) hS (fun _ => ((mv_1)).symm) (fun _ H locs hI hS => ?_)
  have hI : Iw D A (w_Rn g (K 0) (fun j => K (j + 1) 0) s0 ++ (w_Cs g (K 8) s1 ++ (w_Bs g (K 4) s2 ++ (w_Mg g (K 9) s3 ++ (w_Bs g (K 5) s4 ++ (rest)))))) H := hI
  refine lv_if_eq (tgt := 54) hx hb d_Rn_takeFragment_46 (by decide) (fun hc => ?_) (fun hc => ?_)
  · have h := it_t h hc
    exact t_Rn_takeFragment_54 X (lv_sub hl [] rfl) hI hS h
  · have h := it_f h hc
    exact t_Rn_takeFragment_49 X (lv_sub hl [2, 1, 0] rfl) hI hS h
set_option maxRecDepth 100000 in
set_option maxHeartbeats 4000000 in
theorem t_Rn_takeFragment_11 {p : Program} {l : Launch} {e : Env} {s : State} {m : MethodId} {args : Array Value} {below : List Frame} {meth : Method} {c : Code} {D : va_G} {A : Nat → Prop} {g : Nat → ClassId} {rest : va_W} {K : Nat → Nat → Nat} {ls : Array Slot} {H : Heap} {locs : List Loc} {s0 : S_Rn} {s1 : S_Cs} {s2 : S_Bs} {s3 : S_Mg} {s4 : S_Bs} {out : Int32 × S_Mg × S_Bs} (X : Cx p s m args meth c prog_1_method_31_code 5 ws_Rn_takeFragment R_Rn (some .boolean) D g) (hl : lv_has ls 5 []) (hI : Iw D A (w_Rn g (K 0) (fun j => K (j + 1) 0) s0 ++ (w_Cs g (K 8) s1 ++ (w_Bs g (K 4) s2 ++ (w_Mg g (K 9) s3 ++ (w_Bs g (K 5) s4 ++ (rest)))))) H) (hS : va_S A s.heap H locs) (h : B_Rn_takeFragment_11  s0 s1 s2 s3 s4 = some out) : W p l e (headSpec ws_Rn_takeFragment { frames := 2, cells := 0, slots := 0, locals := 42 }).room s m args below meth c H locs 0 0 (MQ below (QcI D A g out.1 (fun (_ : Unit) => w_Rn g (K 0) (fun j => K (j + 1) 0) s0 ++ (w_Cs g (K 8) s1 ++ (w_Bs g (K 4) s2 ++ (w_Mg g (K 9) out.2.1 ++ (w_Bs g (K 5) out.2.2 ++ (rest))))))) args s 0 0 A) (F0 m 11 ls []) := by
  have X1 := X
  obtain ⟨hx, hb, hml, hown, hts, hr, hlocks, hKK⟩ := X1
  have ht : ∀ w ∈ TB, w.before args s = true := fun w h => hts w (List.mem_cons_of_mem _ h)
  have hK := hKK.1
  unfold B_Rn_takeFragment_11 at h
  refine lv_iconst (v := 0) hx hb d_Rn_takeFragment_11 (by decide) ?_
  have h9 := Option.some.inj h
  subst h9
  exact W.zret (v := (0 : Int32)) hx hb hr rfl (fun t ht hW => ⟨⟨_, (), rfl, rfl, ⟨by rw [ht]; exact hI, hKK.moved hW⟩⟩, hS.F ht⟩) hS.2.2 d_Rn_takeFragment_12
set_option maxRecDepth 100000 in
set_option maxHeartbeats 4000000 in
theorem t_Rn_takeFragment_0 {p : Program} {l : Launch} {e : Env} {s : State} {m : MethodId} {args : Array Value} {below : List Frame} {meth : Method} {c : Code} {D : va_G} {A : Nat → Prop} {g : Nat → ClassId} {rest : va_W} {K : Nat → Nat → Nat} {ls : Array Slot} {H : Heap} {locs : List Loc} {s0 : S_Rn} {s1 : S_Cs} {s2 : S_Bs} {s3 : S_Mg} {s4 : S_Bs} {out : Int32 × S_Mg × S_Bs} (X : Cx p s m args meth c prog_1_method_31_code 5 ws_Rn_takeFragment R_Rn (some .boolean) D g) (hl : lv_has ls 5 [(0, .ref (K 0 0))]) (hI : Iw D A (w_Rn g (K 0) (fun j => K (j + 1) 0) s0 ++ (w_Cs g (K 8) s1 ++ (w_Bs g (K 4) s2 ++ (w_Mg g (K 9) s3 ++ (w_Bs g (K 5) s4 ++ (rest)))))) H) (hS : va_S A s.heap H locs) (h : B_Rn_takeFragment_0  s0 s1 s2 s3 s4 = some out) : W p l e (headSpec ws_Rn_takeFragment { frames := 2, cells := 0, slots := 0, locals := 42 }).room s m args below meth c H locs 0 0 (MQ below (QcI D A g out.1 (fun (_ : Unit) => w_Rn g (K 0) (fun j => K (j + 1) 0) s0 ++ (w_Cs g (K 8) s1 ++ (w_Bs g (K 4) s2 ++ (w_Mg g (K 9) out.2.1 ++ (w_Bs g (K 5) out.2.2 ++ (rest))))))) args s 0 0 A) (F0 m 0 ls []) := by
  have X1 := X
  obtain ⟨hx, hb, hml, hown, hts, hr, hlocks, hKK⟩ := X1
  have ht : ∀ w ∈ TB, w.before args s = true := fun w h => hts w (List.mem_cons_of_mem _ h)
  have hK := hKK.1
  unfold B_Rn_takeFragment_0 at h
  refine lv_aload_n hx hb d_Rn_takeFragment_0 rfl (lv_at hl 0 rfl) ?_
  refine va_get (D := D) (ci := 8) (v := .ref (K 4 0)) (C := R_Rn) (T := T_Rn) (N := 16) hx hb ht in_Rn hown hK hI.1 0 rfl rfl 3 (by decide) (ht _ m_206) (fun _ h9 => h9) rfl d_Rn_takeFragment_1 ?_
  obtain ⟨o1, ho2, h⟩ := bd_s h
  refine cl_i (W1 := fun (_ : Unit) => w_Rn g (K 0) (fun j => K (j + 1) 0) s0 ++ (w_Cs g (K 8) s1 ++ (w_Bs g (K 4) s2 ++ (w_Mg g (K 9) s3 ++ (w_Bs g (K 5) s4 ++ (rest)))))) (va_runV (As := []) (rest := []) ⟨hx, hb, hml, hown, ht⟩ (c_Bs_count (l := l) (D := D) (A := A) (g := g) (rest := w_Rn g (K 0) (fun j => K (j + 1) 0) s0 ++ (w_Cs g (K 8) s1 ++ (w_Mg g (K 9) s3 ++ (w_Bs g (K 5) s4 ++ (rest))))) (a0 := K 4) ho2) (cwV 0 ht (gd_V m_302 m_303 m_304 m_2 m_305) rfl rfl rfl (by decide +kernel) ⟨(Nat.le_of_ble_eq_true rfl), (Nat.le_of_ble_eq_true rfl)⟩) (prV (ci := 0) (q0 := 0) hKK hI (mv_2) rfl rfl rfl) rfl rfl hl.1 rfl (lv_room (Nat.le_of_ble_eq_true rfl)) d_Rn_takeFragment_4 ⟨(Nat.le_of_ble_eq_true rfl), (Nat.le_of_ble_eq_true rfl)⟩) hS (fun _ => ((mv_2)).symm) (fun _ H locs hI hS => ?_)
  have hI : Iw D A (w_Rn g (K 0) (fun j => K (j + 1) 0) s0 ++ (w_Cs g (K 8) s1 ++ (w_Bs g (K 4) s2 ++ (w_Mg g (K 9) s3 ++ (w_Bs g (K 5) s4 ++ (rest)))))) H := hI
  refine lv_iconst (v := 4) hx hb d_Rn_takeFragment_7 (by decide) ?_
  refine lv_icmp_ge (tgt := 13) hx hb d_Rn_takeFragment_8 (by decide) (fun hc => ?_) (fun hc => ?_)
  · have h := it_t h hc
    exact t_Rn_takeFragment_13 X (lv_sub hl [0] rfl) hI hS h
  · have h := it_f h hc
    exact t_Rn_takeFragment_11 X (lv_sub hl [] rfl) hI hS h
set_option maxRecDepth 100000 in
set_option maxHeartbeats 4000000 in
theorem c_Rn_takeFragment {l : Launch} {D : va_G} {A : Nat → Prop} {g : Nat → ClassId} {rest : va_W} {K : Nat → Nat → Nat} {s0 : S_Rn} {s1 : S_Cs} {s2 : S_Bs} {s3 : S_Mg} {s4 : S_Bs} {out : Int32 × S_Mg × S_Bs} (h : F_Rn_takeFragment s0 s1 s2 s3 s4 = some out) : Met l y_Rn_takeFragment ws_Rn_takeFragment { frames := 2, cells := 0, slots := 0, locals := 42 } (PcW D A g [.ref (K 0 0)] (w_Rn g (K 0) (fun j => K (j + 1) 0) s0 ++ (w_Cs g (K 8) s1 ++ (w_Bs g (K 4) s2 ++ (w_Mg g (K 9) s3 ++ (w_Bs g (K 5) s4 ++ (rest))))))) (QcI D A g out.1 (fun (_ : Unit) => w_Rn g (K 0) (fun j => K (j + 1) 0) s0 ++ (w_Cs g (K 8) s1 ++ (w_Bs g (K 4) s2 ++ (w_Mg g (K 9) out.2.1 ++ (w_Bs g (K 5) out.2.2 ++ (rest))))))) 0 0 A := by
  refine Met.ofW (cc := prog_1_method_31_code) (maxL := 5) (ret := (some .boolean)) (by decide) rfl ?_
  intro p e s m args below meth c s₁ B hml hv
  obtain ⟨rfl, hI, hK⟩ := hv
  have hl := lv_entry [.ref (K 0 0)] (n := 5) (Nat.le_of_ble_eq_true rfl)
  rw [lg_entry_eq]
  generalize (lg_sl [.ref (K 0 0)] ++ List.replicate (5 - (lg_sl [.ref (K 0 0)]).length) Slot.unset).toArray = ls at hl ⊢
  have hl : lv_has ls 5 [(0, .ref (K 0 0))] := hl
  exact t_Rn_takeFragment_0 ⟨B.exec, B.bytes, hml, findClass_of_methodNamed B.named, atoms_spec (ws := ws_Rn_takeFragment) B.pre, B.returns, B.notSynchronized, hK⟩ (lv_sub hl [0] rfl) hI va_S.rf h
def ws_Rn_lookAtPiece : List Cond := .code y_Rn_lookAtPiece prog_1_method_26_code 2 none :: TB
def B_Rn_lookAtPiece_82 (s0 : S_Rn) (s1 : S_Bs) (s2 : S_Cs) (s3 : S_Bs) (s4 : S_Mg) (s5 : S_Ou) (s6 : S_Bs) : Option (S_Rn × S_Bs × S_Cs × S_Bs × S_Mg × S_Ou × S_Bs) :=
  some (s0, s1, s2, s3, s4, s5, s6)
def B_Rn_lookAtPiece_78 (s0 : S_Rn) (s1 : S_Bs) (s2 : S_Cs) (s3 : S_Bs) (s4 : S_Mg) (s5 : S_Ou) (s6 : S_Bs) : Option (S_Rn × S_Bs × S_Cs × S_Bs × S_Mg × S_Ou × S_Bs) :=
  ((F_Rn_breakOff s0 s1 s3 s4 s5 s6).bind fun o1 => (B_Rn_lookAtPiece_82 o1.1 o1.2.1 s2 o1.2.2.1 o1.2.2.2.1 o1.2.2.2.2.1 o1.2.2.2.2.2))
def B_Rn_lookAtPiece_71 (s0 : S_Rn) (s1 : S_Bs) (s2 : S_Cs) (s3 : S_Bs) (s4 : S_Mg) (s5 : S_Ou) (s6 : S_Bs) : Option (S_Rn × S_Bs × S_Cs × S_Bs × S_Mg × S_Ou × S_Bs) :=
  ((F_Rn_takeFragment s0 s2 s3 s4 s6).bind fun o1 => (if o1.1 = 0 then (B_Rn_lookAtPiece_78 s0 s1 s2 s3 o1.2.1 s5 o1.2.2) else (B_Rn_lookAtPiece_82 s0 s1 s2 s3 o1.2.1 s5 o1.2.2)))
def B_Rn_lookAtPiece_66 (s0 : S_Rn) (s1 : S_Bs) (s2 : S_Cs) (s3 : S_Bs) (s4 : S_Mg) (s5 : S_Ou) (s6 : S_Bs) (x1 : Int32) : Option (S_Rn × S_Bs × S_Cs × S_Bs × S_Mg × S_Ou × S_Bs) :=
  (if x1 = (4 : Int32) then (B_Rn_lookAtPiece_71 s0 s1 s2 s3 s4 s5 s6) else (B_Rn_lookAtPiece_78 s0 s1 s2 s3 s4 s5 s6))
def B_Rn_lookAtPiece_58 (s0 : S_Rn) (s1 : S_Bs) (s2 : S_Cs) (s3 : S_Bs) (s4 : S_Mg) (s5 : S_Ou) (s6 : S_Bs) (x1 : Int32) : Option (S_Rn × S_Bs × S_Cs × S_Bs × S_Mg × S_Ou × S_Bs) :=
  (if (Rn_phase s0) = (2 : Int32) then (B_Rn_lookAtPiece_66 s0 s1 s2 s3 s4 s5 s6 x1) else (B_Rn_lookAtPiece_82 s0 s1 s2 s3 s4 s5 s6))
def B_Rn_lookAtPiece_51 (s0 : S_Rn) (s1 : S_Bs) (s2 : S_Cs) (s3 : S_Bs) (s4 : S_Mg) (s5 : S_Ou) (s6 : S_Bs) : Option (S_Rn × S_Bs × S_Cs × S_Bs × S_Mg × S_Ou × S_Bs) :=
  ((F_Rn_release s0 s1 s3 s4 s5 s6).bind fun o1 => (B_Rn_lookAtPiece_82 o1.1 o1.2.1 s2 o1.2.2.1 o1.2.2.2.1 o1.2.2.2.2.1 o1.2.2.2.2.2))
def B_Rn_lookAtPiece_46 (s0 : S_Rn) (s1 : S_Bs) (s2 : S_Cs) (s3 : S_Bs) (s4 : S_Mg) (s5 : S_Ou) (s6 : S_Bs) (x1 : Int32) : Option (S_Rn × S_Bs × S_Cs × S_Bs × S_Mg × S_Ou × S_Bs) :=
  (if x1 = (5 : Int32) then (B_Rn_lookAtPiece_51 s0 s1 s2 s3 s4 s5 s6) else (B_Rn_lookAtPiece_58 s0 s1 s2 s3 s4 s5 s6 x1))
def B_Rn_lookAtPiece_38 (s0 : S_Rn) (s1 : S_Bs) (s2 : S_Cs) (s3 : S_Bs) (s4 : S_Mg) (s5 : S_Ou) (s6 : S_Bs) (x1 : Int32) : Option (S_Rn × S_Bs × S_Cs × S_Bs × S_Mg × S_Ou × S_Bs) :=
  (if (Rn_phase s0) = (2 : Int32) then (B_Rn_lookAtPiece_46 s0 s1 s2 s3 s4 s5 s6 x1) else (B_Rn_lookAtPiece_58 s0 s1 s2 s3 s4 s5 s6 x1))
def B_Rn_lookAtPiece_30 (s0 : S_Rn) (s1 : S_Bs) (s2 : S_Cs) (s3 : S_Bs) (s4 : S_Mg) (s5 : S_Ou) (s6 : S_Bs) (x1 : Int32) : Option (S_Rn × S_Bs × S_Cs × S_Bs × S_Mg × S_Ou × S_Bs) :=
  ((F_Rn_lookAtRequest s0 s1 s2 s3 s4 s5 s6 x1).bind fun o1 => (B_Rn_lookAtPiece_82 o1.1 o1.2.1 o1.2.2.1 o1.2.2.2.1 o1.2.2.2.2.1 o1.2.2.2.2.2.1 o1.2.2.2.2.2.2))
def B_Rn_lookAtPiece_22 (s0 : S_Rn) (s1 : S_Bs) (s2 : S_Cs) (s3 : S_Bs) (s4 : S_Mg) (s5 : S_Ou) (s6 : S_Bs) (x1 : Int32) : Option (S_Rn × S_Bs × S_Cs × S_Bs × S_Mg × S_Ou × S_Bs) :=
  (if (Rn_phase s0) = (1 : Int32) then (B_Rn_lookAtPiece_30 s0 s1 s2 s3 s4 s5 s6 x1) else (B_Rn_lookAtPiece_38 s0 s1 s2 s3 s4 s5 s6 x1))
def B_Rn_lookAtPiece_15 (s0 : S_Rn) (s1 : S_Bs) (s2 : S_Cs) (s3 : S_Bs) (s4 : S_Mg) (s5 : S_Ou) (s6 : S_Bs) : Option (S_Rn × S_Bs × S_Cs × S_Bs × S_Mg × S_Ou × S_Bs) :=
  ((F_Rn_shut s0 s3 s4 s6).bind fun o1 => (B_Rn_lookAtPiece_82 o1.1 s1 s2 o1.2.1 o1.2.2.1 s5 o1.2.2.2))
def B_Rn_lookAtPiece_0 (s0 : S_Rn) (s1 : S_Bs) (s2 : S_Cs) (s3 : S_Bs) (s4 : S_Mg) (s5 : S_Ou) (s6 : S_Bs) : Option (S_Rn × S_Bs × S_Cs × S_Bs × S_Mg × S_Ou × S_Bs) :=
  ((F_Bs_get s3 (0 : Int32)).bind fun o1 => (if o1 = (7 : Int32) then (B_Rn_lookAtPiece_15 s0 s1 s2 s3 s4 s5 s6) else (B_Rn_lookAtPiece_22 s0 s1 s2 s3 s4 s5 s6 o1)))
def F_Rn_lookAtPiece (s0 : S_Rn) (s1 : S_Bs) (s2 : S_Cs) (s3 : S_Bs) (s4 : S_Mg) (s5 : S_Ou) (s6 : S_Bs) : Option (S_Rn × S_Bs × S_Cs × S_Bs × S_Mg × S_Ou × S_Bs) := B_Rn_lookAtPiece_0 s0 s1 s2 s3 s4 s5 s6
set_option maxRecDepth 100000 in
set_option maxHeartbeats 4000000 in
theorem t_Rn_lookAtPiece_82 {p : Program} {l : Launch} {e : Env} {s : State} {m : MethodId} {args : Array Value} {below : List Frame} {meth : Method} {c : Code} {D : va_G} {A : Nat → Prop} {g : Nat → ClassId} {rest : va_W} {K : Nat → Nat → Nat} {ls : Array Slot} {H : Heap} {locs : List Loc} {s0 : S_Rn} {s1 : S_Bs} {s2 : S_Cs} {s3 : S_Bs} {s4 : S_Mg} {s5 : S_Ou} {s6 : S_Bs} {out : S_Rn × S_Bs × S_Cs × S_Bs × S_Mg × S_Ou × S_Bs} (X : Cx p s m args meth c prog_1_method_26_code 2 ws_Rn_lookAtPiece R_Rn none D g) (hl : lv_has ls 2 []) (hI : Iw D A (w_Rn g (K 0) (fun j => K (j + 1) 0) s0 ++ (w_Bs g (K 6) s1 ++ (w_Cs g (K 8) s2 ++ (w_Bs g (K 4) s3 ++ (w_Mg g (K 9) s4 ++ (w_Ou g (K 7) s5 ++ (w_Bs g (K 5) s6 ++ (rest)))))))) H) (hS : va_S A s.heap H locs) (h : B_Rn_lookAtPiece_82  s0 s1 s2 s3 s4 s5 s6 = some out) : W p l e (headSpec ws_Rn_lookAtPiece { frames := 5, cells := 0, slots := 0, locals := 105 }).room s m args below meth c H locs 0 0 (MQ below (QcV D A g (fun (_ : Unit) => w_Rn g (K 0) (fun j => K (j + 1) 0) out.1 ++ (w_Bs g (K 6) out.2.1 ++ (w_Cs g (K 8) out.2.2.1 ++ (w_Bs g (K 4) out.2.2.2.1 ++ (w_Mg g (K 9) out.2.2.2.2.1 ++ (w_Ou g (K 7) out.2.2.2.2.2.1 ++ (w_Bs g (K 5) out.2.2.2.2.2.2 ++ (rest))))))))) args s 0 0 A) (F0 m 82 ls []) := by
  have X1 := X
  obtain ⟨hx, hb, hml, hown, hts, hr, hlocks, hKK⟩ := X1
  have ht : ∀ w ∈ TB, w.before args s = true := fun w h => hts w (List.mem_cons_of_mem _ h)
  have hK := hKK.1
  unfold B_Rn_lookAtPiece_82 at h
  have h9 := Option.some.inj h
  subst h9
  exact W.vret hx hb hr (fun t ht hW => ⟨⟨(), rfl, trivial, ⟨by rw [ht]; exact hI, hKK.moved hW⟩⟩, hS.F ht⟩) hS.2.2 d_Rn_lookAtPiece_82
set_option maxRecDepth 100000 in
set_option maxHeartbeats 4000000 in
theorem t_Rn_lookAtPiece_78 {p : Program} {l : Launch} {e : Env} {s : State} {m : MethodId} {args : Array Value} {below : List Frame} {meth : Method} {c : Code} {D : va_G} {A : Nat → Prop} {g : Nat → ClassId} {rest : va_W} {K : Nat → Nat → Nat} {ls : Array Slot} {H : Heap} {locs : List Loc} {s0 : S_Rn} {s1 : S_Bs} {s2 : S_Cs} {s3 : S_Bs} {s4 : S_Mg} {s5 : S_Ou} {s6 : S_Bs} {out : S_Rn × S_Bs × S_Cs × S_Bs × S_Mg × S_Ou × S_Bs} (X : Cx p s m args meth c prog_1_method_26_code 2 ws_Rn_lookAtPiece R_Rn none D g) (hl : lv_has ls 2 [(0, .ref (K 0 0))]) (hI : Iw D A (w_Rn g (K 0) (fun j => K (j + 1) 0) s0 ++ (w_Bs g (K 6) s1 ++ (w_Cs g (K 8) s2 ++ (w_Bs g (K 4) s3 ++ (w_Mg g (K 9) s4 ++ (w_Ou g (K 7) s5 ++ (w_Bs g (K 5) s6 ++ (rest)))))))) H) (hS : va_S A s.heap H locs) (h : B_Rn_lookAtPiece_78  s0 s1 s2 s3 s4 s5 s6 = some out) : W p l e (headSpec ws_Rn_lookAtPiece { frames := 5, cells := 0, slots := 0, locals := 105 }).room s m args below meth c H locs 0 0 (MQ below (QcV D A g (fun (_ : Unit) => w_Rn g (K 0) (fun j => K (j + 1) 0) out.1 ++ (w_Bs g (K 6) out.2.1 ++ (w_Cs g (K 8) out.2.2.1 ++ (w_Bs g (K 4) out.2.2.2.1 ++ (w_Mg g (K 9) out.2.2.2.2.1 ++ (w_Ou g (K 7) out.2.2.2.2.2.1 ++ (w_Bs g (K 5) out.2.2.2.2.2.2 ++ (rest))))))))) args s 0 0 A) (F0 m 78 ls []) := by
  have X1 := X
  obtain ⟨hx, hb, hml, hown, hts, hr, hlocks, hKK⟩ := X1
  have ht : ∀ w ∈ TB, w.before args s = true := fun w h => hts w (List.mem_cons_of_mem _ h)
  have hK := hKK.1
  unfold B_Rn_lookAtPiece_78 at h
  refine lv_aload_n hx hb d_Rn_lookAtPiece_78 rfl (lv_at hl 0 rfl) ?_
  obtain ⟨o1, ho2, h⟩ := bd_s h
  refine cl_v (W1 := fun (_ : Unit) => w_Rn g (K 0) (fun j => K (j + 1) 0) o1.1 ++ (w_Bs g (K 6) o1.2.1 ++ (w_Cs g (K 8) s2 ++ (w_Bs g (K 4) o1.2.2.1 ++ (w_Mg g (K 9) o1.2.2.2.1 ++ (w_Ou g (K 7) o1.2.2.2.2.1 ++ (w_Bs g (K 5) o1.2.2.2.2.2 ++ (rest)))))))) (va_runV (As := []) (rest := []) ⟨hx, hb, hml, hown, ht⟩ (c_Rn_breakOff (l := l) (D := D) (A := A) (g := g) (rest := w_Cs g (K 8) s2 ++ (rest)) (K := K) ho2) (cwV 0 ht (gd_V m_318 m_320 mp_4 m_1 m_321) rfl rfl rfl (by decide +kernel) ⟨(Nat.le_of_ble_eq_true rfl), (Nat.le_of_ble_eq_true rfl)⟩) (prV (ci := 8) (q0 := 0) hKK hI ((mv_6).trans ((mv_6).trans ((mv_6).trans ((mv_6).trans ((mv_5).trans (mv_5)))))) rfl rfl rfl) rfl rfl hl.1 rfl (lv_room (Nat.le_of_ble_eq_true rfl)) d_Rn_lookAtPiece_79 ⟨(Nat.le_of_ble_eq_true rfl), (Nat.le_of_ble_eq_true rfl)⟩) hS (fun _ => (((mv_6).trans ((mv_6).trans ((mv_6).trans ((mv_6).trans ((mv_5).trans (mv_5))))))).symm) (fun _ H locs hI hS => ?_)
  have hI : Iw D A (w_Rn g (K 0) (fun j => K (j + 1) 0) o1.1 ++ (w_Bs g (K 6) o1.2.1 ++ (w_Cs g (K 8) s2 ++ (w_Bs g (K 4) o1.2.2.1 ++ (w_Mg g (K 9) o1.2.2.2.1 ++ (w_Ou g (K 7) o1.2.2.2.2.1 ++ (w_Bs g (K 5) o1.2.2.2.2.2 ++ (rest)))))))) H := hI
  exact t_Rn_lookAtPiece_82 X (lv_sub hl [] rfl) hI hS h
set_option maxRecDepth 100000 in
set_option maxHeartbeats 4000000 in
theorem t_Rn_lookAtPiece_71 {p : Program} {l : Launch} {e : Env} {s : State} {m : MethodId} {args : Array Value} {below : List Frame} {meth : Method} {c : Code} {D : va_G} {A : Nat → Prop} {g : Nat → ClassId} {rest : va_W} {K : Nat → Nat → Nat} {ls : Array Slot} {H : Heap} {locs : List Loc} {s0 : S_Rn} {s1 : S_Bs} {s2 : S_Cs} {s3 : S_Bs} {s4 : S_Mg} {s5 : S_Ou} {s6 : S_Bs} {out : S_Rn × S_Bs × S_Cs × S_Bs × S_Mg × S_Ou × S_Bs} (X : Cx p s m args meth c prog_1_method_26_code 2 ws_Rn_lookAtPiece R_Rn none D g) (hl : lv_has ls 2 [(0, .ref (K 0 0))]) (hI : Iw D A (w_Rn g (K 0) (fun j => K (j + 1) 0) s0 ++ (w_Bs g (K 6) s1 ++ (w_Cs g (K 8) s2 ++ (w_Bs g (K 4) s3 ++ (w_Mg g (K 9) s4 ++ (w_Ou g (K 7) s5 ++ (w_Bs g (K 5) s6 ++ (rest)))))))) H) (hS : va_S A s.heap H locs) (h : B_Rn_lookAtPiece_71  s0 s1 s2 s3 s4 s5 s6 = some out) : W p l e (headSpec ws_Rn_lookAtPiece { frames := 5, cells := 0, slots := 0, locals := 105 }).room s m args below meth c H locs 0 0 (MQ below (QcV D A g (fun (_ : Unit) => w_Rn g (K 0) (fun j => K (j + 1) 0) out.1 ++ (w_Bs g (K 6) out.2.1 ++ (w_Cs g (K 8) out.2.2.1 ++ (w_Bs g (K 4) out.2.2.2.1 ++ (w_Mg g (K 9) out.2.2.2.2.1 ++ (w_Ou g (K 7) out.2.2.2.2.2.1 ++ (w_Bs g (K 5) out.2.2.2.2.2.2 ++ (rest))))))))) args s 0 0 A) (F0 m 71 ls []) := by
  have X1 := X
  obtain ⟨hx, hb, hml, hown, hts, hr, hlocks, hKK⟩ := X1
  have ht : ∀ w ∈ TB, w.before args s = true := fun w h => hts w (List.mem_cons_of_mem _ h)
  have hK := hKK.1
  unfold B_Rn_lookAtPiece_71 at h
  refine lv_aload_n hx hb d_Rn_lookAtPiece_71 rfl (lv_at hl 0 rfl) ?_
  obtain ⟨o1, ho2, h⟩ := bd_s h
  refine cl_i (W1 := fun (_ : Unit) => w_Rn g (K 0) (fun j => K (j + 1) 0) s0 ++ (w_Bs g (K 6) s1 ++ (w_Cs g (K 8) s2 ++ (w_Bs g (K 4) s3 ++ (w_Mg g (K 9) o1.2.1 ++ (w_Ou g (K 7) s5 ++ (w_Bs g (K 5) o1.2.2 ++ (rest)))))))) (va_runV (As := []) (rest := []) ⟨hx, hb, hml, hown, ht⟩ (c_Rn_takeFragment (l := l) (D := D) (A := A) (g := g) (rest := w_Bs g (K 6) s1 ++ (w_Ou g (K 7) s5 ++ (rest))) (K := K) ho2) (cwV 0 ht (gd_V m_383 m_385 mp_12 m_1 m_386) rfl rfl rfl (by decide +kernel) ⟨(Nat.le_of_ble_eq_true rfl), (Nat.le_of_ble_eq_true rfl)⟩) (prV (ci := 8) (q0 := 0) hKK hI ((mv_6).trans ((mv_5).trans ((mv_5).trans ((mv_5).trans (mv_4))))) rfl rfl rfl) rfl rfl hl.1 rfl (lv_room (Nat.le_of_ble_eq_true rfl)) d_Rn_lookAtPiece_72 ⟨(Nat.le_of_ble_eq_true rfl), (Nat.le_of_ble_eq_true rfl)⟩) hS (fun _ => (((mv_6).trans ((mv_5).trans ((mv_5).trans ((mv_5).trans (mv_4)))))).symm) (fun _ H locs hI hS => ?_)
  have hI : Iw D A (w_Rn g (K 0) (fun j => K (j + 1) 0) s0 ++ (w_Bs g (K 6) s1 ++ (w_Cs g (K 8) s2 ++ (w_Bs g (K 4) s3 ++ (w_Mg g (K 9) o1.2.1 ++ (w_Ou g (K 7) s5 ++ (w_Bs g (K 5) o1.2.2 ++ (rest)))))))) H := hI
  refine lv_if_ne (tgt := 82) hx hb d_Rn_lookAtPiece_75 (by decide) (fun hc => ?_) (fun hc => ?_)
  · have h := it_f h hc
    exact t_Rn_lookAtPiece_82 X (lv_sub hl [] rfl) hI hS h
  · have h := it_t h hc
    exact t_Rn_lookAtPiece_78 X (lv_sub hl [0] rfl) hI hS h
set_option maxRecDepth 100000 in
set_option maxHeartbeats 4000000 in
theorem t_Rn_lookAtPiece_66 {p : Program} {l : Launch} {e : Env} {s : State} {m : MethodId} {args : Array Value} {below : List Frame} {meth : Method} {c : Code} {D : va_G} {A : Nat → Prop} {g : Nat → ClassId} {rest : va_W} {K : Nat → Nat → Nat} {ls : Array Slot} {H : Heap} {locs : List Loc} {s0 : S_Rn} {s1 : S_Bs} {s2 : S_Cs} {s3 : S_Bs} {s4 : S_Mg} {s5 : S_Ou} {s6 : S_Bs} {x1 : Int32} {out : S_Rn × S_Bs × S_Cs × S_Bs × S_Mg × S_Ou × S_Bs} (X : Cx p s m args meth c prog_1_method_26_code 2 ws_Rn_lookAtPiece R_Rn none D g) (hl : lv_has ls 2 [(0, .ref (K 0 0)), (1, .int x1)]) (hI : Iw D A (w_Rn g (K 0) (fun j => K (j + 1) 0) s0 ++ (w_Bs g (K 6) s1 ++ (w_Cs g (K 8) s2 ++ (w_Bs g (K 4) s3 ++ (w_Mg g (K 9) s4 ++ (w_Ou g (K 7) s5 ++ (w_Bs g (K 5) s6 ++ (rest)))))))) H) (hS : va_S A s.heap H locs) (h : B_Rn_lookAtPiece_66  s0 s1 s2 s3 s4 s5 s6 x1 = some out) : W p l e (headSpec ws_Rn_lookAtPiece { frames := 5, cells := 0, slots := 0, locals := 105 }).room s m args below meth c H locs 0 0 (MQ below (QcV D A g (fun (_ : Unit) => w_Rn g (K 0) (fun j => K (j + 1) 0) out.1 ++ (w_Bs g (K 6) out.2.1 ++ (w_Cs g (K 8) out.2.2.1 ++ (w_Bs g (K 4) out.2.2.2.1 ++ (w_Mg g (K 9) out.2.2.2.2.1 ++ (w_Ou g (K 7) out.2.2.2.2.2.1 ++ (w_Bs g (K 5) out.2.2.2.2.2.2 ++ (rest))))))))) args s 0 0 A) (F0 m 66 ls []) := by
  have X1 := X
  obtain ⟨hx, hb, hml, hown, hts, hr, hlocks, hKK⟩ := X1
  have ht : ∀ w ∈ TB, w.before args s = true := fun w h => hts w (List.mem_cons_of_mem _ h)
  have hK := hKK.1
  unfold B_Rn_lookAtPiece_66 at h
  refine lv_iload_n hx hb d_Rn_lookAtPiece_66 rfl (lv_at hl 1 rfl) ?_
  refine lv_iconst (v := 4) hx hb d_Rn_lookAtPiece_67 (by decide) ?_
  refine lv_icmp_ne (tgt := 78) hx hb d_Rn_lookAtPiece_68 (by decide) (fun hc => ?_) (fun hc => ?_)
  · have h := it_f h hc
    exact t_Rn_lookAtPiece_78 X (lv_sub hl [0] rfl) hI hS h
  · have h := it_t h hc
    exact t_Rn_lookAtPiece_71 X (lv_sub hl [0] rfl) hI hS h
set_option maxRecDepth 100000 in
set_option maxHeartbeats 4000000 in
theorem t_Rn_lookAtPiece_58 {p : Program} {l : Launch} {e : Env} {s : State} {m : MethodId} {args : Array Value} {below : List Frame} {meth : Method} {c : Code} {D : va_G} {A : Nat → Prop} {g : Nat → ClassId} {rest : va_W} {K : Nat → Nat → Nat} {ls : Array Slot} {H : Heap} {locs : List Loc} {s0 : S_Rn} {s1 : S_Bs} {s2 : S_Cs} {s3 : S_Bs} {s4 : S_Mg} {s5 : S_Ou} {s6 : S_Bs} {x1 : Int32} {out : S_Rn × S_Bs × S_Cs × S_Bs × S_Mg × S_Ou × S_Bs} (X : Cx p s m args meth c prog_1_method_26_code 2 ws_Rn_lookAtPiece R_Rn none D g) (hl : lv_has ls 2 [(0, .ref (K 0 0)), (1, .int x1)]) (hI : Iw D A (w_Rn g (K 0) (fun j => K (j + 1) 0) s0 ++ (w_Bs g (K 6) s1 ++ (w_Cs g (K 8) s2 ++ (w_Bs g (K 4) s3 ++ (w_Mg g (K 9) s4 ++ (w_Ou g (K 7) s5 ++ (w_Bs g (K 5) s6 ++ (rest)))))))) H) (hS : va_S A s.heap H locs) (h : B_Rn_lookAtPiece_58  s0 s1 s2 s3 s4 s5 s6 x1 = some out) : W p l e (headSpec ws_Rn_lookAtPiece { frames := 5, cells := 0, slots := 0, locals := 105 }).room s m args below meth c H locs 0 0 (MQ below (QcV D A g (fun (_ : Unit) => w_Rn g (K 0) (fun j => K (j + 1) 0) out.1 ++ (w_Bs g (K 6) out.2.1 ++ (w_Cs g (K 8) out.2.2.1 ++ (w_Bs g (K 4) out.2.2.2.1 ++ (w_Mg g (K 9) out.2.2.2.2.1 ++ (w_Ou g (K 7) out.2.2.2.2.2.1 ++ (w_Bs g (K 5) out.2.2.2.2.2.2 ++ (rest))))))))) args s 0 0 A) (F0 m 58 ls []) := by
  have X1 := X
  obtain ⟨hx, hb, hml, hown, hts, hr, hlocks, hKK⟩ := X1
  have ht : ∀ w ∈ TB, w.before args s = true := fun w h => hts w (List.mem_cons_of_mem _ h)
  have hK := hKK.1
  unfold B_Rn_lookAtPiece_58 at h
  refine lv_aload_n hx hb d_Rn_lookAtPiece_58 rfl (lv_at hl 0 rfl) ?_
  refine va_get (D := D) (ci := 8) (v := .int (Rn_phase s0)) (C := R_Rn) (T := T_Rn) (N := 16) hx hb ht in_Rn hown hK hI.1 0 rfl rfl 13 (by decide) (ht _ m_216) (fun _ h9 => h9) rfl d_Rn_lookAtPiece_59 ?_
  refine lv_iconst (v := 2) hx hb d_Rn_lookAtPiece_62 (by decide) ?_
  refine lv_icmp_ne (tgt := 82) hx hb d_Rn_lookAtPiece_63 (by decide) (fun hc => ?_) (fun hc => ?_)
  · have h := it_f h hc
    exact t_Rn_lookAtPiece_82 X (lv_sub hl [] rfl) hI hS h
  · have h := it_t h hc
    exact t_Rn_lookAtPiece_66 X (lv_sub hl [0, 1] rfl) hI hS h
set_option maxRecDepth 100000 in
set_option maxHeartbeats 4000000 in
theorem t_Rn_lookAtPiece_51 {p : Program} {l : Launch} {e : Env} {s : State} {m : MethodId} {args : Array Value} {below : List Frame} {meth : Method} {c : Code} {D : va_G} {A : Nat → Prop} {g : Nat → ClassId} {rest : va_W} {K : Nat → Nat → Nat} {ls : Array Slot} {H : Heap} {locs : List Loc} {s0 : S_Rn} {s1 : S_Bs} {s2 : S_Cs} {s3 : S_Bs} {s4 : S_Mg} {s5 : S_Ou} {s6 : S_Bs} {out : S_Rn × S_Bs × S_Cs × S_Bs × S_Mg × S_Ou × S_Bs} (X : Cx p s m args meth c prog_1_method_26_code 2 ws_Rn_lookAtPiece R_Rn none D g) (hl : lv_has ls 2 [(0, .ref (K 0 0))]) (hI : Iw D A (w_Rn g (K 0) (fun j => K (j + 1) 0) s0 ++ (w_Bs g (K 6) s1 ++ (w_Cs g (K 8) s2 ++ (w_Bs g (K 4) s3 ++ (w_Mg g (K 9) s4 ++ (w_Ou g (K 7) s5 ++ (w_Bs g (K 5) s6 ++ (rest)))))))) H) (hS : va_S A s.heap H locs) (h : B_Rn_lookAtPiece_51  s0 s1 s2 s3 s4 s5 s6 = some out) : W p l e (headSpec ws_Rn_lookAtPiece { frames := 5, cells := 0, slots := 0, locals := 105 }).room s m args below meth c H locs 0 0 (MQ below (QcV D A g (fun (_ : Unit) => w_Rn g (K 0) (fun j => K (j + 1) 0) out.1 ++ (w_Bs g (K 6) out.2.1 ++ (w_Cs g (K 8) out.2.2.1 ++ (w_Bs g (K 4) out.2.2.2.1 ++ (w_Mg g (K 9) out.2.2.2.2.1 ++ (w_Ou g (K 7) out.2.2.2.2.2.1 ++ (w_Bs g (K 5) out.2.2.2.2.2.2 ++ (rest))))))))) args s 0 0 A) (F0 m 51 ls []) := by
  have X1 := X
  obtain ⟨hx, hb, hml, hown, hts, hr, hlocks, hKK⟩ := X1
  have ht : ∀ w ∈ TB, w.before args s = true := fun w h => hts w (List.mem_cons_of_mem _ h)
  have hK := hKK.1
  unfold B_Rn_lookAtPiece_51 at h
  refine lv_aload_n hx hb d_Rn_lookAtPiece_51 rfl (lv_at hl 0 rfl) ?_
  obtain ⟨o1, ho2, h⟩ := bd_s h
  refine cl_v (W1 := fun (_ : Unit) => w_Rn g (K 0) (fun j => K (j + 1) 0) o1.1 ++ (w_Bs g (K 6) o1.2.1 ++ (w_Cs g (K 8) s2 ++ (w_Bs g (K 4) o1.2.2.1 ++ (w_Mg g (K 9) o1.2.2.2.1 ++ (w_Ou g (K 7) o1.2.2.2.2.1 ++ (w_Bs g (K 5) o1.2.2.2.2.2 ++ (rest)))))))) (va_runV (As := []) (rest := []) ⟨hx, hb, hml, hown, ht⟩ (c_Rn_release (l := l) (D := D) (A := A) (g := g) (rest := w_Cs g (K 8) s2 ++ (rest)) (K := K) ho2) (cwV 0 ht (gd_V m_379 m_381 mp_11 m_1 m_382) rfl rfl rfl (by decide +kernel) ⟨(Nat.le_of_ble_eq_true rfl), (Nat.le_of_ble_eq_true rfl)⟩) (prV (ci := 8) (q0 := 0) hKK hI ((mv_6).trans ((mv_6).trans ((mv_6).trans ((mv_6).trans ((mv_5).trans (mv_5)))))) rfl rfl rfl) rfl rfl hl.1 rfl (lv_room (Nat.le_of_ble_eq_true rfl)) d_Rn_lookAtPiece_52 ⟨(Nat.le_of_ble_eq_true rfl), (Nat.le_of_ble_eq_true rfl)⟩) hS (fun _ => (((mv_6).trans ((mv_6).trans ((mv_6).trans ((mv_6).trans ((mv_5).trans (mv_5))))))).symm) (fun _ H locs hI hS => ?_)
  have hI : Iw D A (w_Rn g (K 0) (fun j => K (j + 1) 0) o1.1 ++ (w_Bs g (K 6) o1.2.1 ++ (w_Cs g (K 8) s2 ++ (w_Bs g (K 4) o1.2.2.1 ++ (w_Mg g (K 9) o1.2.2.2.1 ++ (w_Ou g (K 7) o1.2.2.2.2.1 ++ (w_Bs g (K 5) o1.2.2.2.2.2 ++ (rest)))))))) H := hI
  refine lv_goto (tgt := 82) hx hb d_Rn_lookAtPiece_55 (by decide) ?_
  exact t_Rn_lookAtPiece_82 X (lv_sub hl [] rfl) hI hS h
set_option maxRecDepth 100000 in
set_option maxHeartbeats 4000000 in
theorem t_Rn_lookAtPiece_46 {p : Program} {l : Launch} {e : Env} {s : State} {m : MethodId} {args : Array Value} {below : List Frame} {meth : Method} {c : Code} {D : va_G} {A : Nat → Prop} {g : Nat → ClassId} {rest : va_W} {K : Nat → Nat → Nat} {ls : Array Slot} {H : Heap} {locs : List Loc} {s0 : S_Rn} {s1 : S_Bs} {s2 : S_Cs} {s3 : S_Bs} {s4 : S_Mg} {s5 : S_Ou} {s6 : S_Bs} {x1 : Int32} {out : S_Rn × S_Bs × S_Cs × S_Bs × S_Mg × S_Ou × S_Bs} (X : Cx p s m args meth c prog_1_method_26_code 2 ws_Rn_lookAtPiece R_Rn none D g) (hl : lv_has ls 2 [(0, .ref (K 0 0)), (1, .int x1)]) (hI : Iw D A (w_Rn g (K 0) (fun j => K (j + 1) 0) s0 ++ (w_Bs g (K 6) s1 ++ (w_Cs g (K 8) s2 ++ (w_Bs g (K 4) s3 ++ (w_Mg g (K 9) s4 ++ (w_Ou g (K 7) s5 ++ (w_Bs g (K 5) s6 ++ (rest)))))))) H) (hS : va_S A s.heap H locs) (h : B_Rn_lookAtPiece_46  s0 s1 s2 s3 s4 s5 s6 x1 = some out) : W p l e (headSpec ws_Rn_lookAtPiece { frames := 5, cells := 0, slots := 0, locals := 105 }).room s m args below meth c H locs 0 0 (MQ below (QcV D A g (fun (_ : Unit) => w_Rn g (K 0) (fun j => K (j + 1) 0) out.1 ++ (w_Bs g (K 6) out.2.1 ++ (w_Cs g (K 8) out.2.2.1 ++ (w_Bs g (K 4) out.2.2.2.1 ++ (w_Mg g (K 9) out.2.2.2.2.1 ++ (w_Ou g (K 7) out.2.2.2.2.2.1 ++ (w_Bs g (K 5) out.2.2.2.2.2.2 ++ (rest))))))))) args s 0 0 A) (F0 m 46 ls []) := by
  have X1 := X
  obtain ⟨hx, hb, hml, hown, hts, hr, hlocks, hKK⟩ := X1
  have ht : ∀ w ∈ TB, w.before args s = true := fun w h => hts w (List.mem_cons_of_mem _ h)
  have hK := hKK.1
  unfold B_Rn_lookAtPiece_46 at h
  refine lv_iload_n hx hb d_Rn_lookAtPiece_46 rfl (lv_at hl 1 rfl) ?_
  refine lv_iconst (v := 5) hx hb d_Rn_lookAtPiece_47 (by decide) ?_
  refine lv_icmp_ne (tgt := 58) hx hb d_Rn_lookAtPiece_48 (by decide) (fun hc => ?_) (fun hc => ?_)
  · have h := it_f h hc
    exact t_Rn_lookAtPiece_58 X (lv_sub hl [0, 1] rfl) hI hS h
  · have h := it_t h hc
    exact t_Rn_lookAtPiece_51 X (lv_sub hl [0] rfl) hI hS h
set_option maxRecDepth 100000 in
set_option maxHeartbeats 4000000 in
theorem t_Rn_lookAtPiece_38 {p : Program} {l : Launch} {e : Env} {s : State} {m : MethodId} {args : Array Value} {below : List Frame} {meth : Method} {c : Code} {D : va_G} {A : Nat → Prop} {g : Nat → ClassId} {rest : va_W} {K : Nat → Nat → Nat} {ls : Array Slot} {H : Heap} {locs : List Loc} {s0 : S_Rn} {s1 : S_Bs} {s2 : S_Cs} {s3 : S_Bs} {s4 : S_Mg} {s5 : S_Ou} {s6 : S_Bs} {x1 : Int32} {out : S_Rn × S_Bs × S_Cs × S_Bs × S_Mg × S_Ou × S_Bs} (X : Cx p s m args meth c prog_1_method_26_code 2 ws_Rn_lookAtPiece R_Rn none D g) (hl : lv_has ls 2 [(0, .ref (K 0 0)), (1, .int x1)]) (hI : Iw D A (w_Rn g (K 0) (fun j => K (j + 1) 0) s0 ++ (w_Bs g (K 6) s1 ++ (w_Cs g (K 8) s2 ++ (w_Bs g (K 4) s3 ++ (w_Mg g (K 9) s4 ++ (w_Ou g (K 7) s5 ++ (w_Bs g (K 5) s6 ++ (rest)))))))) H) (hS : va_S A s.heap H locs) (h : B_Rn_lookAtPiece_38  s0 s1 s2 s3 s4 s5 s6 x1 = some out) : W p l e (headSpec ws_Rn_lookAtPiece { frames := 5, cells := 0, slots := 0, locals := 105 }).room s m args below meth c H locs 0 0 (MQ below (QcV D A g (fun (_ : Unit) => w_Rn g (K 0) (fun j => K (j + 1) 0) out.1 ++ (w_Bs g (K 6) out.2.1 ++ (w_Cs g (K 8) out.2.2.1 ++ (w_Bs g (K 4) out.2.2.2.1 ++ (w_Mg g (K 9) out.2.2.2.2.1 ++ (w_Ou g (K 7) out.2.2.2.2.2.1 ++ (w_Bs g (K 5) out.2.2.2.2.2.2 ++ (rest))))))))) args s 0 0 A) (F0 m 38 ls []) := by
  have X1 := X
  obtain ⟨hx, hb, hml, hown, hts, hr, hlocks, hKK⟩ := X1
  have ht : ∀ w ∈ TB, w.before args s = true := fun w h => hts w (List.mem_cons_of_mem _ h)
  have hK := hKK.1
  unfold B_Rn_lookAtPiece_38 at h
  refine lv_aload_n hx hb d_Rn_lookAtPiece_38 rfl (lv_at hl 0 rfl) ?_
  refine va_get (D := D) (ci := 8) (v := .int (Rn_phase s0)) (C := R_Rn) (T := T_Rn) (N := 16) hx hb ht in_Rn hown hK hI.1 0 rfl rfl 13 (by decide) (ht _ m_216) (fun _ h9 => h9) rfl d_Rn_lookAtPiece_39 ?_
  refine lv_iconst (v := 2) hx hb d_Rn_lookAtPiece_42 (by decide) ?_
  refine lv_icmp_ne (tgt := 58) hx hb d_Rn_lookAtPiece_43 (by decide) (fun hc => ?_) (fun hc => ?_)
  · have h := it_f h hc
    exact t_Rn_lookAtPiece_58 X (lv_sub hl [0, 1] rfl) hI hS h
  · have h := it_t h hc
    exact t_Rn_lookAtPiece_46 X (lv_sub hl [0, 1] rfl) hI hS h
set_option maxRecDepth 100000 in
set_option maxHeartbeats 4000000 in
theorem t_Rn_lookAtPiece_30 {p : Program} {l : Launch} {e : Env} {s : State} {m : MethodId} {args : Array Value} {below : List Frame} {meth : Method} {c : Code} {D : va_G} {A : Nat → Prop} {g : Nat → ClassId} {rest : va_W} {K : Nat → Nat → Nat} {ls : Array Slot} {H : Heap} {locs : List Loc} {s0 : S_Rn} {s1 : S_Bs} {s2 : S_Cs} {s3 : S_Bs} {s4 : S_Mg} {s5 : S_Ou} {s6 : S_Bs} {x1 : Int32} {out : S_Rn × S_Bs × S_Cs × S_Bs × S_Mg × S_Ou × S_Bs} (X : Cx p s m args meth c prog_1_method_26_code 2 ws_Rn_lookAtPiece R_Rn none D g) (hl : lv_has ls 2 [(0, .ref (K 0 0)), (1, .int x1)]) (hI : Iw D A (w_Rn g (K 0) (fun j => K (j + 1) 0) s0 ++ (w_Bs g (K 6) s1 ++ (w_Cs g (K 8) s2 ++ (w_Bs g (K 4) s3 ++ (w_Mg g (K 9) s4 ++ (w_Ou g (K 7) s5 ++ (w_Bs g (K 5) s6 ++ (rest)))))))) H) (hS : va_S A s.heap H locs) (h : B_Rn_lookAtPiece_30  s0 s1 s2 s3 s4 s5 s6 x1 = some out) : W p l e (headSpec ws_Rn_lookAtPiece { frames := 5, cells := 0, slots := 0, locals := 105 }).room s m args below meth c H locs 0 0 (MQ below (QcV D A g (fun (_ : Unit) => w_Rn g (K 0) (fun j => K (j + 1) 0) out.1 ++ (w_Bs g (K 6) out.2.1 ++ (w_Cs g (K 8) out.2.2.1 ++ (w_Bs g (K 4) out.2.2.2.1 ++ (w_Mg g (K 9) out.2.2.2.2.1 ++ (w_Ou g (K 7) out.2.2.2.2.2.1 ++ (w_Bs g (K 5) out.2.2.2.2.2.2 ++ (rest))))))))) args s 0 0 A) (F0 m 30 ls []) := by
  have X1 := X
  obtain ⟨hx, hb, hml, hown, hts, hr, hlocks, hKK⟩ := X1
  have ht : ∀ w ∈ TB, w.before args s = true := fun w h => hts w (List.mem_cons_of_mem _ h)
  have hK := hKK.1
  unfold B_Rn_lookAtPiece_30 at h
  refine lv_aload_n hx hb d_Rn_lookAtPiece_30 rfl (lv_at hl 0 rfl) ?_
  refine lv_iload_n hx hb d_Rn_lookAtPiece_31 rfl (lv_at hl 1 rfl) ?_
  obtain ⟨o1, ho2, h⟩ := bd_s h
  refine cl_v (W1 := fun (_ : Unit) => w_Rn g (K 0) (fun j => K (j + 1) 0) o1.1 ++ (w_Bs g (K 6) o1.2.1 ++ (w_Cs g (K 8) o1.2.2.1 ++ (w_Bs g (K 4) o1.2.2.2.1 ++ (w_Mg g (K 9) o1.2.2.2.2.1 ++ (w_Ou g (K 7) o1.2.2.2.2.2.1 ++ (w_Bs g (K 5) o1.2.2.2.2.2.2 ++ (rest)))))))) (va_runV (As := [.int x1]) (rest := []) ⟨hx, hb, hml, hown, ht⟩ (c_Rn_lookAtRequest (l := l) (D := D) (A := A) (g := g) (rest := rest) (K := K) ho2) (cwV 1 ht (gd_V m_338 m_340 mp_7 m_1 m_341) rfl rfl rfl (by decide +kernel) ⟨(Nat.le_of_ble_eq_true rfl), (Nat.le_of_ble_eq_true rfl)⟩) (prV (ci := 8) (q0 := 0) hKK hI ((mv_6).trans ((mv_6).trans ((mv_6).trans ((mv_6).trans ((mv_6).trans ((mv_6).trans (mv_6))))))) rfl rfl rfl) rfl rfl hl.1 rfl (lv_room (Nat.le_of_ble_eq_true rfl)) d_Rn_lookAtPiece_32 ⟨(Nat.le_of_ble_eq_true rfl), (Nat.le_of_ble_eq_true rfl)⟩) hS (fun _ => (((mv_6).trans ((mv_6).trans ((mv_6).trans ((mv_6).trans ((mv_6).trans ((mv_6).trans (mv_6)))))))).symm) (fun _ H locs hI hS => ?_)
  have hI : Iw D A (w_Rn g (K 0) (fun j => K (j + 1) 0) o1.1 ++ (w_Bs g (K 6) o1.2.1 ++ (w_Cs g (K 8) o1.2.2.1 ++ (w_Bs g (K 4) o1.2.2.2.1 ++ (w_Mg g (K 9) o1.2.2.2.2.1 ++ (w_Ou g (K 7) o1.2.2.2.2.2.1 ++ (w_Bs g (K 5) o1.2.2.2.2.2.2 ++ (rest)))))))) H := hI
  refine lv_goto (tgt := 82) hx hb d_Rn_lookAtPiece_35 (by decide) ?_
  exact t_Rn_lookAtPiece_82 X (lv_sub hl [] rfl) hI hS h
set_option maxRecDepth 100000 in
set_option maxHeartbeats 4000000 in
theorem t_Rn_lookAtPiece_22 {p : Program} {l : Launch} {e : Env} {s : State} {m : MethodId} {args : Array Value} {below : List Frame} {meth : Method} {c : Code} {D : va_G} {A : Nat → Prop} {g : Nat → ClassId} {rest : va_W} {K : Nat → Nat → Nat} {ls : Array Slot} {H : Heap} {locs : List Loc} {s0 : S_Rn} {s1 : S_Bs} {s2 : S_Cs} {s3 : S_Bs} {s4 : S_Mg} {s5 : S_Ou} {s6 : S_Bs} {x1 : Int32} {out : S_Rn × S_Bs × S_Cs × S_Bs × S_Mg × S_Ou × S_Bs} (X : Cx p s m args meth c prog_1_method_26_code 2 ws_Rn_lookAtPiece R_Rn none D g) (hl : lv_has ls 2 [(0, .ref (K 0 0)), (1, .int x1)]) (hI : Iw D A (w_Rn g (K 0) (fun j => K (j + 1) 0) s0 ++ (w_Bs g (K 6) s1 ++ (w_Cs g (K 8) s2 ++ (w_Bs g (K 4) s3 ++ (w_Mg g (K 9) s4 ++ (w_Ou g (K 7) s5 ++ (w_Bs g (K 5) s6 ++ (rest)))))))) H) (hS : va_S A s.heap H locs) (h : B_Rn_lookAtPiece_22  s0 s1 s2 s3 s4 s5 s6 x1 = some out) : W p l e (headSpec ws_Rn_lookAtPiece { frames := 5, cells := 0, slots := 0, locals := 105 }).room s m args below meth c H locs 0 0 (MQ below (QcV D A g (fun (_ : Unit) => w_Rn g (K 0) (fun j => K (j + 1) 0) out.1 ++ (w_Bs g (K 6) out.2.1 ++ (w_Cs g (K 8) out.2.2.1 ++ (w_Bs g (K 4) out.2.2.2.1 ++ (w_Mg g (K 9) out.2.2.2.2.1 ++ (w_Ou g (K 7) out.2.2.2.2.2.1 ++ (w_Bs g (K 5) out.2.2.2.2.2.2 ++ (rest))))))))) args s 0 0 A) (F0 m 22 ls []) := by
  have X1 := X
  obtain ⟨hx, hb, hml, hown, hts, hr, hlocks, hKK⟩ := X1
  have ht : ∀ w ∈ TB, w.before args s = true := fun w h => hts w (List.mem_cons_of_mem _ h)
  have hK := hKK.1
  unfold B_Rn_lookAtPiece_22 at h
  refine lv_aload_n hx hb d_Rn_lookAtPiece_22 rfl (lv_at hl 0 rfl) ?_
  refine va_get (D := D) (ci := 8) (v := .int (Rn_phase s0)) (C := R_Rn) (T := T_Rn) (N := 16) hx hb ht in_Rn hown hK hI.1 0 rfl rfl 13 (by decide) (ht _ m_216) (fun _ h9 => h9) rfl d_Rn_lookAtPiece_23 ?_
  refine lv_iconst (v := 1) hx hb d_Rn_lookAtPiece_26 (by decide) ?_
  refine lv_icmp_ne (tgt := 38) hx hb d_Rn_lookAtPiece_27 (by decide) (fun hc => ?_) (fun hc => ?_)
  · have h := it_f h hc
    exact t_Rn_lookAtPiece_38 X (lv_sub hl [0, 1] rfl) hI hS h
  · have h := it_t h hc
    exact t_Rn_lookAtPiece_30 X (lv_sub hl [0, 1] rfl) hI hS h
set_option maxRecDepth 100000 in
set_option maxHeartbeats 4000000 in
theorem t_Rn_lookAtPiece_15 {p : Program} {l : Launch} {e : Env} {s : State} {m : MethodId} {args : Array Value} {below : List Frame} {meth : Method} {c : Code} {D : va_G} {A : Nat → Prop} {g : Nat → ClassId} {rest : va_W} {K : Nat → Nat → Nat} {ls : Array Slot} {H : Heap} {locs : List Loc} {s0 : S_Rn} {s1 : S_Bs} {s2 : S_Cs} {s3 : S_Bs} {s4 : S_Mg} {s5 : S_Ou} {s6 : S_Bs} {out : S_Rn × S_Bs × S_Cs × S_Bs × S_Mg × S_Ou × S_Bs} (X : Cx p s m args meth c prog_1_method_26_code 2 ws_Rn_lookAtPiece R_Rn none D g) (hl : lv_has ls 2 [(0, .ref (K 0 0))]) (hI : Iw D A (w_Rn g (K 0) (fun j => K (j + 1) 0) s0 ++ (w_Bs g (K 6) s1 ++ (w_Cs g (K 8) s2 ++ (w_Bs g (K 4) s3 ++ (w_Mg g (K 9) s4 ++ (w_Ou g (K 7) s5 ++ (w_Bs g (K 5) s6 ++ (rest)))))))) H) (hS : va_S A s.heap H locs) (h : B_Rn_lookAtPiece_15  s0 s1 s2 s3 s4 s5 s6 = some out) : W p l e (headSpec ws_Rn_lookAtPiece { frames := 5, cells := 0, slots := 0, locals := 105 }).room s m args below meth c H locs 0 0 (MQ below (QcV D A g (fun (_ : Unit) => w_Rn g (K 0) (fun j => K (j + 1) 0) out.1 ++ (w_Bs g (K 6) out.2.1 ++ (w_Cs g (K 8) out.2.2.1 ++ (w_Bs g (K 4) out.2.2.2.1 ++ (w_Mg g (K 9) out.2.2.2.2.1 ++ (w_Ou g (K 7) out.2.2.2.2.2.1 ++ (w_Bs g (K 5) out.2.2.2.2.2.2 ++ (rest))))))))) args s 0 0 A) (F0 m 15 ls []) := by
  have X1 := X
  obtain ⟨hx, hb, hml, hown, hts, hr, hlocks, hKK⟩ := X1
  have ht : ∀ w ∈ TB, w.before args s = true := fun w h => hts w (List.mem_cons_of_mem _ h)
  have hK := hKK.1
  unfold B_Rn_lookAtPiece_15 at h
  refine lv_aload_n hx hb d_Rn_lookAtPiece_15 rfl (lv_at hl 0 rfl) ?_
  obtain ⟨o1, ho2, h⟩ := bd_s h
  refine cl_v (W1 := fun (_ : Unit) => w_Rn g (K 0) (fun j => K (j + 1) 0) o1.1 ++ (w_Bs g (K 6) s1 ++ (w_Cs g (K 8) s2 ++ (w_Bs g (K 4) o1.2.1 ++ (w_Mg g (K 9) o1.2.2.1 ++ (w_Ou g (K 7) s5 ++ (w_Bs g (K 5) o1.2.2.2 ++ (rest)))))))) (va_runV (As := []) (rest := []) ⟨hx, hb, hml, hown, ht⟩ (c_Rn_shut (l := l) (D := D) (A := A) (g := g) (rest := w_Bs g (K 6) s1 ++ (w_Cs g (K 8) s2 ++ (w_Ou g (K 7) s5 ++ (rest)))) (K := K) ho2) (cwV 0 ht (gd_V m_290 m_292 mp_1 m_1 m_293) rfl rfl rfl (by decide +kernel) ⟨(Nat.le_of_ble_eq_true rfl), (Nat.le_of_ble_eq_true rfl)⟩) (prV (ci := 8) (q0 := 0) hKK hI ((mv_6).trans ((mv_5).trans ((mv_5).trans (mv_3)))) rfl rfl rfl) rfl rfl hl.1 rfl (lv_room (Nat.le_of_ble_eq_true rfl)) d_Rn_lookAtPiece_16 ⟨(Nat.le_of_ble_eq_true rfl), (Nat.le_of_ble_eq_true rfl)⟩) hS (fun _ => (((mv_6).trans ((mv_5).trans ((mv_5).trans (mv_3))))).symm) (fun _ H locs hI hS => ?_)
  have hI : Iw D A (w_Rn g (K 0) (fun j => K (j + 1) 0) o1.1 ++ (w_Bs g (K 6) s1 ++ (w_Cs g (K 8) s2 ++ (w_Bs g (K 4) o1.2.1 ++ (w_Mg g (K 9) o1.2.2.1 ++ (w_Ou g (K 7) s5 ++ (w_Bs g (K 5) o1.2.2.2 ++ (rest)))))))) H := hI
  refine lv_goto (tgt := 82) hx hb d_Rn_lookAtPiece_19 (by decide) ?_
  exact t_Rn_lookAtPiece_82 X (lv_sub hl [] rfl) hI hS h
set_option maxRecDepth 100000 in
set_option maxHeartbeats 4000000 in
theorem t_Rn_lookAtPiece_0 {p : Program} {l : Launch} {e : Env} {s : State} {m : MethodId} {args : Array Value} {below : List Frame} {meth : Method} {c : Code} {D : va_G} {A : Nat → Prop} {g : Nat → ClassId} {rest : va_W} {K : Nat → Nat → Nat} {ls : Array Slot} {H : Heap} {locs : List Loc} {s0 : S_Rn} {s1 : S_Bs} {s2 : S_Cs} {s3 : S_Bs} {s4 : S_Mg} {s5 : S_Ou} {s6 : S_Bs} {out : S_Rn × S_Bs × S_Cs × S_Bs × S_Mg × S_Ou × S_Bs} (X : Cx p s m args meth c prog_1_method_26_code 2 ws_Rn_lookAtPiece R_Rn none D g) (hl : lv_has ls 2 [(0, .ref (K 0 0))]) (hI : Iw D A (w_Rn g (K 0) (fun j => K (j + 1) 0) s0 ++ (w_Bs g (K 6) s1 ++ (w_Cs g (K 8) s2 ++ (w_Bs g (K 4) s3 ++ (w_Mg g (K 9) s4 ++ (w_Ou g (K 7) s5 ++ (w_Bs g (K 5) s6 ++ (rest)))))))) H) (hS : va_S A s.heap H locs) (h : B_Rn_lookAtPiece_0  s0 s1 s2 s3 s4 s5 s6 = some out) : W p l e (headSpec ws_Rn_lookAtPiece { frames := 5, cells := 0, slots := 0, locals := 105 }).room s m args below meth c H locs 0 0 (MQ below (QcV D A g (fun (_ : Unit) => w_Rn g (K 0) (fun j => K (j + 1) 0) out.1 ++ (w_Bs g (K 6) out.2.1 ++ (w_Cs g (K 8) out.2.2.1 ++ (w_Bs g (K 4) out.2.2.2.1 ++ (w_Mg g (K 9) out.2.2.2.2.1 ++ (w_Ou g (K 7) out.2.2.2.2.2.1 ++ (w_Bs g (K 5) out.2.2.2.2.2.2 ++ (rest))))))))) args s 0 0 A) (F0 m 0 ls []) := by
  have X1 := X
  obtain ⟨hx, hb, hml, hown, hts, hr, hlocks, hKK⟩ := X1
  have ht : ∀ w ∈ TB, w.before args s = true := fun w h => hts w (List.mem_cons_of_mem _ h)
  have hK := hKK.1
  unfold B_Rn_lookAtPiece_0 at h
  refine lv_aload_n hx hb d_Rn_lookAtPiece_0 rfl (lv_at hl 0 rfl) ?_
  refine va_get (D := D) (ci := 8) (v := .ref (K 4 0)) (C := R_Rn) (T := T_Rn) (N := 16) hx hb ht in_Rn hown hK hI.1 0 rfl rfl 3 (by decide) (ht _ m_206) (fun _ h9 => h9) rfl d_Rn_lookAtPiece_1 ?_
  refine lv_iconst (v := 0) hx hb d_Rn_lookAtPiece_4 (by decide) ?_
  obtain ⟨o1, ho2, h⟩ := bd_s h
  refine cl_i (W1 := fun (_ : Unit) => w_Rn g (K 0) (fun j => K (j + 1) 0) s0 ++ (w_Bs g (K 6) s1 ++ (w_Cs g (K 8) s2 ++ (w_Bs g (K 4) s3 ++ (w_Mg g (K 9) s4 ++ (w_Ou g (K 7) s5 ++ (w_Bs g (K 5) s6 ++ (rest)))))))) (va_runV (As := [.int (0 : Int32)]) (rest := []) ⟨hx, hb, hml, hown, ht⟩ (c_Bs_get (l := l) (D := D) (A := A) (g := g) (rest := w_Rn g (K 0) (fun j => K (j + 1) 0) s0 ++ (w_Bs g (K 6) s1 ++ (w_Cs g (K 8) s2 ++ (w_Mg g (K 9) s4 ++ (w_Ou g (K 7) s5 ++ (w_Bs g (K 5) s6 ++ (rest))))))) (a0 := K 4) ho2) (cwV 1 ht (gd_V m_306 m_307 m_308 m_2 m_309) rfl rfl rfl (by decide +kernel) ⟨(Nat.le_of_ble_eq_true rfl), (Nat.le_of_ble_eq_true rfl)⟩) (prV (ci := 0) (q0 := 0) hKK hI (mv_3) rfl rfl rfl) rfl rfl hl.1 rfl (lv_room (Nat.le_of_ble_eq_true rfl)) d_Rn_lookAtPiece_5 ⟨(Nat.le_of_ble_eq_true rfl), (Nat.le_of_ble_eq_true rfl)⟩) hS (fun _ => ((mv_3)).symm) (fun _ H locs hI hS => ?_)
  have hI : Iw D A (w_Rn g (K 0) (fun j => K (j + 1) 0) s0 ++ (w_Bs g (K 6) s1 ++ (w_Cs g (K 8) s2 ++ (w_Bs g (K 4) s3 ++ (w_Mg g (K 9) s4 ++ (w_Ou g (K 7) s5 ++ (w_Bs g (K 5) s6 ++ (rest)))))))) H := hI
  refine lv_istore_n hx hb d_Rn_lookAtPiece_8 rfl hl (Nat.le_of_ble_eq_true rfl) rfl (fun ls hl => ?_)
  have hl : lv_has ls 2 [(1, .int o1), (0, .ref (K 0 0))] := hl
  refine lv_iload_n hx hb d_Rn_lookAtPiece_9 rfl (lv_at hl 0 rfl) ?_
  refine lv_bipush (v := 7) hx hb d_Rn_lookAtPiece_10 (by decide) ?_
  refine lv_icmp_ne (tgt := 22) hx hb d_Rn_lookAtPiece_12 (by decide) (fun hc => ?_) (fun hc => ?_)
  · have h := it_f h hc
    exact t_Rn_lookAtPiece_22 X (lv_sub hl [1, 0] rfl) hI hS h
  · have h := it_t h hc
    exact t_Rn_lookAtPiece_15 X (lv_sub hl [1] rfl) hI hS h
set_option maxRecDepth 100000 in
set_option maxHeartbeats 4000000 in
theorem c_Rn_lookAtPiece {l : Launch} {D : va_G} {A : Nat → Prop} {g : Nat → ClassId} {rest : va_W} {K : Nat → Nat → Nat} {s0 : S_Rn} {s1 : S_Bs} {s2 : S_Cs} {s3 : S_Bs} {s4 : S_Mg} {s5 : S_Ou} {s6 : S_Bs} {out : S_Rn × S_Bs × S_Cs × S_Bs × S_Mg × S_Ou × S_Bs} (h : F_Rn_lookAtPiece s0 s1 s2 s3 s4 s5 s6 = some out) : Met l y_Rn_lookAtPiece ws_Rn_lookAtPiece { frames := 5, cells := 0, slots := 0, locals := 105 } (PcW D A g [.ref (K 0 0)] (w_Rn g (K 0) (fun j => K (j + 1) 0) s0 ++ (w_Bs g (K 6) s1 ++ (w_Cs g (K 8) s2 ++ (w_Bs g (K 4) s3 ++ (w_Mg g (K 9) s4 ++ (w_Ou g (K 7) s5 ++ (w_Bs g (K 5) s6 ++ (rest))))))))) (QcV D A g (fun (_ : Unit) => w_Rn g (K 0) (fun j => K (j + 1) 0) out.1 ++ (w_Bs g (K 6) out.2.1 ++ (w_Cs g (K 8) out.2.2.1 ++ (w_Bs g (K 4) out.2.2.2.1 ++ (w_Mg g (K 9) out.2.2.2.2.1 ++ (w_Ou g (K 7) out.2.2.2.2.2.1 ++ (w_Bs g (K 5) out.2.2.2.2.2.2 ++ (rest))))))))) 0 0 A := by
  refine Met.ofW (cc := prog_1_method_26_code) (maxL := 2) (ret := none) (by decide) rfl ?_
  intro p e s m args below meth c s₁ B hml hv
  obtain ⟨rfl, hI, hK⟩ := hv
  have hl := lv_entry [.ref (K 0 0)] (n := 2) (Nat.le_of_ble_eq_true rfl)
  rw [lg_entry_eq]
  generalize (lg_sl [.ref (K 0 0)] ++ List.replicate (2 - (lg_sl [.ref (K 0 0)]).length) Slot.unset).toArray = ls at hl ⊢
  have hl : lv_has ls 2 [(0, .ref (K 0 0))] := hl
  exact t_Rn_lookAtPiece_0 ⟨B.exec, B.bytes, hml, findClass_of_methodNamed B.named, atoms_spec (ws := ws_Rn_lookAtPiece) B.pre, B.returns, B.notSynchronized, hK⟩ (lv_sub hl [0] rfl) hI va_S.rf h
