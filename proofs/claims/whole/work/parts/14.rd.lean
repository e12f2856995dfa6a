theorem d_Rd_fail_0 : decode prog_7_method_4_code 0 = .ok (.aload_n 0, 1) := by decide +kernel
theorem d_Rd_fail_1 : decode prog_7_method_4_code 1 = .ok (.iload_n 1, 1) := by decide +kernel
theorem d_Rd_fail_2 : decode prog_7_method_4_code 2 = .ok (.bipush 16, 2) := by decide +kernel
theorem d_Rd_fail_4 : decode prog_7_method_4_code 4 = .ok (.iload_n 2, 1) := by decide +kernel
theorem d_Rd_fail_5 : decode prog_7_method_4_code 5 = .ok (.imul, 1) := by decide +kernel
theorem d_Rd_fail_6 : decode prog_7_method_4_code 6 = .ok (.iadd, 1) := by decide +kernel
theorem d_Rd_fail_7 : decode prog_7_method_4_code 7 = .ok (.putfield 54, 3) := by decide +kernel
theorem d_Rd_fail_10 : decode prog_7_method_4_code 10 = .ok (.return_, 1) := by decide +kernel
theorem d_Rd_leave_0 : decode prog_7_method_6_code 0 = .ok (.aload_n 0, 1) := by decide +kernel
theorem d_Rd_leave_1 : decode prog_7_method_6_code 1 = .ok (.getfield 12, 3) := by decide +kernel
theorem d_Rd_leave_4 : decode prog_7_method_6_code 4 = .ok (.aload_n 0, 1) := by decide +kernel
theorem d_Rd_leave_5 : decode prog_7_method_6_code 5 = .ok (.getfield 18, 3) := by decide +kernel
theorem d_Rd_leave_8 : decode prog_7_method_6_code 8 = .ok (.aload_n 0, 1) := by decide +kernel
theorem d_Rd_leave_9 : decode prog_7_method_6_code 9 = .ok (.getfield 51, 3) := by decide +kernel
theorem d_Rd_leave_12 : decode prog_7_method_6_code 12 = .ok (.iaload, 1) := by decide +kernel
theorem d_Rd_leave_13 : decode prog_7_method_6_code 13 = .ok (.invokevirtual 92, 3) := by decide +kernel
theorem d_Rd_leave_16 : decode prog_7_method_6_code 16 = .ok (.aload_n 0, 1) := by decide +kernel
theorem d_Rd_leave_17 : decode prog_7_method_6_code 17 = .ok (.dup, 1) := by decide +kernel
theorem d_Rd_leave_18 : decode prog_7_method_6_code 18 = .ok (.getfield 51, 3) := by decide +kernel
theorem d_Rd_leave_21 : decode prog_7_method_6_code 21 = .ok (.iconst 1, 1) := by decide +kernel
theorem d_Rd_leave_22 : decode prog_7_method_6_code 22 = .ok (.isub, 1) := by decide +kernel
theorem d_Rd_leave_23 : decode prog_7_method_6_code 23 = .ok (.putfield 51, 3) := by decide +kernel
theorem d_Rd_leave_26 : decode prog_7_method_6_code 26 = .ok (.return_, 1) := by decide +kernel
theorem d_Rd_endLevel_0 : decode prog_7_method_7_code 0 = .ok (.aload_n 0, 1) := by decide +kernel
theorem d_Rd_endLevel_1 : decode prog_7_method_7_code 1 = .ok (.getfield 25, 3) := by decide +kernel
theorem d_Rd_endLevel_4 : decode prog_7_method_7_code 4 = .ok (.aload_n 0, 1) := by decide +kernel
theorem d_Rd_endLevel_5 : decode prog_7_method_7_code 5 = .ok (.getfield 51, 3) := by decide +kernel
theorem d_Rd_endLevel_8 : decode prog_7_method_7_code 8 = .ok (.baload, 1) := by decide +kernel
theorem d_Rd_endLevel_9 : decode prog_7_method_7_code 9 = .ok (.ifCond .eq 20, 3) := by decide +kernel
theorem d_Rd_endLevel_12 : decode prog_7_method_7_code 12 = .ok (.aload_n 0, 1) := by decide +kernel
theorem d_Rd_endLevel_13 : decode prog_7_method_7_code 13 = .ok (.iconst 1, 1) := by decide +kernel
theorem d_Rd_endLevel_14 : decode prog_7_method_7_code 14 = .ok (.aload_n 0, 1) := by decide +kernel
theorem d_Rd_endLevel_15 : decode prog_7_method_7_code 15 = .ok (.getfield 22, 3) := by decide +kernel
theorem d_Rd_endLevel_18 : decode prog_7_method_7_code 18 = .ok (.aload_n 0, 1) := by decide +kernel
theorem d_Rd_endLevel_19 : decode prog_7_method_7_code 19 = .ok (.getfield 51, 3) := by decide +kernel
theorem d_Rd_endLevel_22 : decode prog_7_method_7_code 22 = .ok (.iaload, 1) := by decide +kernel
theorem d_Rd_endLevel_23 : decode prog_7_method_7_code 23 = .ok (.invokevirtual 95, 3) := by decide +kernel
theorem d_Rd_endLevel_26 : decode prog_7_method_7_code 26 = .ok (.goto 7, 3) := by decide +kernel
theorem d_Rd_endLevel_29 : decode prog_7_method_7_code 29 = .ok (.aload_n 0, 1) := by decide +kernel
theorem d_Rd_endLevel_30 : decode prog_7_method_7_code 30 = .ok (.invokevirtual 79, 3) := by decide +kernel
theorem d_Rd_endLevel_33 : decode prog_7_method_7_code 33 = .ok (.return_, 1) := by decide +kernel
theorem d_Rd_enter_0 : decode prog_7_method_5_code 0 = .ok (.aload_n 0, 1) := by decide +kernel
theorem d_Rd_enter_1 : decode prog_7_method_5_code 1 = .ok (.getfield 51, 3) := by decide +kernel
theorem d_Rd_enter_4 : decode prog_7_method_5_code 4 = .ok (.iconst 1, 1) := by decide +kernel
theorem d_Rd_enter_5 : decode prog_7_method_5_code 5 = .ok (.iadd, 1) := by decide +kernel
theorem d_Rd_enter_6 : decode prog_7_method_5_code 6 = .ok (.iconst 5, 1) := by decide +kernel
theorem d_Rd_enter_7 : decode prog_7_method_5_code 7 = .ok (.if_icmp .lt 4, 3) := by decide +kernel
theorem d_Rd_enter_10 : decode prog_7_method_5_code 10 = .ok (.return_, 1) := by decide +kernel
theorem d_Rd_enter_11 : decode prog_7_method_5_code 11 = .ok (.aload_n 0, 1) := by decide +kernel
theorem d_Rd_enter_12 : decode prog_7_method_5_code 12 = .ok (.dup, 1) := by decide +kernel
theorem d_Rd_enter_13 : decode prog_7_method_5_code 13 = .ok (.getfield 51, 3) := by decide +kernel
theorem d_Rd_enter_16 : decode prog_7_method_5_code 16 = .ok (.iconst 1, 1) := by decide +kernel
theorem d_Rd_enter_17 : decode prog_7_method_5_code 17 = .ok (.iadd, 1) := by decide +kernel
theorem d_Rd_enter_18 : decode prog_7_method_5_code 18 = .ok (.putfield 51, 3) := by decide +kernel
theorem d_Rd_enter_21 : decode prog_7_method_5_code 21 = .ok (.aload_n 0, 1) := by decide +kernel
theorem d_Rd_enter_22 : decode prog_7_method_5_code 22 = .ok (.getfield 18, 3) := by decide +kernel
theorem d_Rd_enter_25 : decode prog_7_method_5_code 25 = .ok (.aload_n 0, 1) := by decide +kernel
theorem d_Rd_enter_26 : decode prog_7_method_5_code 26 = .ok (.getfield 51, 3) := by decide +kernel
theorem d_Rd_enter_29 : decode prog_7_method_5_code 29 = .ok (.aload_n 0, 1) := by decide +kernel
theorem d_Rd_enter_30 : decode prog_7_method_5_code 30 = .ok (.getfield 12, 3) := by decide +kernel
theorem d_Rd_enter_33 : decode prog_7_method_5_code 33 = .ok (.iload_n 1, 1) := by decide +kernel
theorem d_Rd_enter_34 : decode prog_7_method_5_code 34 = .ok (.iconst 0, 1) := by decide +kernel
theorem d_Rd_enter_35 : decode prog_7_method_5_code 35 = .ok (.iconst 0, 1) := by decide +kernel
theorem d_Rd_enter_36 : decode prog_7_method_5_code 36 = .ok (.invokevirtual 88, 3) := by decide +kernel
theorem d_Rd_enter_39 : decode prog_7_method_5_code 39 = .ok (.iastore, 1) := by decide +kernel
theorem d_Rd_enter_40 : decode prog_7_method_5_code 40 = .ok (.aload_n 0, 1) := by decide +kernel
theorem d_Rd_enter_41 : decode prog_7_method_5_code 41 = .ok (.getfield 22, 3) := by decide +kernel
theorem d_Rd_enter_44 : decode prog_7_method_5_code 44 = .ok (.aload_n 0, 1) := by decide +kernel
theorem d_Rd_enter_45 : decode prog_7_method_5_code 45 = .ok (.getfield 51, 3) := by decide +kernel
theorem d_Rd_enter_48 : decode prog_7_method_5_code 48 = .ok (.iload_n 2, 1) := by decide +kernel
theorem d_Rd_enter_49 : decode prog_7_method_5_code 49 = .ok (.iastore, 1) := by decide +kernel
theorem d_Rd_enter_50 : decode prog_7_method_5_code 50 = .ok (.aload_n 0, 1) := by decide +kernel
theorem d_Rd_enter_51 : decode prog_7_method_5_code 51 = .ok (.getfield 25, 3) := by decide +kernel
theorem d_Rd_enter_54 : decode prog_7_method_5_code 54 = .ok (.aload_n 0, 1) := by decide +kernel
theorem d_Rd_enter_55 : decode prog_7_method_5_code 55 = .ok (.getfield 51, 3) := by decide +kernel
theorem d_Rd_enter_58 : decode prog_7_method_5_code 58 = .ok (.iload_n 3, 1) := by decide +kernel
theorem d_Rd_enter_59 : decode prog_7_method_5_code 59 = .ok (.bastore, 1) := by decide +kernel
theorem d_Rd_enter_60 : decode prog_7_method_5_code 60 = .ok (.aload_n 0, 1) := by decide +kernel
theorem d_Rd_enter_61 : decode prog_7_method_5_code 61 = .ok (.getfield 29, 3) := by decide +kernel
theorem d_Rd_enter_64 : decode prog_7_method_5_code 64 = .ok (.aload_n 0, 1) := by decide +kernel
theorem d_Rd_enter_65 : decode prog_7_method_5_code 65 = .ok (.getfield 51, 3) := by decide +kernel
theorem d_Rd_enter_68 : decode prog_7_method_5_code 68 = .ok (.iconst 0, 1) := by decide +kernel
theorem d_Rd_enter_69 : decode prog_7_method_5_code 69 = .ok (.iastore, 1) := by decide +kernel
theorem d_Rd_enter_70 : decode prog_7_method_5_code 70 = .ok (.aload_n 0, 1) := by decide +kernel
theorem d_Rd_enter_71 : decode prog_7_method_5_code 71 = .ok (.getfield 32, 3) := by decide +kernel
theorem d_Rd_enter_74 : decode prog_7_method_5_code 74 = .ok (.aload_n 0, 1) := by decide +kernel
theorem d_Rd_enter_75 : decode prog_7_method_5_code 75 = .ok (.getfield 51, 3) := by decide +kernel
theorem d_Rd_enter_78 : decode prog_7_method_5_code 78 = .ok (.iconst 0, 1) := by decide +kernel
theorem d_Rd_enter_79 : decode prog_7_method_5_code 79 = .ok (.iastore, 1) := by decide +kernel
theorem d_Rd_enter_80 : decode prog_7_method_5_code 80 = .ok (.return_, 1) := by decide +kernel
theorem d_Rd_isEndMark_0 : decode prog_7_method_8_code 0 = .ok (.aload_n 0, 1) := by decide +kernel
theorem d_Rd_isEndMark_1 : decode prog_7_method_8_code 1 = .ok (.getfield 25, 3) := by decide +kernel
theorem d_Rd_isEndMark_4 : decode prog_7_method_8_code 4 = .ok (.aload_n 0, 1) := by decide +kernel
theorem d_Rd_isEndMark_5 : decode prog_7_method_8_code 5 = .ok (.getfield 51, 3) := by decide +kernel
theorem d_Rd_isEndMark_8 : decode prog_7_method_8_code 8 = .ok (.baload, 1) := by decide +kernel
theorem d_Rd_isEndMark_9 : decode prog_7_method_8_code 9 = .ok (.ifCond .eq 29, 3) := by decide +kernel
theorem d_Rd_isEndMark_12 : decode prog_7_method_8_code 12 = .ok (.iload_n 1, 1) := by decide +kernel
theorem d_Rd_isEndMark_13 : decode prog_7_method_8_code 13 = .ok (.aload_n 0, 1) := by decide +kernel
theorem d_Rd_isEndMark_14 : decode prog_7_method_8_code 14 = .ok (.getfield 51, 3) := by decide +kernel
theorem d_Rd_isEndMark_17 : decode prog_7_method_8_code 17 = .ok (.iconst 2, 1) := by decide +kernel
theorem d_Rd_isEndMark_18 : decode prog_7_method_8_code 18 = .ok (.irem, 1) := by decide +kernel
theorem d_Rd_isEndMark_19 : decode prog_7_method_8_code 19 = .ok (.ifCond .ne 9, 3) := by decide +kernel
theorem d_Rd_isEndMark_22 : decode prog_7_method_8_code 22 = .ok (.sipush 253, 3) := by decide +kernel
theorem d_Rd_isEndMark_25 : decode prog_7_method_8_code 25 = .ok (.goto 6, 3) := by decide +kernel
theorem d_Rd_isEndMark_28 : decode prog_7_method_8_code 28 = .ok (.sipush 252, 3) := by decide +kernel
theorem d_Rd_isEndMark_31 : decode prog_7_method_8_code 31 = .ok (.if_icmp .ne 7, 3) := by decide +kernel
theorem d_Rd_isEndMark_34 : decode prog_7_method_8_code 34 = .ok (.iconst 1, 1) := by decide +kernel
theorem d_Rd_isEndMark_35 : decode prog_7_method_8_code 35 = .ok (.goto 4, 3) := by decide +kernel
theorem d_Rd_isEndMark_38 : decode prog_7_method_8_code 38 = .ok (.iconst 0, 1) := by decide +kernel
theorem d_Rd_isEndMark_39 : decode prog_7_method_8_code 39 = .ok (.ireturn, 1) := by decide +kernel
theorem d_Rd_endOf_0 : decode prog_7_method_11_code 0 = .ok (.iload_n 1, 1) := by decide +kernel
theorem d_Rd_endOf_1 : decode prog_7_method_11_code 1 = .ok (.sipush 255, 3) := by decide +kernel
theorem d_Rd_endOf_4 : decode prog_7_method_11_code 4 = .ok (.if_icmp .ne 15, 3) := by decide +kernel
theorem d_Rd_endOf_7 : decode prog_7_method_11_code 7 = .ok (.aload_n 0, 1) := by decide +kernel
theorem d_Rd_endOf_8 : decode prog_7_method_11_code 8 = .ok (.getfield 22, 3) := by decide +kernel
theorem d_Rd_endOf_11 : decode prog_7_method_11_code 11 = .ok (.aload_n 0, 1) := by decide +kernel
theorem d_Rd_endOf_12 : decode prog_7_method_11_code 12 = .ok (.getfield 51, 3) := by decide +kernel
theorem d_Rd_endOf_15 : decode prog_7_method_11_code 15 = .ok (.iaload, 1) := by decide +kernel
theorem d_Rd_endOf_16 : decode prog_7_method_11_code 16 = .ok (.goto 9, 3) := by decide +kernel
theorem d_Rd_endOf_19 : decode prog_7_method_11_code 19 = .ok (.aload_n 0, 1) := by decide +kernel
theorem d_Rd_endOf_20 : decode prog_7_method_11_code 20 = .ok (.getfield 48, 3) := by decide +kernel
theorem d_Rd_endOf_23 : decode prog_7_method_11_code 23 = .ok (.iload_n 1, 1) := by decide +kernel
theorem d_Rd_endOf_24 : decode prog_7_method_11_code 24 = .ok (.iadd, 1) := by decide +kernel
theorem d_Rd_endOf_25 : decode prog_7_method_11_code 25 = .ok (.ireturn, 1) := by decide +kernel
theorem d_Rd_readKind_0 : decode prog_7_method_12_code 0 = .ok (.aload_n 0, 1) := by decide +kernel
theorem d_Rd_readKind_1 : decode prog_7_method_12_code 1 = .ok (.getfield 44, 3) := by decide +kernel
theorem d_Rd_readKind_4 : decode prog_7_method_12_code 4 = .ok (.iconst 1, 1) := by decide +kernel
theorem d_Rd_readKind_5 : decode prog_7_method_12_code 5 = .ok (.if_icmp .ne 5, 3) := by decide +kernel
theorem d_Rd_readKind_8 : decode prog_7_method_12_code 8 = .ok (.iconst 1, 1) := by decide +kernel
theorem d_Rd_readKind_9 : decode prog_7_method_12_code 9 = .ok (.ireturn, 1) := by decide +kernel
theorem d_Rd_readKind_10 : decode prog_7_method_12_code 10 = .ok (.aload_n 0, 1) := by decide +kernel
theorem d_Rd_readKind_11 : decode prog_7_method_12_code 11 = .ok (.getfield 48, 3) := by decide +kernel
theorem d_Rd_readKind_14 : decode prog_7_method_12_code 14 = .ok (.aload_n 0, 1) := by decide +kernel
theorem d_Rd_readKind_15 : decode prog_7_method_12_code 15 = .ok (.getfield 22, 3) := by decide +kernel
theorem d_Rd_readKind_18 : decode prog_7_method_12_code 18 = .ok (.aload_n 0, 1) := by decide +kernel
theorem d_Rd_readKind_19 : decode prog_7_method_12_code 19 = .ok (.getfield 51, 3) := by decide +kernel
theorem d_Rd_readKind_22 : decode prog_7_method_12_code 22 = .ok (.iaload, 1) := by decide +kernel
theorem d_Rd_readKind_23 : decode prog_7_method_12_code 23 = .ok (.if_icmp .lt 19, 3) := by decide +kernel
theorem d_Rd_readKind_26 : decode prog_7_method_12_code 26 = .ok (.aload_n 0, 1) := by decide +kernel
theorem d_Rd_readKind_27 : decode prog_7_method_12_code 27 = .ok (.iconst 1, 1) := by decide +kernel
theorem d_Rd_readKind_28 : decode prog_7_method_12_code 28 = .ok (.aload_n 0, 1) := by decide +kernel
theorem d_Rd_readKind_29 : decode prog_7_method_12_code 29 = .ok (.getfield 22, 3) := by decide +kernel
theorem d_Rd_readKind_32 : decode prog_7_method_12_code 32 = .ok (.aload_n 0, 1) := by decide +kernel
theorem d_Rd_readKind_33 : decode prog_7_method_12_code 33 = .ok (.getfield 51, 3) := by decide +kernel
theorem d_Rd_readKind_36 : decode prog_7_method_12_code 36 = .ok (.iaload, 1) := by decide +kernel
theorem d_Rd_readKind_37 : decode prog_7_method_12_code 37 = .ok (.invokevirtual 95, 3) := by decide +kernel
theorem d_Rd_readKind_40 : decode prog_7_method_12_code 40 = .ok (.iconst 0, 1) := by decide +kernel
theorem d_Rd_readKind_41 : decode prog_7_method_12_code 41 = .ok (.ireturn, 1) := by decide +kernel
theorem d_Rd_readKind_42 : decode prog_7_method_12_code 42 = .ok (.aload_n 0, 1) := by decide +kernel
theorem d_Rd_readKind_43 : decode prog_7_method_12_code 43 = .ok (.getfield 40, 3) := by decide +kernel
theorem d_Rd_readKind_46 : decode prog_7_method_12_code 46 = .ok (.aload_n 0, 1) := by decide +kernel
theorem d_Rd_readKind_47 : decode prog_7_method_12_code 47 = .ok (.getfield 48, 3) := by decide +kernel
theorem d_Rd_readKind_50 : decode prog_7_method_12_code 50 = .ok (.invokevirtual 71, 3) := by decide +kernel
theorem d_Rd_readKind_53 : decode prog_7_method_12_code 53 = .ok (.iload_n 1, 1) := by decide +kernel
theorem d_Rd_readKind_54 : decode prog_7_method_12_code 54 = .ok (.if_icmp .eq 14, 3) := by decide +kernel
theorem d_Rd_readKind_57 : decode prog_7_method_12_code 57 = .ok (.aload_n 0, 1) := by decide +kernel
theorem d_Rd_readKind_58 : decode prog_7_method_12_code 58 = .ok (.iconst 3, 1) := by decide +kernel
theorem d_Rd_readKind_59 : decode prog_7_method_12_code 59 = .ok (.aload_n 0, 1) := by decide +kernel
theorem d_Rd_readKind_60 : decode prog_7_method_12_code 60 = .ok (.getfield 48, 3) := by decide +kernel
theorem d_Rd_readKind_63 : decode prog_7_method_12_code 63 = .ok (.invokevirtual 95, 3) := by decide +kernel
theorem d_Rd_readKind_66 : decode prog_7_method_12_code 66 = .ok (.iconst 0, 1) := by decide +kernel
theorem d_Rd_readKind_67 : decode prog_7_method_12_code 67 = .ok (.ireturn, 1) := by decide +kernel
theorem d_Rd_readKind_68 : decode prog_7_method_12_code 68 = .ok (.aload_n 0, 1) := by decide +kernel
theorem d_Rd_readKind_69 : decode prog_7_method_12_code 69 = .ok (.dup, 1) := by decide +kernel
theorem d_Rd_readKind_70 : decode prog_7_method_12_code 70 = .ok (.getfield 48, 3) := by decide +kernel
theorem d_Rd_readKind_73 : decode prog_7_method_12_code 73 = .ok (.iconst 1, 1) := by decide +kernel
theorem d_Rd_readKind_74 : decode prog_7_method_12_code 74 = .ok (.iadd, 1) := by decide +kernel
theorem d_Rd_readKind_75 : decode prog_7_method_12_code 75 = .ok (.putfield 48, 3) := by decide +kernel
theorem d_Rd_readKind_78 : decode prog_7_method_12_code 78 = .ok (.iconst 1, 1) := by decide +kernel
theorem d_Rd_readKind_79 : decode prog_7_method_12_code 79 = .ok (.ireturn, 1) := by decide +kernel
theorem d_Rd_isLength_0 : decode prog_7_method_14_code 0 = .ok (.iload_n 0, 1) := by decide +kernel
theorem d_Rd_isLength_1 : decode prog_7_method_14_code 1 = .ok (.iconst 1, 1) := by decide +kernel
theorem d_Rd_isLength_2 : decode prog_7_method_14_code 2 = .ok (.if_icmp .ne 19, 3) := by decide +kernel
theorem d_Rd_isLength_5 : decode prog_7_method_14_code 5 = .ok (.iload_n 1, 1) := by decide +kernel
theorem d_Rd_isLength_6 : decode prog_7_method_14_code 6 = .ok (.iconst 1, 1) := by decide +kernel
theorem d_Rd_isLength_7 : decode prog_7_method_14_code 7 = .ok (.if_icmp .lt 12, 3) := by decide +kernel
theorem d_Rd_isLength_10 : decode prog_7_method_14_code 10 = .ok (.iload_n 1, 1) := by decide +kernel
theorem d_Rd_isLength_11 : decode prog_7_method_14_code 11 = .ok (.iconst 4, 1) := by decide +kernel
theorem d_Rd_isLength_12 : decode prog_7_method_14_code 12 = .ok (.if_icmp .gt 7, 3) := by decide +kernel
theorem d_Rd_isLength_15 : decode prog_7_method_14_code 15 = .ok (.iconst 1, 1) := by decide +kernel
theorem d_Rd_isLength_16 : decode prog_7_method_14_code 16 = .ok (.goto 4, 3) := by decide +kernel
theorem d_Rd_isLength_19 : decode prog_7_method_14_code 19 = .ok (.iconst 0, 1) := by decide +kernel
theorem d_Rd_isLength_20 : decode prog_7_method_14_code 20 = .ok (.ireturn, 1) := by decide +kernel
theorem d_Rd_isLength_21 : decode prog_7_method_14_code 21 = .ok (.iload_n 0, 1) := by decide +kernel
theorem d_Rd_isLength_22 : decode prog_7_method_14_code 22 = .ok (.iconst 2, 1) := by decide +kernel
theorem d_Rd_isLength_23 : decode prog_7_method_14_code 23 = .ok (.if_icmp .ne 21, 3) := by decide +kernel
theorem d_Rd_isLength_26 : decode prog_7_method_14_code 26 = .ok (.iload_n 1, 1) := by decide +kernel
theorem d_Rd_isLength_27 : decode prog_7_method_14_code 27 = .ok (.bipush 16, 2) := by decide +kernel
theorem d_Rd_isLength_29 : decode prog_7_method_14_code 29 = .ok (.if_icmp .gt 13, 3) := by decide +kernel
theorem d_Rd_isLength_32 : decode prog_7_method_14_code 32 = .ok (.iload_n 1, 1) := by decide +kernel
theorem d_Rd_isLength_33 : decode prog_7_method_14_code 33 = .ok (.iconst 2, 1) := by decide +kernel
theorem d_Rd_isLength_34 : decode prog_7_method_14_code 34 = .ok (.irem, 1) := by decide +kernel
theorem d_Rd_isLength_35 : decode prog_7_method_14_code 35 = .ok (.ifCond .ne 7, 3) := by decide +kernel
theorem d_Rd_isLength_38 : decode prog_7_method_14_code 38 = .ok (.iconst 1, 1) := by decide +kernel
theorem d_Rd_isLength_39 : decode prog_7_method_14_code 39 = .ok (.goto 4, 3) := by decide +kernel
theorem d_Rd_isLength_42 : decode prog_7_method_14_code 42 = .ok (.iconst 0, 1) := by decide +kernel
theorem d_Rd_isLength_43 : decode prog_7_method_14_code 43 = .ok (.ireturn, 1) := by decide +kernel
theorem d_Rd_isLength_44 : decode prog_7_method_14_code 44 = .ok (.iload_n 1, 1) := by decide +kernel
theorem d_Rd_isLength_45 : decode prog_7_method_14_code 45 = .ok (.sipush 240, 3) := by decide +kernel
theorem d_Rd_isLength_48 : decode prog_7_method_14_code 48 = .ok (.if_icmp .le 10, 3) := by decide +kernel
theorem d_Rd_isLength_51 : decode prog_7_method_14_code 51 = .ok (.iload_n 1, 1) := by decide +kernel
theorem d_Rd_isLength_52 : decode prog_7_method_14_code 52 = .ok (.sipush 255, 3) := by decide +kernel
theorem d_Rd_isLength_55 : decode prog_7_method_14_code 55 = .ok (.if_icmp .ne 7, 3) := by decide +kernel
theorem d_Rd_isLength_58 : decode prog_7_method_14_code 58 = .ok (.iconst 1, 1) := by decide +kernel
theorem d_Rd_isLength_59 : decode prog_7_method_14_code 59 = .ok (.goto 4, 3) := by decide +kernel
theorem d_Rd_isLength_62 : decode prog_7_method_14_code 62 = .ok (.iconst 0, 1) := by decide +kernel
theorem d_Rd_isLength_63 : decode prog_7_method_14_code 63 = .ok (.ireturn, 1) := by decide +kernel
theorem d_Rd_readLength_0 : decode prog_7_method_13_code 0 = .ok (.aload_n 0, 1) := by decide +kernel
theorem d_Rd_readLength_1 : decode prog_7_method_13_code 1 = .ok (.getfield 48, 3) := by decide +kernel
theorem d_Rd_readLength_4 : decode prog_7_method_13_code 4 = .ok (.aload_n 0, 1) := by decide +kernel
theorem d_Rd_readLength_5 : decode prog_7_method_13_code 5 = .ok (.getfield 22, 3) := by decide +kernel
theorem d_Rd_readLength_8 : decode prog_7_method_13_code 8 = .ok (.aload_n 0, 1) := by decide +kernel
theorem d_Rd_readLength_9 : decode prog_7_method_13_code 9 = .ok (.getfield 51, 3) := by decide +kernel
theorem d_Rd_readLength_12 : decode prog_7_method_13_code 12 = .ok (.iaload, 1) := by decide +kernel
theorem d_Rd_readLength_13 : decode prog_7_method_13_code 13 = .ok (.if_icmp .lt 19, 3) := by decide +kernel
theorem d_Rd_readLength_16 : decode prog_7_method_13_code 16 = .ok (.aload_n 0, 1) := by decide +kernel
theorem d_Rd_readLength_17 : decode prog_7_method_13_code 17 = .ok (.iconst 1, 1) := by decide +kernel
theorem d_Rd_readLength_18 : decode prog_7_method_13_code 18 = .ok (.aload_n 0, 1) := by decide +kernel
theorem d_Rd_readLength_19 : decode prog_7_method_13_code 19 = .ok (.getfield 22, 3) := by decide +kernel
theorem d_Rd_readLength_22 : decode prog_7_method_13_code 22 = .ok (.aload_n 0, 1) := by decide +kernel
theorem d_Rd_readLength_23 : decode prog_7_method_13_code 23 = .ok (.getfield 51, 3) := by decide +kernel
theorem d_Rd_readLength_26 : decode prog_7_method_13_code 26 = .ok (.iaload, 1) := by decide +kernel
theorem d_Rd_readLength_27 : decode prog_7_method_13_code 27 = .ok (.invokevirtual 95, 3) := by decide +kernel
theorem d_Rd_readLength_30 : decode prog_7_method_13_code 30 = .ok (.iconst (-1), 1) := by decide +kernel
theorem d_Rd_readLength_31 : decode prog_7_method_13_code 31 = .ok (.ireturn, 1) := by decide +kernel
theorem d_Rd_readLength_32 : decode prog_7_method_13_code 32 = .ok (.aload_n 0, 1) := by decide +kernel
theorem d_Rd_readLength_33 : decode prog_7_method_13_code 33 = .ok (.getfield 40, 3) := by decide +kernel
theorem d_Rd_readLength_36 : decode prog_7_method_13_code 36 = .ok (.aload_n 0, 1) := by decide +kernel
theorem d_Rd_readLength_37 : decode prog_7_method_13_code 37 = .ok (.getfield 48, 3) := by decide +kernel
theorem d_Rd_readLength_40 : decode prog_7_method_13_code 40 = .ok (.invokevirtual 71, 3) := by decide +kernel
theorem d_Rd_readLength_43 : decode prog_7_method_13_code 43 = .ok (.istore_n 2, 1) := by decide +kernel
theorem d_Rd_readLength_44 : decode prog_7_method_13_code 44 = .ok (.iload_n 2, 1) := by decide +kernel
theorem d_Rd_readLength_45 : decode prog_7_method_13_code 45 = .ok (.sipush 255, 3) := by decide +kernel
theorem d_Rd_readLength_48 : decode prog_7_method_13_code 48 = .ok (.if_icmp .eq 27, 3) := by decide +kernel
theorem d_Rd_readLength_51 : decode prog_7_method_13_code 51 = .ok (.aload_n 0, 1) := by decide +kernel
theorem d_Rd_readLength_52 : decode prog_7_method_13_code 52 = .ok (.getfield 48, 3) := by decide +kernel
theorem d_Rd_readLength_55 : decode prog_7_method_13_code 55 = .ok (.iconst 1, 1) := by decide +kernel
theorem d_Rd_readLength_56 : decode prog_7_method_13_code 56 = .ok (.iadd, 1) := by decide +kernel
theorem d_Rd_readLength_57 : decode prog_7_method_13_code 57 = .ok (.iload_n 2, 1) := by decide +kernel
theorem d_Rd_readLength_58 : decode prog_7_method_13_code 58 = .ok (.iadd, 1) := by decide +kernel
theorem d_Rd_readLength_59 : decode prog_7_method_13_code 59 = .ok (.aload_n 0, 1) := by decide +kernel
theorem d_Rd_readLength_60 : decode prog_7_method_13_code 60 = .ok (.getfield 22, 3) := by decide +kernel
theorem d_Rd_readLength_63 : decode prog_7_method_13_code 63 = .ok (.aload_n 0, 1) := by decide +kernel
theorem d_Rd_readLength_64 : decode prog_7_method_13_code 64 = .ok (.getfield 51, 3) := by decide +kernel
theorem d_Rd_readLength_67 : decode prog_7_method_13_code 67 = .ok (.iaload, 1) := by decide +kernel
theorem d_Rd_readLength_68 : decode prog_7_method_13_code 68 = .ok (.if_icmp .le 7, 3) := by decide +kernel
theorem d_Rd_readLength_71 : decode prog_7_method_13_code 71 = .ok (.iconst 1, 1) := by decide +kernel
theorem d_Rd_readLength_72 : decode prog_7_method_13_code 72 = .ok (.goto 4, 3) := by decide +kernel
theorem d_Rd_readLength_75 : decode prog_7_method_13_code 75 = .ok (.iconst 0, 1) := by decide +kernel
theorem d_Rd_readLength_76 : decode prog_7_method_13_code 76 = .ok (.istore_n 3, 1) := by decide +kernel
theorem d_Rd_readLength_77 : decode prog_7_method_13_code 77 = .ok (.iload_n 3, 1) := by decide +kernel
theorem d_Rd_readLength_78 : decode prog_7_method_13_code 78 = .ok (.ifCond .ne 11, 3) := by decide +kernel
theorem d_Rd_readLength_81 : decode prog_7_method_13_code 81 = .ok (.iload_n 1, 1) := by decide +kernel
theorem d_Rd_readLength_82 : decode prog_7_method_13_code 82 = .ok (.iload_n 2, 1) := by decide +kernel
theorem d_Rd_readLength_83 : decode prog_7_method_13_code 83 = .ok (.invokestatic 117, 3) := by decide +kernel
theorem d_Rd_readLength_86 : decode prog_7_method_13_code 86 = .ok (.ifCond .ne 14, 3) := by decide +kernel
theorem d_Rd_readLength_89 : decode prog_7_method_13_code 89 = .ok (.aload_n 0, 1) := by decide +kernel
theorem d_Rd_readLength_90 : decode prog_7_method_13_code 90 = .ok (.iconst 4, 1) := by decide +kernel
theorem d_Rd_readLength_91 : decode prog_7_method_13_code 91 = .ok (.aload_n 0, 1) := by decide +kernel
theorem d_Rd_readLength_92 : decode prog_7_method_13_code 92 = .ok (.getfield 48, 3) := by decide +kernel
theorem d_Rd_readLength_95 : decode prog_7_method_13_code 95 = .ok (.invokevirtual 95, 3) := by decide +kernel
theorem d_Rd_readLength_98 : decode prog_7_method_13_code 98 = .ok (.iconst (-1), 1) := by decide +kernel
theorem d_Rd_readLength_99 : decode prog_7_method_13_code 99 = .ok (.ireturn, 1) := by decide +kernel
theorem d_Rd_readLength_100 : decode prog_7_method_13_code 100 = .ok (.aload_n 0, 1) := by decide +kernel
theorem d_Rd_readLength_101 : decode prog_7_method_13_code 101 = .ok (.dup, 1) := by decide +kernel
theorem d_Rd_readLength_102 : decode prog_7_method_13_code 102 = .ok (.getfield 48, 3) := by decide +kernel
theorem d_Rd_readLength_105 : decode prog_7_method_13_code 105 = .ok (.iconst 1, 1) := by decide +kernel
theorem d_Rd_readLength_106 : decode prog_7_method_13_code 106 = .ok (.iadd, 1) := by decide +kernel
theorem d_Rd_readLength_107 : decode prog_7_method_13_code 107 = .ok (.putfield 48, 3) := by decide +kernel
theorem d_Rd_readLength_110 : decode prog_7_method_13_code 110 = .ok (.iload_n 2, 1) := by decide +kernel
theorem d_Rd_readLength_111 : decode prog_7_method_13_code 111 = .ok (.ireturn, 1) := by decide +kernel
theorem d_Rd_readNumber_0 : decode prog_7_method_15_code 0 = .ok (.iconst 0, 1) := by decide +kernel
theorem d_Rd_readNumber_1 : decode prog_7_method_15_code 1 = .ok (.istore_n 3, 1) := by decide +kernel
theorem d_Rd_readNumber_2 : decode prog_7_method_15_code 2 = .ok (.iconst 0, 1) := by decide +kernel
theorem d_Rd_readNumber_3 : decode prog_7_method_15_code 3 = .ok (.istore 4, 2) := by decide +kernel
theorem d_Rd_readNumber_5 : decode prog_7_method_15_code 5 = .ok (.iload 4, 2) := by decide +kernel
theorem d_Rd_readNumber_7 : decode prog_7_method_15_code 7 = .ok (.iload_n 2, 1) := by decide +kernel
theorem d_Rd_readNumber_8 : decode prog_7_method_15_code 8 = .ok (.if_icmp .ge 32, 3) := by decide +kernel
theorem d_Rd_readNumber_11 : decode prog_7_method_15_code 11 = .ok (.iload_n 3, 1) := by decide +kernel
theorem d_Rd_readNumber_12 : decode prog_7_method_15_code 12 = .ok (.aload_n 0, 1) := by decide +kernel
theorem d_Rd_readNumber_13 : decode prog_7_method_15_code 13 = .ok (.getfield 40, 3) := by decide +kernel
theorem d_Rd_readNumber_16 : decode prog_7_method_15_code 16 = .ok (.aload_n 0, 1) := by decide +kernel
theorem d_Rd_readNumber_17 : decode prog_7_method_15_code 17 = .ok (.getfield 48, 3) := by decide +kernel
theorem d_Rd_readNumber_20 : decode prog_7_method_15_code 20 = .ok (.iload 4, 2) := by decide +kernel
theorem d_Rd_readNumber_22 : decode prog_7_method_15_code 22 = .ok (.iadd, 1) := by decide +kernel
theorem d_Rd_readNumber_23 : decode prog_7_method_15_code 23 = .ok (.invokevirtual 71, 3) := by decide +kernel
theorem d_Rd_readNumber_26 : decode prog_7_method_15_code 26 = .ok (.bipush 8, 2) := by decide +kernel
theorem d_Rd_readNumber_28 : decode prog_7_method_15_code 28 = .ok (.iload 4, 2) := by decide +kernel
theorem d_Rd_readNumber_30 : decode prog_7_method_15_code 30 = .ok (.imul, 1) := by decide +kernel
theorem d_Rd_readNumber_31 : decode prog_7_method_15_code 31 = .ok (.ishl, 1) := by decide +kernel
theorem d_Rd_readNumber_32 : decode prog_7_method_15_code 32 = .ok (.ior, 1) := by decide +kernel
theorem d_Rd_readNumber_33 : decode prog_7_method_15_code 33 = .ok (.istore_n 3, 1) := by decide +kernel
theorem d_Rd_readNumber_34 : decode prog_7_method_15_code 34 = .ok (.iinc 4 1, 3) := by decide +kernel
theorem d_Rd_readNumber_37 : decode prog_7_method_15_code 37 = .ok (.goto (-32), 3) := by decide +kernel
theorem d_Rd_readNumber_40 : decode prog_7_method_15_code 40 = .ok (.bipush 32, 2) := by decide +kernel
theorem d_Rd_readNumber_42 : decode prog_7_method_15_code 42 = .ok (.bipush 8, 2) := by decide +kernel
theorem d_Rd_readNumber_44 : decode prog_7_method_15_code 44 = .ok (.iload_n 2, 1) := by decide +kernel
theorem d_Rd_readNumber_45 : decode prog_7_method_15_code 45 = .ok (.imul, 1) := by decide +kernel
theorem d_Rd_readNumber_46 : decode prog_7_method_15_code 46 = .ok (.isub, 1) := by decide +kernel
theorem d_Rd_readNumber_47 : decode prog_7_method_15_code 47 = .ok (.istore 4, 2) := by decide +kernel
theorem d_Rd_readNumber_49 : decode prog_7_method_15_code 49 = .ok (.iload_n 3, 1) := by decide +kernel
theorem d_Rd_readNumber_50 : decode prog_7_method_15_code 50 = .ok (.iload 4, 2) := by decide +kernel
theorem d_Rd_readNumber_52 : decode prog_7_method_15_code 52 = .ok (.ishl, 1) := by decide +kernel
theorem d_Rd_readNumber_53 : decode prog_7_method_15_code 53 = .ok (.iload 4, 2) := by decide +kernel
theorem d_Rd_readNumber_55 : decode prog_7_method_15_code 55 = .ok (.ishr, 1) := by decide +kernel
theorem d_Rd_readNumber_56 : decode prog_7_method_15_code 56 = .ok (.istore 5, 2) := by decide +kernel
theorem d_Rd_readNumber_58 : decode prog_7_method_15_code 58 = .ok (.aload_n 0, 1) := by decide +kernel
theorem d_Rd_readNumber_59 : decode prog_7_method_15_code 59 = .ok (.getfield 12, 3) := by decide +kernel
theorem d_Rd_readNumber_62 : decode prog_7_method_15_code 62 = .ok (.iload_n 1, 1) := by decide +kernel
theorem d_Rd_readNumber_63 : decode prog_7_method_15_code 63 = .ok (.iload 5, 2) := by decide +kernel
theorem d_Rd_readNumber_65 : decode prog_7_method_15_code 65 = .ok (.iload 5, 2) := by decide +kernel
theorem d_Rd_readNumber_67 : decode prog_7_method_15_code 67 = .ok (.invokestatic 121, 3) := by decide +kernel
theorem d_Rd_readNumber_70 : decode prog_7_method_15_code 70 = .ok (.invokevirtual 88, 3) := by decide +kernel
theorem d_Rd_readNumber_73 : decode prog_7_method_15_code 73 = .ok (.pop, 1) := by decide +kernel
theorem d_Rd_readNumber_74 : decode prog_7_method_15_code 74 = .ok (.aload_n 0, 1) := by decide +kernel
theorem d_Rd_readNumber_75 : decode prog_7_method_15_code 75 = .ok (.dup, 1) := by decide +kernel
theorem d_Rd_readNumber_76 : decode prog_7_method_15_code 76 = .ok (.getfield 48, 3) := by decide +kernel
theorem d_Rd_readNumber_79 : decode prog_7_method_15_code 79 = .ok (.iload_n 2, 1) := by decide +kernel
theorem d_Rd_readNumber_80 : decode prog_7_method_15_code 80 = .ok (.iadd, 1) := by decide +kernel
theorem d_Rd_readNumber_81 : decode prog_7_method_15_code 81 = .ok (.putfield 48, 3) := by decide +kernel
theorem d_Rd_readNumber_84 : decode prog_7_method_15_code 84 = .ok (.return_, 1) := by decide +kernel
theorem d_Rd_readText_0 : decode prog_7_method_16_code 0 = .ok (.iload_n 2, 1) := by decide +kernel
theorem d_Rd_readText_1 : decode prog_7_method_16_code 1 = .ok (.istore_n 3, 1) := by decide +kernel
theorem d_Rd_readText_2 : decode prog_7_method_16_code 2 = .ok (.iload_n 2, 1) := by decide +kernel
theorem d_Rd_readText_3 : decode prog_7_method_16_code 3 = .ok (.ifCond .le 26, 3) := by decide +kernel
theorem d_Rd_readText_6 : decode prog_7_method_16_code 6 = .ok (.aload_n 0, 1) := by decide +kernel
theorem d_Rd_readText_7 : decode prog_7_method_16_code 7 = .ok (.getfield 40, 3) := by decide +kernel
theorem d_Rd_readText_10 : decode prog_7_method_16_code 10 = .ok (.aload_n 0, 1) := by decide +kernel
theorem d_Rd_readText_11 : decode prog_7_method_16_code 11 = .ok (.getfield 48, 3) := by decide +kernel
theorem d_Rd_readText_14 : decode prog_7_method_16_code 14 = .ok (.iload_n 2, 1) := by decide +kernel
theorem d_Rd_readText_15 : decode prog_7_method_16_code 15 = .ok (.iadd, 1) := by decide +kernel
theorem d_Rd_readText_16 : decode prog_7_method_16_code 16 = .ok (.iconst 1, 1) := by decide +kernel
theorem d_Rd_readText_17 : decode prog_7_method_16_code 17 = .ok (.isub, 1) := by decide +kernel
theorem d_Rd_readText_18 : decode prog_7_method_16_code 18 = .ok (.invokevirtual 71, 3) := by decide +kernel
theorem d_Rd_readText_21 : decode prog_7_method_16_code 21 = .ok (.bipush 32, 2) := by decide +kernel
theorem d_Rd_readText_23 : decode prog_7_method_16_code 23 = .ok (.if_icmp .ne 6, 3) := by decide +kernel
theorem d_Rd_readText_26 : decode prog_7_method_16_code 26 = .ok (.iinc 3 (-1), 3) := by decide +kernel
theorem d_Rd_readText_29 : decode prog_7_method_16_code 29 = .ok (.iload_n 3, 1) := by decide +kernel
theorem d_Rd_readText_30 : decode prog_7_method_16_code 30 = .ok (.ifCond .le 33, 3) := by decide +kernel
theorem d_Rd_readText_33 : decode prog_7_method_16_code 33 = .ok (.aload_n 0, 1) := by decide +kernel
theorem d_Rd_readText_34 : decode prog_7_method_16_code 34 = .ok (.getfield 40, 3) := by decide +kernel
theorem d_Rd_readText_37 : decode prog_7_method_16_code 37 = .ok (.aload_n 0, 1) := by decide +kernel
theorem d_Rd_readText_38 : decode prog_7_method_16_code 38 = .ok (.getfield 48, 3) := by decide +kernel
theorem d_Rd_readText_41 : decode prog_7_method_16_code 41 = .ok (.iload_n 3, 1) := by decide +kernel
theorem d_Rd_readText_42 : decode prog_7_method_16_code 42 = .ok (.iadd, 1) := by decide +kernel
theorem d_Rd_readText_43 : decode prog_7_method_16_code 43 = .ok (.iconst 1, 1) := by decide +kernel
theorem d_Rd_readText_44 : decode prog_7_method_16_code 44 = .ok (.isub, 1) := by decide +kernel
theorem d_Rd_readText_45 : decode prog_7_method_16_code 45 = .ok (.invokevirtual 71, 3) := by decide +kernel
theorem d_Rd_readText_48 : decode prog_7_method_16_code 48 = .ok (.bipush 32, 2) := by decide +kernel
theorem d_Rd_readText_50 : decode prog_7_method_16_code 50 = .ok (.if_icmp .ne 13, 3) := by decide +kernel
theorem d_Rd_readText_53 : decode prog_7_method_16_code 53 = .ok (.aload_n 0, 1) := by decide +kernel
theorem d_Rd_readText_54 : decode prog_7_method_16_code 54 = .ok (.iconst 5, 1) := by decide +kernel
theorem d_Rd_readText_55 : decode prog_7_method_16_code 55 = .ok (.aload_n 0, 1) := by decide +kernel
theorem d_Rd_readText_56 : decode prog_7_method_16_code 56 = .ok (.getfield 48, 3) := by decide +kernel
theorem d_Rd_readText_59 : decode prog_7_method_16_code 59 = .ok (.invokevirtual 95, 3) := by decide +kernel
theorem d_Rd_readText_62 : decode prog_7_method_16_code 62 = .ok (.return_, 1) := by decide +kernel
theorem d_Rd_readText_63 : decode prog_7_method_16_code 63 = .ok (.aload_n 0, 1) := by decide +kernel
theorem d_Rd_readText_64 : decode prog_7_method_16_code 64 = .ok (.getfield 12, 3) := by decide +kernel
theorem d_Rd_readText_67 : decode prog_7_method_16_code 67 = .ok (.iload_n 1, 1) := by decide +kernel
theorem d_Rd_readText_68 : decode prog_7_method_16_code 68 = .ok (.aload_n 0, 1) := by decide +kernel
theorem d_Rd_readText_69 : decode prog_7_method_16_code 69 = .ok (.getfield 12, 3) := by decide +kernel
theorem d_Rd_readText_72 : decode prog_7_method_16_code 72 = .ok (.invokevirtual 124, 3) := by decide +kernel
theorem d_Rd_readText_75 : decode prog_7_method_16_code 75 = .ok (.iload_n 3, 1) := by decide +kernel
theorem d_Rd_readText_76 : decode prog_7_method_16_code 76 = .ok (.invokevirtual 88, 3) := by decide +kernel
theorem d_Rd_readText_79 : decode prog_7_method_16_code 79 = .ok (.pop, 1) := by decide +kernel
theorem d_Rd_readText_80 : decode prog_7_method_16_code 80 = .ok (.iconst 0, 1) := by decide +kernel
theorem d_Rd_readText_81 : decode prog_7_method_16_code 81 = .ok (.istore 4, 2) := by decide +kernel
theorem d_Rd_readText_83 : decode prog_7_method_16_code 83 = .ok (.iload 4, 2) := by decide +kernel
theorem d_Rd_readText_85 : decode prog_7_method_16_code 85 = .ok (.iload_n 3, 1) := by decide +kernel
theorem d_Rd_readText_86 : decode prog_7_method_16_code 86 = .ok (.if_icmp .ge 58, 3) := by decide +kernel
theorem d_Rd_readText_89 : decode prog_7_method_16_code 89 = .ok (.aload_n 0, 1) := by decide +kernel
theorem d_Rd_readText_90 : decode prog_7_method_16_code 90 = .ok (.getfield 40, 3) := by decide +kernel
theorem d_Rd_readText_93 : decode prog_7_method_16_code 93 = .ok (.aload_n 0, 1) := by decide +kernel
theorem d_Rd_readText_94 : decode prog_7_method_16_code 94 = .ok (.getfield 48, 3) := by decide +kernel
theorem d_Rd_readText_97 : decode prog_7_method_16_code 97 = .ok (.iload 4, 2) := by decide +kernel
theorem d_Rd_readText_99 : decode prog_7_method_16_code 99 = .ok (.iadd, 1) := by decide +kernel
theorem d_Rd_readText_100 : decode prog_7_method_16_code 100 = .ok (.invokevirtual 71, 3) := by decide +kernel
theorem d_Rd_readText_103 : decode prog_7_method_16_code 103 = .ok (.istore 5, 2) := by decide +kernel
theorem d_Rd_readText_105 : decode prog_7_method_16_code 105 = .ok (.iload 5, 2) := by decide +kernel
theorem d_Rd_readText_107 : decode prog_7_method_16_code 107 = .ok (.bipush 32, 2) := by decide +kernel
theorem d_Rd_readText_109 : decode prog_7_method_16_code 109 = .ok (.if_icmp .lt 10, 3) := by decide +kernel
theorem d_Rd_readText_112 : decode prog_7_method_16_code 112 = .ok (.iload 5, 2) := by decide +kernel
theorem d_Rd_readText_114 : decode prog_7_method_16_code 114 = .ok (.bipush 126, 2) := by decide +kernel
theorem d_Rd_readText_116 : decode prog_7_method_16_code 116 = .ok (.if_icmp .le 13, 3) := by decide +kernel
theorem d_Rd_readText_119 : decode prog_7_method_16_code 119 = .ok (.aload_n 0, 1) := by decide +kernel
theorem d_Rd_readText_120 : decode prog_7_method_16_code 120 = .ok (.iconst 5, 1) := by decide +kernel
theorem d_Rd_readText_121 : decode prog_7_method_16_code 121 = .ok (.aload_n 0, 1) := by decide +kernel
theorem d_Rd_readText_122 : decode prog_7_method_16_code 122 = .ok (.getfield 48, 3) := by decide +kernel
theorem d_Rd_readText_125 : decode prog_7_method_16_code 125 = .ok (.invokevirtual 95, 3) := by decide +kernel
theorem d_Rd_readText_128 : decode prog_7_method_16_code 128 = .ok (.return_, 1) := by decide +kernel
theorem d_Rd_readText_129 : decode prog_7_method_16_code 129 = .ok (.aload_n 0, 1) := by decide +kernel
theorem d_Rd_readText_130 : decode prog_7_method_16_code 130 = .ok (.getfield 12, 3) := by decide +kernel
theorem d_Rd_readText_133 : decode prog_7_method_16_code 133 = .ok (.iload 5, 2) := by decide +kernel
theorem d_Rd_readText_135 : decode prog_7_method_16_code 135 = .ok (.invokevirtual 127, 3) := by decide +kernel
theorem d_Rd_readText_138 : decode prog_7_method_16_code 138 = .ok (.iinc 4 1, 3) := by decide +kernel
theorem d_Rd_readText_141 : decode prog_7_method_16_code 141 = .ok (.goto (-58), 3) := by decide +kernel
theorem d_Rd_readText_144 : decode prog_7_method_16_code 144 = .ok (.aload_n 0, 1) := by decide +kernel
theorem d_Rd_readText_145 : decode prog_7_method_16_code 145 = .ok (.dup, 1) := by decide +kernel
theorem d_Rd_readText_146 : decode prog_7_method_16_code 146 = .ok (.getfield 48, 3) := by decide +kernel
theorem d_Rd_readText_149 : decode prog_7_method_16_code 149 = .ok (.iload_n 2, 1) := by decide +kernel
theorem d_Rd_readText_150 : decode prog_7_method_16_code 150 = .ok (.iadd, 1) := by decide +kernel
theorem d_Rd_readText_151 : decode prog_7_method_16_code 151 = .ok (.putfield 48, 3) := by decide +kernel
theorem d_Rd_readText_154 : decode prog_7_method_16_code 154 = .ok (.return_, 1) := by decide +kernel
theorem d_Rd_readElement_0 : decode prog_7_method_9_code 0 = .ok (.aload_n 0, 1) := by decide +kernel
theorem d_Rd_readElement_1 : decode prog_7_method_9_code 1 = .ok (.getfield 40, 3) := by decide +kernel
theorem d_Rd_readElement_4 : decode prog_7_method_9_code 4 = .ok (.aload_n 0, 1) := by decide +kernel
theorem d_Rd_readElement_5 : decode prog_7_method_9_code 5 = .ok (.getfield 48, 3) := by decide +kernel
theorem d_Rd_readElement_8 : decode prog_7_method_9_code 8 = .ok (.invokevirtual 71, 3) := by decide +kernel
theorem d_Rd_readElement_11 : decode prog_7_method_9_code 11 = .ok (.istore_n 1, 1) := by decide +kernel
theorem d_Rd_readElement_12 : decode prog_7_method_9_code 12 = .ok (.iload_n 1, 1) := by decide +kernel
theorem d_Rd_readElement_13 : decode prog_7_method_9_code 13 = .ok (.invokestatic 99, 3) := by decide +kernel
theorem d_Rd_readElement_16 : decode prog_7_method_9_code 16 = .ok (.istore_n 2, 1) := by decide +kernel
theorem d_Rd_readElement_17 : decode prog_7_method_9_code 17 = .ok (.iload_n 1, 1) := by decide +kernel
theorem d_Rd_readElement_18 : decode prog_7_method_9_code 18 = .ok (.iconst 1, 1) := by decide +kernel
theorem d_Rd_readElement_19 : decode prog_7_method_9_code 19 = .ok (.if_icmp .lt 23, 3) := by decide +kernel
theorem d_Rd_readElement_22 : decode prog_7_method_9_code 22 = .ok (.iload_n 1, 1) := by decide +kernel
theorem d_Rd_readElement_23 : decode prog_7_method_9_code 23 = .ok (.sipush 200, 3) := by decide +kernel
theorem d_Rd_readElement_26 : decode prog_7_method_9_code 26 = .ok (.if_icmp .gt 16, 3) := by decide +kernel
theorem d_Rd_readElement_29 : decode prog_7_method_9_code 29 = .ok (.iload_n 1, 1) := by decide +kernel
theorem d_Rd_readElement_30 : decode prog_7_method_9_code 30 = .ok (.aload_n 0, 1) := by decide +kernel
theorem d_Rd_readElement_31 : decode prog_7_method_9_code 31 = .ok (.getfield 32, 3) := by decide +kernel
theorem d_Rd_readElement_34 : decode prog_7_method_9_code 34 = .ok (.aload_n 0, 1) := by decide +kernel
theorem d_Rd_readElement_35 : decode prog_7_method_9_code 35 = .ok (.getfield 51, 3) := by decide +kernel
theorem d_Rd_readElement_38 : decode prog_7_method_9_code 38 = .ok (.iaload, 1) := by decide +kernel
theorem d_Rd_readElement_39 : decode prog_7_method_9_code 39 = .ok (.if_icmp .gt 13, 3) := by decide +kernel
theorem d_Rd_readElement_42 : decode prog_7_method_9_code 42 = .ok (.aload_n 0, 1) := by decide +kernel
theorem d_Rd_readElement_43 : decode prog_7_method_9_code 43 = .ok (.iconst 2, 1) := by decide +kernel
theorem d_Rd_readElement_44 : decode prog_7_method_9_code 44 = .ok (.aload_n 0, 1) := by decide +kernel
theorem d_Rd_readElement_45 : decode prog_7_method_9_code 45 = .ok (.getfield 48, 3) := by decide +kernel
theorem d_Rd_readElement_48 : decode prog_7_method_9_code 48 = .ok (.invokevirtual 95, 3) := by decide +kernel
theorem d_Rd_readElement_51 : decode prog_7_method_9_code 51 = .ok (.return_, 1) := by decide +kernel
theorem d_Rd_readElement_52 : decode prog_7_method_9_code 52 = .ok (.aload_n 0, 1) := by decide +kernel
theorem d_Rd_readElement_53 : decode prog_7_method_9_code 53 = .ok (.getfield 29, 3) := by decide +kernel
theorem d_Rd_readElement_56 : decode prog_7_method_9_code 56 = .ok (.aload_n 0, 1) := by decide +kernel
theorem d_Rd_readElement_57 : decode prog_7_method_9_code 57 = .ok (.getfield 51, 3) := by decide +kernel
theorem d_Rd_readElement_60 : decode prog_7_method_9_code 60 = .ok (.iaload, 1) := by decide +kernel
theorem d_Rd_readElement_61 : decode prog_7_method_9_code 61 = .ok (.bipush 10, 2) := by decide +kernel
theorem d_Rd_readElement_63 : decode prog_7_method_9_code 63 = .ok (.if_icmp .ne 14, 3) := by decide +kernel
theorem d_Rd_readElement_66 : decode prog_7_method_9_code 66 = .ok (.aload_n 0, 1) := by decide +kernel
theorem d_Rd_readElement_67 : decode prog_7_method_9_code 67 = .ok (.bipush 7, 2) := by decide +kernel
theorem d_Rd_readElement_69 : decode prog_7_method_9_code 69 = .ok (.aload_n 0, 1) := by decide +kernel
theorem d_Rd_readElement_70 : decode prog_7_method_9_code 70 = .ok (.getfield 48, 3) := by decide +kernel
theorem d_Rd_readElement_73 : decode prog_7_method_9_code 73 = .ok (.invokevirtual 95, 3) := by decide +kernel
theorem d_Rd_readElement_76 : decode prog_7_method_9_code 76 = .ok (.return_, 1) := by decide +kernel
theorem d_Rd_readElement_77 : decode prog_7_method_9_code 77 = .ok (.iload_n 2, 1) := by decide +kernel
theorem d_Rd_readElement_78 : decode prog_7_method_9_code 78 = .ok (.iconst 3, 1) := by decide +kernel
theorem d_Rd_readElement_79 : decode prog_7_method_9_code 79 = .ok (.if_icmp .ne 22, 3) := by decide +kernel
theorem d_Rd_readElement_82 : decode prog_7_method_9_code 82 = .ok (.aload_n 0, 1) := by decide +kernel
theorem d_Rd_readElement_83 : decode prog_7_method_9_code 83 = .ok (.getfield 51, 3) := by decide +kernel
theorem d_Rd_readElement_86 : decode prog_7_method_9_code 86 = .ok (.iconst 4, 1) := by decide +kernel
theorem d_Rd_readElement_87 : decode prog_7_method_9_code 87 = .ok (.if_icmp .ne 14, 3) := by decide +kernel
theorem d_Rd_readElement_90 : decode prog_7_method_9_code 90 = .ok (.aload_n 0, 1) := by decide +kernel
theorem d_Rd_readElement_91 : decode prog_7_method_9_code 91 = .ok (.bipush 8, 2) := by decide +kernel
theorem d_Rd_readElement_93 : decode prog_7_method_9_code 93 = .ok (.aload_n 0, 1) := by decide +kernel
theorem d_Rd_readElement_94 : decode prog_7_method_9_code 94 = .ok (.getfield 48, 3) := by decide +kernel
theorem d_Rd_readElement_97 : decode prog_7_method_9_code 97 = .ok (.invokevirtual 95, 3) := by decide +kernel
theorem d_Rd_readElement_100 : decode prog_7_method_9_code 100 = .ok (.return_, 1) := by decide +kernel
theorem d_Rd_readElement_101 : decode prog_7_method_9_code 101 = .ok (.aload_n 0, 1) := by decide +kernel
theorem d_Rd_readElement_102 : decode prog_7_method_9_code 102 = .ok (.getfield 32, 3) := by decide +kernel
theorem d_Rd_readElement_105 : decode prog_7_method_9_code 105 = .ok (.aload_n 0, 1) := by decide +kernel
theorem d_Rd_readElement_106 : decode prog_7_method_9_code 106 = .ok (.getfield 51, 3) := by decide +kernel
theorem d_Rd_readElement_109 : decode prog_7_method_9_code 109 = .ok (.iload_n 1, 1) := by decide +kernel
theorem d_Rd_readElement_110 : decode prog_7_method_9_code 110 = .ok (.iastore, 1) := by decide +kernel
theorem d_Rd_readElement_111 : decode prog_7_method_9_code 111 = .ok (.aload_n 0, 1) := by decide +kernel
theorem d_Rd_readElement_112 : decode prog_7_method_9_code 112 = .ok (.getfield 29, 3) := by decide +kernel
theorem d_Rd_readElement_115 : decode prog_7_method_9_code 115 = .ok (.aload_n 0, 1) := by decide +kernel
theorem d_Rd_readElement_116 : decode prog_7_method_9_code 116 = .ok (.getfield 51, 3) := by decide +kernel
theorem d_Rd_readElement_119 : decode prog_7_method_9_code 119 = .ok (.dup2, 1) := by decide +kernel
theorem d_Rd_readElement_120 : decode prog_7_method_9_code 120 = .ok (.iaload, 1) := by decide +kernel
theorem d_Rd_readElement_121 : decode prog_7_method_9_code 121 = .ok (.iconst 1, 1) := by decide +kernel
theorem d_Rd_readElement_122 : decode prog_7_method_9_code 122 = .ok (.iadd, 1) := by decide +kernel
theorem d_Rd_readElement_123 : decode prog_7_method_9_code 123 = .ok (.iastore, 1) := by decide +kernel
theorem d_Rd_readElement_124 : decode prog_7_method_9_code 124 = .ok (.aload_n 0, 1) := by decide +kernel
theorem d_Rd_readElement_125 : decode prog_7_method_9_code 125 = .ok (.dup, 1) := by decide +kernel
theorem d_Rd_readElement_126 : decode prog_7_method_9_code 126 = .ok (.getfield 48, 3) := by decide +kernel
theorem d_Rd_readElement_129 : decode prog_7_method_9_code 129 = .ok (.iconst 1, 1) := by decide +kernel
theorem d_Rd_readElement_130 : decode prog_7_method_9_code 130 = .ok (.iadd, 1) := by decide +kernel
theorem d_Rd_readElement_131 : decode prog_7_method_9_code 131 = .ok (.putfield 48, 3) := by decide +kernel
theorem d_Rd_readElement_134 : decode prog_7_method_9_code 134 = .ok (.aload_n 0, 1) := by decide +kernel
theorem d_Rd_readElement_135 : decode prog_7_method_9_code 135 = .ok (.iload_n 2, 1) := by decide +kernel
theorem d_Rd_readElement_136 : decode prog_7_method_9_code 136 = .ok (.invokevirtual 102, 3) := by decide +kernel
theorem d_Rd_readElement_139 : decode prog_7_method_9_code 139 = .ok (.ifCond .ne 4, 3) := by decide +kernel
theorem d_Rd_readElement_142 : decode prog_7_method_9_code 142 = .ok (.return_, 1) := by decide +kernel
theorem d_Rd_readElement_143 : decode prog_7_method_9_code 143 = .ok (.aload_n 0, 1) := by decide +kernel
theorem d_Rd_readElement_144 : decode prog_7_method_9_code 144 = .ok (.iload_n 2, 1) := by decide +kernel
theorem d_Rd_readElement_145 : decode prog_7_method_9_code 145 = .ok (.invokevirtual 105, 3) := by decide +kernel
theorem d_Rd_readElement_148 : decode prog_7_method_9_code 148 = .ok (.istore_n 3, 1) := by decide +kernel
theorem d_Rd_readElement_149 : decode prog_7_method_9_code 149 = .ok (.iload_n 3, 1) := by decide +kernel
theorem d_Rd_readElement_150 : decode prog_7_method_9_code 150 = .ok (.iconst (-1), 1) := by decide +kernel
theorem d_Rd_readElement_151 : decode prog_7_method_9_code 151 = .ok (.if_icmp .ne 4, 3) := by decide +kernel
theorem d_Rd_readElement_154 : decode prog_7_method_9_code 154 = .ok (.return_, 1) := by decide +kernel
theorem d_Rd_readElement_155 : decode prog_7_method_9_code 155 = .ok (.iload_n 2, 1) := by decide +kernel
theorem d_Rd_readElement_156 : decode prog_7_method_9_code 156 = .ok (.iconst 1, 1) := by decide +kernel
theorem d_Rd_readElement_157 : decode prog_7_method_9_code 157 = .ok (.if_icmp .ne 12, 3) := by decide +kernel
theorem d_Rd_readElement_160 : decode prog_7_method_9_code 160 = .ok (.aload_n 0, 1) := by decide +kernel
theorem d_Rd_readElement_161 : decode prog_7_method_9_code 161 = .ok (.iload_n 1, 1) := by decide +kernel
theorem d_Rd_readElement_162 : decode prog_7_method_9_code 162 = .ok (.iload_n 3, 1) := by decide +kernel
theorem d_Rd_readElement_163 : decode prog_7_method_9_code 163 = .ok (.invokevirtual 108, 3) := by decide +kernel
theorem d_Rd_readElement_166 : decode prog_7_method_9_code 166 = .ok (.goto 39, 3) := by decide +kernel
theorem d_Rd_readElement_169 : decode prog_7_method_9_code 169 = .ok (.iload_n 2, 1) := by decide +kernel
theorem d_Rd_readElement_170 : decode prog_7_method_9_code 170 = .ok (.iconst 2, 1) := by decide +kernel
theorem d_Rd_readElement_171 : decode prog_7_method_9_code 171 = .ok (.if_icmp .ne 12, 3) := by decide +kernel
theorem d_Rd_readElement_174 : decode prog_7_method_9_code 174 = .ok (.aload_n 0, 1) := by decide +kernel
theorem d_Rd_readElement_175 : decode prog_7_method_9_code 175 = .ok (.iload_n 1, 1) := by decide +kernel
theorem d_Rd_readElement_176 : decode prog_7_method_9_code 176 = .ok (.iload_n 3, 1) := by decide +kernel
theorem d_Rd_readElement_177 : decode prog_7_method_9_code 177 = .ok (.invokevirtual 111, 3) := by decide +kernel
theorem d_Rd_readElement_180 : decode prog_7_method_9_code 180 = .ok (.goto 25, 3) := by decide +kernel
theorem d_Rd_readElement_183 : decode prog_7_method_9_code 183 = .ok (.aload_n 0, 1) := by decide +kernel
theorem d_Rd_readElement_184 : decode prog_7_method_9_code 184 = .ok (.iload_n 1, 1) := by decide +kernel
theorem d_Rd_readElement_185 : decode prog_7_method_9_code 185 = .ok (.aload_n 0, 1) := by decide +kernel
theorem d_Rd_readElement_186 : decode prog_7_method_9_code 186 = .ok (.iload_n 3, 1) := by decide +kernel
theorem d_Rd_readElement_187 : decode prog_7_method_9_code 187 = .ok (.invokevirtual 114, 3) := by decide +kernel
theorem d_Rd_readElement_190 : decode prog_7_method_9_code 190 = .ok (.iload_n 3, 1) := by decide +kernel
theorem d_Rd_readElement_191 : decode prog_7_method_9_code 191 = .ok (.sipush 255, 3) := by decide +kernel
theorem d_Rd_readElement_194 : decode prog_7_method_9_code 194 = .ok (.if_icmp .ne 7, 3) := by decide +kernel
theorem d_Rd_readElement_197 : decode prog_7_method_9_code 197 = .ok (.iconst 1, 1) := by decide +kernel
theorem d_Rd_readElement_198 : decode prog_7_method_9_code 198 = .ok (.goto 4, 3) := by decide +kernel
theorem d_Rd_readElement_201 : decode prog_7_method_9_code 201 = .ok (.iconst 0, 1) := by decide +kernel
theorem d_Rd_readElement_202 : decode prog_7_method_9_code 202 = .ok (.invokevirtual 64, 3) := by decide +kernel
theorem d_Rd_readElement_205 : decode prog_7_method_9_code 205 = .ok (.return_, 1) := by decide +kernel
theorem d_Rd_readItem_0 : decode prog_7_method_10_code 0 = .ok (.aload_n 0, 1) := by decide +kernel
theorem d_Rd_readItem_1 : decode prog_7_method_10_code 1 = .ok (.getfield 40, 3) := by decide +kernel
theorem d_Rd_readItem_4 : decode prog_7_method_10_code 4 = .ok (.aload_n 0, 1) := by decide +kernel
theorem d_Rd_readItem_5 : decode prog_7_method_10_code 5 = .ok (.getfield 48, 3) := by decide +kernel
theorem d_Rd_readItem_8 : decode prog_7_method_10_code 8 = .ok (.invokevirtual 71, 3) := by decide +kernel
theorem d_Rd_readItem_11 : decode prog_7_method_10_code 11 = .ok (.sipush 254, 3) := by decide +kernel
theorem d_Rd_readItem_14 : decode prog_7_method_10_code 14 = .ok (.if_icmp .eq 14, 3) := by decide +kernel
theorem d_Rd_readItem_17 : decode prog_7_method_10_code 17 = .ok (.aload_n 0, 1) := by decide +kernel
theorem d_Rd_readItem_18 : decode prog_7_method_10_code 18 = .ok (.bipush 6, 2) := by decide +kernel
theorem d_Rd_readItem_20 : decode prog_7_method_10_code 20 = .ok (.aload_n 0, 1) := by decide +kernel
theorem d_Rd_readItem_21 : decode prog_7_method_10_code 21 = .ok (.getfield 48, 3) := by decide +kernel
theorem d_Rd_readItem_24 : decode prog_7_method_10_code 24 = .ok (.invokevirtual 95, 3) := by decide +kernel
theorem d_Rd_readItem_27 : decode prog_7_method_10_code 27 = .ok (.return_, 1) := by decide +kernel
theorem d_Rd_readItem_28 : decode prog_7_method_10_code 28 = .ok (.aload_n 0, 1) := by decide +kernel
theorem d_Rd_readItem_29 : decode prog_7_method_10_code 29 = .ok (.getfield 29, 3) := by decide +kernel
theorem d_Rd_readItem_32 : decode prog_7_method_10_code 32 = .ok (.aload_n 0, 1) := by decide +kernel
theorem d_Rd_readItem_33 : decode prog_7_method_10_code 33 = .ok (.getfield 51, 3) := by decide +kernel
theorem d_Rd_readItem_36 : decode prog_7_method_10_code 36 = .ok (.iaload, 1) := by decide +kernel
theorem d_Rd_readItem_37 : decode prog_7_method_10_code 37 = .ok (.iconst 4, 1) := by decide +kernel
theorem d_Rd_readItem_38 : decode prog_7_method_10_code 38 = .ok (.if_icmp .ne 14, 3) := by decide +kernel
theorem d_Rd_readItem_41 : decode prog_7_method_10_code 41 = .ok (.aload_n 0, 1) := by decide +kernel
theorem d_Rd_readItem_42 : decode prog_7_method_10_code 42 = .ok (.bipush 7, 2) := by decide +kernel
theorem d_Rd_readItem_44 : decode prog_7_method_10_code 44 = .ok (.aload_n 0, 1) := by decide +kernel
theorem d_Rd_readItem_45 : decode prog_7_method_10_code 45 = .ok (.getfield 48, 3) := by decide +kernel
theorem d_Rd_readItem_48 : decode prog_7_method_10_code 48 = .ok (.invokevirtual 95, 3) := by decide +kernel
theorem d_Rd_readItem_51 : decode prog_7_method_10_code 51 = .ok (.return_, 1) := by decide +kernel
theorem d_Rd_readItem_52 : decode prog_7_method_10_code 52 = .ok (.aload_n 0, 1) := by decide +kernel
theorem d_Rd_readItem_53 : decode prog_7_method_10_code 53 = .ok (.getfield 29, 3) := by decide +kernel
theorem d_Rd_readItem_56 : decode prog_7_method_10_code 56 = .ok (.aload_n 0, 1) := by decide +kernel
theorem d_Rd_readItem_57 : decode prog_7_method_10_code 57 = .ok (.getfield 51, 3) := by decide +kernel
theorem d_Rd_readItem_60 : decode prog_7_method_10_code 60 = .ok (.dup2, 1) := by decide +kernel
theorem d_Rd_readItem_61 : decode prog_7_method_10_code 61 = .ok (.iaload, 1) := by decide +kernel
theorem d_Rd_readItem_62 : decode prog_7_method_10_code 62 = .ok (.iconst 1, 1) := by decide +kernel
theorem d_Rd_readItem_63 : decode prog_7_method_10_code 63 = .ok (.iadd, 1) := by decide +kernel
theorem d_Rd_readItem_64 : decode prog_7_method_10_code 64 = .ok (.iastore, 1) := by decide +kernel
theorem d_Rd_readItem_65 : decode prog_7_method_10_code 65 = .ok (.aload_n 0, 1) := by decide +kernel
theorem d_Rd_readItem_66 : decode prog_7_method_10_code 66 = .ok (.dup, 1) := by decide +kernel
theorem d_Rd_readItem_67 : decode prog_7_method_10_code 67 = .ok (.getfield 48, 3) := by decide +kernel
theorem d_Rd_readItem_70 : decode prog_7_method_10_code 70 = .ok (.iconst 1, 1) := by decide +kernel
theorem d_Rd_readItem_71 : decode prog_7_method_10_code 71 = .ok (.iadd, 1) := by decide +kernel
theorem d_Rd_readItem_72 : decode prog_7_method_10_code 72 = .ok (.putfield 48, 3) := by decide +kernel
theorem d_Rd_readItem_75 : decode prog_7_method_10_code 75 = .ok (.aload_n 0, 1) := by decide +kernel
theorem d_Rd_readItem_76 : decode prog_7_method_10_code 76 = .ok (.iconst 4, 1) := by decide +kernel
theorem d_Rd_readItem_77 : decode prog_7_method_10_code 77 = .ok (.invokevirtual 105, 3) := by decide +kernel
theorem d_Rd_readItem_80 : decode prog_7_method_10_code 80 = .ok (.istore_n 1, 1) := by decide +kernel
theorem d_Rd_readItem_81 : decode prog_7_method_10_code 81 = .ok (.iload_n 1, 1) := by decide +kernel
theorem d_Rd_readItem_82 : decode prog_7_method_10_code 82 = .ok (.iconst (-1), 1) := by decide +kernel
theorem d_Rd_readItem_83 : decode prog_7_method_10_code 83 = .ok (.if_icmp .eq 27, 3) := by decide +kernel
theorem d_Rd_readItem_86 : decode prog_7_method_10_code 86 = .ok (.aload_n 0, 1) := by decide +kernel
theorem d_Rd_readItem_87 : decode prog_7_method_10_code 87 = .ok (.sipush 254, 3) := by decide +kernel
theorem d_Rd_readItem_90 : decode prog_7_method_10_code 90 = .ok (.aload_n 0, 1) := by decide +kernel
theorem d_Rd_readItem_91 : decode prog_7_method_10_code 91 = .ok (.iload_n 1, 1) := by decide +kernel
theorem d_Rd_readItem_92 : decode prog_7_method_10_code 92 = .ok (.invokevirtual 114, 3) := by decide +kernel
theorem d_Rd_readItem_95 : decode prog_7_method_10_code 95 = .ok (.iload_n 1, 1) := by decide +kernel
theorem d_Rd_readItem_96 : decode prog_7_method_10_code 96 = .ok (.sipush 255, 3) := by decide +kernel
theorem d_Rd_readItem_99 : decode prog_7_method_10_code 99 = .ok (.if_icmp .ne 7, 3) := by decide +kernel
theorem d_Rd_readItem_102 : decode prog_7_method_10_code 102 = .ok (.iconst 1, 1) := by decide +kernel
theorem d_Rd_readItem_103 : decode prog_7_method_10_code 103 = .ok (.goto 4, 3) := by decide +kernel
theorem d_Rd_readItem_106 : decode prog_7_method_10_code 106 = .ok (.iconst 0, 1) := by decide +kernel
theorem d_Rd_readItem_107 : decode prog_7_method_10_code 107 = .ok (.invokevirtual 64, 3) := by decide +kernel
theorem d_Rd_readItem_110 : decode prog_7_method_10_code 110 = .ok (.return_, 1) := by decide +kernel
theorem d_Rd_read_0 : decode prog_7_method_3_code 0 = .ok (.aload_n 0, 1) := by decide +kernel
theorem d_Rd_read_1 : decode prog_7_method_3_code 1 = .ok (.aload_n 1, 1) := by decide +kernel
theorem d_Rd_read_2 : decode prog_7_method_3_code 2 = .ok (.putfield 40, 3) := by decide +kernel
theorem d_Rd_read_5 : decode prog_7_method_3_code 5 = .ok (.aload_n 0, 1) := by decide +kernel
theorem d_Rd_read_6 : decode prog_7_method_3_code 6 = .ok (.iload_n 2, 1) := by decide +kernel
theorem d_Rd_read_7 : decode prog_7_method_3_code 7 = .ok (.putfield 44, 3) := by decide +kernel
theorem d_Rd_read_10 : decode prog_7_method_3_code 10 = .ok (.aload_n 0, 1) := by decide +kernel
theorem d_Rd_read_11 : decode prog_7_method_3_code 11 = .ok (.iconst 0, 1) := by decide +kernel
theorem d_Rd_read_12 : decode prog_7_method_3_code 12 = .ok (.putfield 48, 3) := by decide +kernel
theorem d_Rd_read_15 : decode prog_7_method_3_code 15 = .ok (.aload_n 0, 1) := by decide +kernel
theorem d_Rd_read_16 : decode prog_7_method_3_code 16 = .ok (.iconst 0, 1) := by decide +kernel
theorem d_Rd_read_17 : decode prog_7_method_3_code 17 = .ok (.putfield 54, 3) := by decide +kernel
theorem d_Rd_read_20 : decode prog_7_method_3_code 20 = .ok (.aload_n 0, 1) := by decide +kernel
theorem d_Rd_read_21 : decode prog_7_method_3_code 21 = .ok (.iconst (-1), 1) := by decide +kernel
theorem d_Rd_read_22 : decode prog_7_method_3_code 22 = .ok (.putfield 51, 3) := by decide +kernel
theorem d_Rd_read_25 : decode prog_7_method_3_code 25 = .ok (.aload_n 0, 1) := by decide +kernel
theorem d_Rd_read_26 : decode prog_7_method_3_code 26 = .ok (.getfield 12, 3) := by decide +kernel
theorem d_Rd_read_29 : decode prog_7_method_3_code 29 = .ok (.invokevirtual 57, 3) := by decide +kernel
theorem d_Rd_read_32 : decode prog_7_method_3_code 32 = .ok (.aload_n 0, 1) := by decide +kernel
theorem d_Rd_read_33 : decode prog_7_method_3_code 33 = .ok (.sipush 254, 3) := by decide +kernel
theorem d_Rd_read_36 : decode prog_7_method_3_code 36 = .ok (.aload_n 1, 1) := by decide +kernel
theorem d_Rd_read_37 : decode prog_7_method_3_code 37 = .ok (.invokevirtual 60, 3) := by decide +kernel
theorem d_Rd_read_40 : decode prog_7_method_3_code 40 = .ok (.iconst 0, 1) := by decide +kernel
theorem d_Rd_read_41 : decode prog_7_method_3_code 41 = .ok (.invokevirtual 64, 3) := by decide +kernel
theorem d_Rd_read_44 : decode prog_7_method_3_code 44 = .ok (.iconst 2, 1) := by decide +kernel
theorem d_Rd_read_45 : decode prog_7_method_3_code 45 = .ok (.aload_n 1, 1) := by decide +kernel
theorem d_Rd_read_46 : decode prog_7_method_3_code 46 = .ok (.invokevirtual 60, 3) := by decide +kernel
theorem d_Rd_read_49 : decode prog_7_method_3_code 49 = .ok (.imul, 1) := by decide +kernel
theorem d_Rd_read_50 : decode prog_7_method_3_code 50 = .ok (.iconst 2, 1) := by decide +kernel
theorem d_Rd_read_51 : decode prog_7_method_3_code 51 = .ok (.iadd, 1) := by decide +kernel
theorem d_Rd_read_52 : decode prog_7_method_3_code 52 = .ok (.istore_n 3, 1) := by decide +kernel
theorem d_Rd_read_53 : decode prog_7_method_3_code 53 = .ok (.iconst 0, 1) := by decide +kernel
theorem d_Rd_read_54 : decode prog_7_method_3_code 54 = .ok (.istore 4, 2) := by decide +kernel
theorem d_Rd_read_56 : decode prog_7_method_3_code 56 = .ok (.iload 4, 2) := by decide +kernel
theorem d_Rd_read_58 : decode prog_7_method_3_code 58 = .ok (.iload_n 3, 1) := by decide +kernel
theorem d_Rd_read_59 : decode prog_7_method_3_code 59 = .ok (.if_icmp .ge 101, 3) := by decide +kernel
theorem d_Rd_read_62 : decode prog_7_method_3_code 62 = .ok (.aload_n 0, 1) := by decide +kernel
theorem d_Rd_read_63 : decode prog_7_method_3_code 63 = .ok (.getfield 51, 3) := by decide +kernel
theorem d_Rd_read_66 : decode prog_7_method_3_code 66 = .ok (.ifCond .lt 94, 3) := by decide +kernel
theorem d_Rd_read_69 : decode prog_7_method_3_code 69 = .ok (.aload_n 0, 1) := by decide +kernel
theorem d_Rd_read_70 : decode prog_7_method_3_code 70 = .ok (.getfield 54, 3) := by decide +kernel
theorem d_Rd_read_73 : decode prog_7_method_3_code 73 = .ok (.ifCond .ne 87, 3) := by decide +kernel
theorem d_Rd_read_76 : decode prog_7_method_3_code 76 = .ok (.aload_n 0, 1) := by decide +kernel
theorem d_Rd_read_77 : decode prog_7_method_3_code 77 = .ok (.getfield 48, 3) := by decide +kernel
theorem d_Rd_read_80 : decode prog_7_method_3_code 80 = .ok (.aload_n 0, 1) := by decide +kernel
theorem d_Rd_read_81 : decode prog_7_method_3_code 81 = .ok (.getfield 22, 3) := by decide +kernel
theorem d_Rd_read_84 : decode prog_7_method_3_code 84 = .ok (.aload_n 0, 1) := by decide +kernel
theorem d_Rd_read_85 : decode prog_7_method_3_code 85 = .ok (.getfield 51, 3) := by decide +kernel
theorem d_Rd_read_88 : decode prog_7_method_3_code 88 = .ok (.iaload, 1) := by decide +kernel
theorem d_Rd_read_89 : decode prog_7_method_3_code 89 = .ok (.if_icmp .lt 10, 3) := by decide +kernel
theorem d_Rd_read_92 : decode prog_7_method_3_code 92 = .ok (.aload_n 0, 1) := by decide +kernel
theorem d_Rd_read_93 : decode prog_7_method_3_code 93 = .ok (.invokevirtual 68, 3) := by decide +kernel
theorem d_Rd_read_96 : decode prog_7_method_3_code 96 = .ok (.goto 58, 3) := by decide +kernel
theorem d_Rd_read_99 : decode prog_7_method_3_code 99 = .ok (.aload_n 0, 1) := by decide +kernel
theorem d_Rd_read_100 : decode prog_7_method_3_code 100 = .ok (.aload_n 0, 1) := by decide +kernel
theorem d_Rd_read_101 : decode prog_7_method_3_code 101 = .ok (.getfield 40, 3) := by decide +kernel
theorem d_Rd_read_104 : decode prog_7_method_3_code 104 = .ok (.aload_n 0, 1) := by decide +kernel
theorem d_Rd_read_105 : decode prog_7_method_3_code 105 = .ok (.getfield 48, 3) := by decide +kernel
theorem d_Rd_read_108 : decode prog_7_method_3_code 108 = .ok (.invokevirtual 71, 3) := by decide +kernel
theorem d_Rd_read_111 : decode prog_7_method_3_code 111 = .ok (.invokevirtual 75, 3) := by decide +kernel
theorem d_Rd_read_114 : decode prog_7_method_3_code 114 = .ok (.ifCond .eq 20, 3) := by decide +kernel
theorem d_Rd_read_117 : decode prog_7_method_3_code 117 = .ok (.aload_n 0, 1) := by decide +kernel
theorem d_Rd_read_118 : decode prog_7_method_3_code 118 = .ok (.dup, 1) := by decide +kernel
theorem d_Rd_read_119 : decode prog_7_method_3_code 119 = .ok (.getfield 48, 3) := by decide +kernel
theorem d_Rd_read_122 : decode prog_7_method_3_code 122 = .ok (.iconst 1, 1) := by decide +kernel
theorem d_Rd_read_123 : decode prog_7_method_3_code 123 = .ok (.iadd, 1) := by decide +kernel
theorem d_Rd_read_124 : decode prog_7_method_3_code 124 = .ok (.putfield 48, 3) := by decide +kernel
theorem d_Rd_read_127 : decode prog_7_method_3_code 127 = .ok (.aload_n 0, 1) := by decide +kernel
theorem d_Rd_read_128 : decode prog_7_method_3_code 128 = .ok (.invokevirtual 79, 3) := by decide +kernel
theorem d_Rd_read_131 : decode prog_7_method_3_code 131 = .ok (.goto 23, 3) := by decide +kernel
theorem d_Rd_read_134 : decode prog_7_method_3_code 134 = .ok (.aload_n 0, 1) := by decide +kernel
theorem d_Rd_read_135 : decode prog_7_method_3_code 135 = .ok (.getfield 51, 3) := by decide +kernel
theorem d_Rd_read_138 : decode prog_7_method_3_code 138 = .ok (.iconst 2, 1) := by decide +kernel
theorem d_Rd_read_139 : decode prog_7_method_3_code 139 = .ok (.irem, 1) := by decide +kernel
theorem d_Rd_read_140 : decode prog_7_method_3_code 140 = .ok (.ifCond .ne 10, 3) := by decide +kernel
theorem d_Rd_read_143 : decode prog_7_method_3_code 143 = .ok (.aload_n 0, 1) := by decide +kernel
theorem d_Rd_read_144 : decode prog_7_method_3_code 144 = .ok (.invokevirtual 82, 3) := by decide +kernel
theorem d_Rd_read_147 : decode prog_7_method_3_code 147 = .ok (.goto 7, 3) := by decide +kernel
theorem d_Rd_read_150 : decode prog_7_method_3_code 150 = .ok (.aload_n 0, 1) := by decide +kernel
theorem d_Rd_read_151 : decode prog_7_method_3_code 151 = .ok (.invokevirtual 85, 3) := by decide +kernel
theorem d_Rd_read_154 : decode prog_7_method_3_code 154 = .ok (.iinc 4 1, 3) := by decide +kernel
theorem d_Rd_read_157 : decode prog_7_method_3_code 157 = .ok (.goto (-101), 3) := by decide +kernel
theorem d_Rd_read_160 : decode prog_7_method_3_code 160 = .ok (.aload_n 0, 1) := by decide +kernel
theorem d_Rd_read_161 : decode prog_7_method_3_code 161 = .ok (.getfield 54, 3) := by decide +kernel
theorem d_Rd_read_164 : decode prog_7_method_3_code 164 = .ok (.ireturn, 1) := by decide +kernel
theorem d_Rd_tree_0 : decode prog_7_method_2_code 0 = .ok (.aload_n 0, 1) := by decide +kernel
theorem d_Rd_tree_1 : decode prog_7_method_2_code 1 = .ok (.getfield 12, 3) := by decide +kernel
theorem d_Rd_tree_4 : decode prog_7_method_2_code 4 = .ok (.areturn, 1) := by decide +kernel
def ws_Rd_fail : List Cond := .code y_Rd_fail prog_7_method_4_code 3 none :: TB
def B_Rd_fail_0 (s0 : S_Rd) (x1 : Int32) (x2 : Int32) : Option S_Rd :=
  some (Rd_set_result s0 (x1 + ((16 : Int32) * x2)))
def F_Rd_fail (s0 : S_Rd) (x1 : Int32) (x2 : Int32) : Option S_Rd := B_Rd_fail_0 s0 x1 x2
set_option maxRecDepth 100000 in
set_option maxHeartbeats 4000000 in
theorem t_Rd_fail_0 {p : Program} {l : Launch} {e : Env} {s : State} {m : MethodId} {args : Array Value} {below : List Frame} {meth : Method} {c : Code} {D : va_G} {A : Nat → Prop} {g : Nat → ClassId} {rest : va_W} {a0 : Nat → Nat} {a1 : Nat → Nat} {sr : Nat → Nat} {ls : Array Slot} {H : Heap} {locs : List Loc} {s0 : S_Rd} {x1 : Int32} {x2 : Int32} {out : S_Rd} (X : Cx p s m args meth c prog_7_method_4_code 3 ws_Rd_fail R_Rd none D g) (hl : lv_has ls 3 [(0, .ref (a0 0)), (1, .int x1), (2, .int x2)]) (hI : Iw D A (w_Rd g a0 (tw (a1 0) (sr 0)) s0 ++ (rest)) H) (hS : va_S A s.heap H locs) (h : B_Rd_fail_0  s0 x1 x2 = some out) : W p l e (headSpec ws_Rd_fail { frames := 0, cells := 0, slots := 0, locals := 0 }).room s m args below meth c H locs 0 0 (MQ below (QcV D A g (fun (_ : Unit) => w_Rd g a0 (tw (a1 0) (sr 0)) out ++ (rest))) args s 0 0 A) (F0 m 0 ls []) := by
  have X1 := X
  obtain ⟨hx, hb, hml, hown, hts, hr, hlocks, hKK⟩ := X1
  have ht : ∀ w ∈ TB, w.before args s = true := fun w h => hts w (List.mem_cons_of_mem _ h)
  have hK := hKK.1
  unfold B_Rd_fail_0 at h
  refine lv_aload_n hx hb d_Rd_fail_0 rfl (lv_at hl 0 rfl) ?_
  refine lv_iload_n hx hb d_Rd_fail_1 rfl (lv_at hl 1 rfl) ?_
  refine lv_bipush (v := 16) hx hb d_Rd_fail_2 (by decide) ?_
  refine lv_iload_n hx hb d_Rd_fail_4 rfl (lv_at hl 2 rfl) ?_
  refine lv_imul hx hb d_Rd_fail_5 ?_
  refine lv_iadd hx hb d_Rd_fail_6 ?_
  refine va_put (D := D) (ci := 5) (v := .int (x1 + ((16 : Int32) * x2))) (ty := .int) (C := R_Rd) (T := T_Rd) (N := 11) hx hb ht in_Rd ty_Rd tyok_Rd nm_Rd hown hK hI.1 hI.2 hS 0 rfl rfl 10 (by decide) (ht _ m_168) (fun _ h9 => h9) rfl (by decide +kernel) rfl rfl (Nat.le_of_ble_eq_true rfl) d_Rd_fail_7 (fun H locs hP hD hS => ?_)
  have hI : Iw D A (w_Rd g a0 (tw (a1 0) (sr 0)) (Rd_set_result s0 (x1 + ((16 : Int32) * x2))) ++ (rest)) H := ⟨hP, hD⟩
  have h9 := Option.some.inj h
  subst h9
  exact W.vret hx hb hr (fun t ht hW => ⟨⟨(), rfl, trivial, ⟨by rw [ht]; exact hI, hKK.moved hW⟩⟩, hS.F ht⟩) hS.2.2 d_Rd_fail_10
set_option maxRecDepth 100000 in
set_option maxHeartbeats 4000000 in
theorem c_Rd_fail {l : Launch} {D : va_G} {A : Nat → Prop} {g : Nat → ClassId} {rest : va_W} {a0 : Nat → Nat} {a1 : Nat → Nat} {sr : Nat → Nat} {s0 : S_Rd} {x1 : Int32} {x2 : Int32} {out : S_Rd} (h : F_Rd_fail s0 x1 x2 = some out) : Met l y_Rd_fail ws_Rd_fail { frames := 0, cells := 0, slots := 0, locals := 0 } (PcW D A g [.ref (a0 0), .int x1, .int x2] (w_Rd g a0 (tw (a1 0) (sr 0)) s0 ++ (rest))) (QcV D A g (fun (_ : Unit) => w_Rd g a0 (tw (a1 0) (sr 0)) out ++ (rest))) 0 0 A := by
  refine Met.ofW (cc := prog_7_method_4_code) (maxL := 3) (ret := none) (by decide) rfl ?_
  intro p e s m args below meth c s₁ B hml hv
  obtain ⟨rfl, hI, hK⟩ := hv
  have hl := lv_entry [.ref (a0 0), .int x1, .int x2] (n := 3) (Nat.le_of_ble_eq_true rfl)
  rw [lg_entry_eq]
  generalize (lg_sl [.ref (a0 0), .int x1, .int x2] ++ List.replicate (3 - (lg_sl [.ref (a0 0), .int x1, .int x2]).length) Slot.unset).toArray = ls at hl ⊢
  have hl : lv_has ls 3 [(0, .ref (a0 0)), (1, .int x1), (2, .int x2)] := hl
  exact t_Rd_fail_0 ⟨B.exec, B.bytes, hml, findClass_of_methodNamed B.named, atoms_spec (ws := ws_Rd_fail) B.pre, B.returns, B.notSynchronized, hK⟩ (lv_sub hl [0, 1, 2] rfl) hI va_S.rf h
def ws_Rd_leave : List Cond := .code y_Rd_leave prog_7_method_6_code 1 none :: TB
def B_Rd_leave_0 (s0 : S_Rd) (s1 : S_Tr) : Option (S_Rd × S_Tr) :=
  (if ((Rd_level s0) < 0 ∨ 5 ≤ (Rd_level s0).toNatClampNeg) then none else ((F_Tr_finish s1 ((Rd_nodes s0) (Rd_level s0).toNatClampNeg)).bind fun o2 => some ((Rd_set_level s0 ((Rd_level s0) - (1 : Int32))), o2)))
def F_Rd_leave (s0 : S_Rd) (s1 : S_Tr) : Option (S_Rd × S_Tr) := B_Rd_leave_0 s0 s1
set_option maxRecDepth 100000 in
set_option maxHeartbeats 4000000 in
theorem t_Rd_leave_0 {p : Program} {l : Launch} {e : Env} {s : State} {m : MethodId} {args : Array Value} {below : List Frame} {meth : Method} {c : Code} {D : va_G} {A : Nat → Prop} {g : Nat → ClassId} {rest : va_W} {a0 : Nat → Nat} {a1 : Nat → Nat} {sr : Nat → Nat} {ls : Array Slot} {H : Heap} {locs : List Loc} {s0 : S_Rd} {s1 : S_Tr} {out : S_Rd × S_Tr} (X : Cx p s m args meth c prog_7_method_6_code 1 ws_Rd_leave R_Rd none D g) (hl : lv_has ls 1 [(0, .ref (a0 0))]) (hI : Iw D A (w_Rd g a0 (tw (a1 0) (sr 0)) s0 ++ (w_Tr g a1 s1 ++ (rest))) H) (hS : va_S A s.heap H locs) (h : B_Rd_leave_0  s0 s1 = some out) : W p l e (headSpec ws_Rd_leave { frames := 1, cells := 0, slots := 0, locals := 21 }).room s m args below meth c H locs 0 0 (MQ below (QcV D A g (fun (_ : Unit) => w_Rd g a0 (tw (a1 0) (sr 0)) out.1 ++ (w_Tr g a1 out.2 ++ (rest)))) args s 0 0 A) (F0 m 0 ls []) := by
  have X1 := X
  obtain ⟨hx, hb, hml, hown, hts, hr, hlocks, hKK⟩ := X1
  have ht : ∀ w ∈ TB, w.before args s = true := fun w h => hts w (List.mem_cons_of_mem _ h)
  have hK := hKK.1
  unfold B_Rd_leave_0 at h
  refine lv_aload_n hx hb d_Rd_leave_0 rfl (lv_at hl 0 rfl) ?_
  refine va_get (D := D) (ci := 5) (v := .ref (a1 0)) (C := R_Rd) (T := T_Rd) (N := 11) hx hb ht in_Rd hown hK hI.1 0 rfl rfl 0 (by decide) (ht _ m_158) (fun _ h9 => h9) rfl d_Rd_leave_1 ?_
  refine lv_aload_n hx hb d_Rd_leave_4 rfl (lv_at hl 0 rfl) ?_
  refine va_get (D := D) (ci := 5) (v := .ref (a0 1)) (C := R_Rd) (T := T_Rd) (N := 11) hx hb ht in_Rd hown hK hI.1 0 rfl rfl 1 (by decide) (ht _ m_159) (fun _ h9 => h9) rfl d_Rd_leave_5 ?_
  refine lv_aload_n hx hb d_Rd_leave_8 rfl (lv_at hl 0 rfl) ?_
  refine va_get (D := D) (ci := 5) (v := .int (Rd_level s0)) (C := R_Rd) (T := T_Rd) (N := 11) hx hb ht in_Rd hown hK hI.1 0 rfl rfl 9 (by decide) (ht _ m_167) (fun _ h9 => h9) rfl d_Rd_leave_9 ?_
  by_cases hc1 : ((Rd_level s0) < 0 ∨ 5 ≤ (Rd_level s0).toNatClampNeg)
  · exact no_s (it_t h hc1)
  have h := it_f h hc1
  refine va_iald hx hb hK hI.1 1 0 rfl rfl hc1 d_Rd_leave_12 ?_
  obtain ⟨o2, ho3, h⟩ := bd_s h
  refine cl_v (W1 := fun (_ : Unit) => w_Rd g a0 (tw (a1 0) (sr 0)) s0 ++ (w_Tr g a1 o2 ++ (rest))) (va_runV (As := [.int ((Rd_nodes s0) (Rd_level s0).toNatClampNeg)]) (rest := []) ⟨hx, hb, hml, hown, ht⟩ (c_Tr_finish (l := l) (D := D) (A := A) (g := g) (rest := w_Rd g a0 (tw (a1 0) (sr 0)) s0 ++ (rest)) (a0 := a1) ho3) (cwV 1 ht (gd_V m_441 m_442 m_443 m_9 m_444) rfl rfl rfl (by decide +kernel) ⟨(Nat.le_of_ble_eq_true rfl), (Nat.le_of_ble_eq_true rfl)⟩) (prV (ci := 7) (q0 := 0) hKK hI (mv_1) rfl rfl rfl) rfl rfl hl.1 rfl (lv_room (Nat.le_of_ble_eq_true rfl)) d_Rd_leave_13 ⟨(Nat.le_of_ble_eq_true rfl), (Nat.le_of_ble_eq_true rfl)⟩) hS (fun _ => ((mv_1)).symm) (fun _ H locs hI hS => ?_)
  have hI : Iw D A (w_Rd g a0 (tw (a1 0) (sr 0)) s0 ++ (w_Tr g a1 o2 ++ (rest))) H := hI
  refine lv_aload_n hx hb d_Rd_leave_16 rfl (lv_at hl 0 rfl) ?_
  refine lv_dup hx hb d_Rd_leave_17 rfl ?_
  refine va_get (D := D) (ci := 5) (v := .int (Rd_level s0)) (C := R_Rd) (T := T_Rd) (N := 11) hx hb ht in_Rd hown hK hI.1 0 rfl rfl 9 (by decide) (ht _ m_167) (fun _ h9 => h9) rfl d_Rd_leave_18 ?_
  refine lv_iconst (v := 1) hx hb d_Rd_leave_21 (by decide) ?_
  refine lv_isub hx hb d_Rd_leave_22 ?_
  refine va_put (D := D) (ci := 5) (v := .int ((Rd_level s0) - (1 : Int32))) (ty := .int) (C := R_Rd) (T := T_Rd) (N := 11) hx hb ht in_Rd ty_Rd tyok_Rd nm_Rd hown hK hI.1 hI.2 hS 0 rfl rfl 9 (by decide) (ht _ m_167) (fun _ h9 => h9) rfl (by decide +kernel) rfl rfl (Nat.le_of_ble_eq_true rfl) d_Rd_leave_23 (fun H locs hP hD hS => ?_)
  have hI : Iw D A (w_Rd g a0 (tw (a1 0) (sr 0)) (Rd_set_level s0 ((Rd_level s0) - (1 : Int32))) ++ (w_Tr g a1 o2 ++ (rest))) H := ⟨hP, hD⟩
  have h9 := Option.some.inj h
  subst h9
  exact W.vret hx hb hr (fun t ht hW => ⟨⟨(), rfl, trivial, ⟨by rw [ht]; exact hI, hKK.moved hW⟩⟩, hS.F ht⟩) hS.2.2 d_Rd_leave_26
set_option maxRecDepth 100000 in
set_option maxHeartbeats 4000000 in
theorem c_Rd_leave {l : Launch} {D : va_G} {A : Nat → Prop} {g : Nat → ClassId} {rest : va_W} {a0 : Nat → Nat} {a1 : Nat → Nat} {sr : Nat → Nat} {s0 : S_Rd} {s1 : S_Tr} {out : S_Rd × S_Tr} (h : F_Rd_leave s0 s1 = some out) : Met l y_Rd_leave ws_Rd_leave { frames := 1, cells := 0, slots := 0, locals := 21 } (PcW D A g [.ref (a0 0)] (w_Rd g a0 (tw (a1 0) (sr 0)) s0 ++ (w_Tr g a1 s1 ++ (rest)))) (QcV D A g (fun (_ : Unit) => w_Rd g a0 (tw (a1 0) (sr 0)) out.1 ++ (w_Tr g a1 out.2 ++ (rest)))) 0 0 A := by
  refine Met.ofW (cc := prog_7_method_6_code) (maxL := 1) (ret := none) (by decide) rfl ?_
  intro p e s m args below meth c s₁ B hml hv
  obtain ⟨rfl, hI, hK⟩ := hv
  have hl := lv_entry [.ref (a0 0)] (n := 1) (Nat.le_of_ble_eq_true rfl)
  rw [lg_entry_eq]
  generalize (lg_sl [.ref (a0 0)] ++ List.replicate (1 - (lg_sl [.ref (a0 0)]).length) Slot.unset).toArray = ls at hl ⊢
  have hl : lv_has ls 1 [(0, .ref (a0 0))] := hl
  exact t_Rd_leave_0 ⟨B.exec, B.bytes, hml, findClass_of_methodNamed B.named, atoms_spec (ws := ws_Rd_leave) B.pre, B.returns, B.notSynchronized, hK⟩ (lv_sub hl [0] rfl) hI va_S.rf h
def ws_Rd_endLevel : List Cond := .code y_Rd_endLevel prog_7_method_7_code 1 none :: TB
def B_Rd_endLevel_33 (s0 : S_Rd) (s1 : S_Tr) : Option (S_Rd × S_Tr) :=
  some (s0, s1)
def B_Rd_endLevel_29 (s0 : S_Rd) (s1 : S_Tr) : Option (S_Rd × S_Tr) :=
  ((F_Rd_leave s0 s1).bind fun o1 => (B_Rd_endLevel_33 o1.1 o1.2))
def B_Rd_endLevel_12 (s0 : S_Rd) (s1 : S_Tr) : Option (S_Rd × S_Tr) :=
  (if ((Rd_level s0) < 0 ∨ 5 ≤ (Rd_level s0).toNatClampNeg) then none else ((F_Rd_fail s0 (1 : Int32) ((Rd_ends s0) (Rd_level s0).toNatClampNeg)).bind fun o2 => (B_Rd_endLevel_33 o2 s1)))
def B_Rd_endLevel_0 (s0 : S_Rd) (s1 : S_Tr) : Option (S_Rd × S_Tr) :=
  (if ((Rd_level s0) < 0 ∨ 5 ≤ (Rd_level s0).toNatClampNeg) then none else (if ((Rd_isOpen s0) (Rd_level s0).toNatClampNeg) = 0 then (B_Rd_endLevel_29 s0 s1) else (B_Rd_endLevel_12 s0 s1)))
def F_Rd_endLevel (s0 : S_Rd) (s1 : S_Tr) : Option (S_Rd × S_Tr) := B_Rd_endLevel_0 s0 s1
set_option maxRecDepth 100000 in
set_option maxHeartbeats 4000000 in
theorem t_Rd_endLevel_33 {p : Program} {l : Launch} {e : Env} {s : State} {m : MethodId} {args : Array Value} {below : List Frame} {meth : Method} {c : Code} {D : va_G} {A : Nat → Prop} {g : Nat → ClassId} {rest : va_W} {a0 : Nat → Nat} {a1 : Nat → Nat} {sr : Nat → Nat} {ls : Array Slot} {H : Heap} {locs : List Loc} {s0 : S_Rd} {s1 : S_Tr} {out : S_Rd × S_Tr} (X : Cx p s m args meth c prog_7_method_7_code 1 ws_Rd_endLevel R_Rd none D g) (hl : lv_has ls 1 []) (hI : Iw D A (w_Rd g a0 (tw (a1 0) (sr 0)) s0 ++ (w_Tr g a1 s1 ++ (rest))) H) (hS : va_S A s.heap H locs) (h : B_Rd_endLevel_33  s0 s1 = some out) : W p l e (headSpec ws_Rd_endLevel { frames := 2, cells := 0, slots := 0, locals := 41 }).room s m args below meth c H locs 0 0 (MQ below (QcV D A g (fun (_ : Unit) => w_Rd g a0 (tw (a1 0) (sr 0)) out.1 ++ (w_Tr g a1 out.2 ++ (rest)))) args s 0 0 A) (F0 m 33 ls []) := by
  have X1 := X
  obtain ⟨hx, hb, hml, hown, hts, hr, hlocks, hKK⟩ := X1
  have ht : ∀ w ∈ TB, w.before args s = true := fun w h => hts w (List.mem_cons_of_mem _ h)
  have hK := hKK.1
  unfold B_Rd_endLevel_33 at h
  have h9 := Option.some.inj h
  subst h9
  exact W.vret hx hb hr (fun t ht hW => ⟨⟨(), rfl, trivial, ⟨by rw [ht]; exact hI, hKK.moved hW⟩⟩, hS.F ht⟩) hS.2.2 d_Rd_endLevel_33
set_option maxRecDepth 100000 in
set_option maxHeartbeats 4000000 in
theorem t_Rd_endLevel_29 {p : Program} {l : Launch} {e : Env} {s : State} {m : MethodId} {args : Array Value} {below : List Frame} {meth : Method} {c : Code} {D : va_G} {A : Nat → Prop} {g : Nat → ClassId} {rest : va_W} {a0 : Nat → Nat} {a1 : Nat → Nat} {sr : Nat → Nat} {ls : Array Slot} {H : Heap} {locs : List Loc} {s0 : S_Rd} {s1 : S_Tr} {out : S_Rd × S_Tr} (X : Cx p s m args meth c prog_7_method_7_code 1 ws_Rd_endLevel R_Rd none D g) (hl : lv_has ls 1 [(0, .ref (a0 0))]) (hI : Iw D A (w_Rd g a0 (tw (a1 0) (sr 0)) s0 ++ (w_Tr g a1 s1 ++ (rest))) H) (hS : va_S A s.heap H locs) (h : B_Rd_endLevel_29  s0 s1 = some out) : W p l e (headSpec ws_Rd_endLevel { frames := 2, cells := 0, slots := 0, locals := 41 }).room s m args below meth c H locs 0 0 (MQ below (QcV D A g (fun (_ : Unit) => w_Rd g a0 (tw (a1 0) (sr 0)) out.1 ++ (w_Tr g a1 out.2 ++ (rest)))) args s 0 0 A) (F0 m 29 ls []) := by
  have X1 := X
  obtain ⟨hx, hb, hml, hown, hts, hr, hlocks, hKK⟩ := X1
  have ht : ∀ w ∈ TB, w.before args s = true := fun w h => hts w (List.mem_cons_of_mem _ h)
  have hK := hKK.1
  unfold B_Rd_endLevel_29 at h
  refine lv_aload_n hx hb d_Rd_endLevel_29 rfl (lv_at hl 0 rfl) ?_
  obtain ⟨o1, ho2, h⟩ := bd_s h
  refine cl_v (W1 := fun (_ : Unit) => w_Rd g a0 (tw (a1 0) (sr 0)) o1.1 ++ (w_Tr g a1 o1.2 ++ (rest))) (va_runV (As := []) (rest := []) ⟨hx, hb, hml, hown, ht⟩ (c_Rd_leave (l := l) (D := D) (A := A) (g := g) (rest := rest) (a0 := a0) (a1 := a1) (sr := sr) ho2) (cwV 0 ht (gd_V m_437 m_439 mp_17 m_8 m_440) rfl rfl rfl (by decide +kernel) ⟨(Nat.le_of_ble_eq_true rfl), (Nat.le_of_ble_eq_true rfl)⟩) (prV (ci := 5) (q0 := 0) hKK hI ((mv_1).trans (mv_1)) rfl rfl rfl) rfl rfl hl.1 rfl (lv_room (Nat.le_of_ble_eq_true rfl)) d_Rd_endLevel_30 ⟨(Nat.le_of_ble_eq_true rfl), (Nat.le_of_ble_eq_true rfl)⟩) hS (fun _ => (((mv_1).trans (mv_1))).symm) (fun _ H locs hI hS => ?_)
  have hI : Iw D A (w_Rd g a0 (tw (a1 0) (sr 0)) o1.1 ++ (w_Tr g a1 o1.2 ++ (rest))) H := hI
  exact t_Rd_endLevel_33 X (lv_sub hl [] rfl) hI hS h
set_option maxRecDepth 100000 in
set_option maxHeartbeats 4000000 in
theorem t_Rd_endLevel_12 {p : Program} {l : Launch} {e : Env} {s : State} {m : MethodId} {args : Array Value} {below : List Frame} {meth : Method} {c : Code} {D : va_G} {A : Nat → Prop} {g : Nat → ClassId} {rest : va_W} {a0 : Nat → Nat} {a1 : Nat → Nat} {sr : Nat → Nat} {ls : Array Slot} {H : Heap} {locs : List Loc} {s0 : S_Rd} {s1 : S_Tr} {out : S_Rd × S_Tr} (X : Cx p s m args meth c prog_7_method_7_code 1 ws_Rd_endLevel R_Rd none D g) (hl : lv_has ls 1 [(0, .ref (a0 0))]) (hI : Iw D A (w_Rd g a0 (tw (a1 0) (sr 0)) s0 ++ (w_Tr g a1 s1 ++ (rest))) H) (hS : va_S A s.heap H locs) (h : B_Rd_endLevel_12  s0 s1 = some out) : W p l e (headSpec ws_Rd_endLevel { frames := 2, cells := 0, slots := 0, locals := 41 }).room s m args below meth c H locs 0 0 (MQ below (QcV D A g (fun (_ : Unit) => w_Rd g a0 (tw (a1 0) (sr 0)) out.1 ++ (w_Tr g a1 out.2 ++ (rest)))) args s 0 0 A) (F0 m 12 ls []) := by
  have X1 := X
  obtain ⟨hx, hb, hml, hown, hts, hr, hlocks, hKK⟩ := X1
  have ht : ∀ w ∈ TB, w.before args s = true := fun w h => hts w (List.mem_cons_of_mem _ h)
  have hK := hKK.1
  unfold B_Rd_endLevel_12 at h
  refine lv_aload_n hx hb d_Rd_endLevel_12 rfl (lv_at hl 0 rfl) ?_
  refine lv_iconst (v := 1) hx hb d_Rd_endLevel_13 (by decide) ?_
  refine lv_aload_n hx hb d_Rd_endLevel_14 rfl (lv_at hl 0 rfl) ?_
  refine va_get (D := D) (ci := 5) (v := .ref (a0 2)) (C := R_Rd) (T := T_Rd) (N := 11) hx hb ht in_Rd hown hK hI.1 0 rfl rfl 2 (by decide) (ht _ m_160) (fun _ h9 => h9) rfl d_Rd_endLevel_15 ?_
  refine lv_aload_n hx hb d_Rd_endLevel_18 rfl (lv_at hl 0 rfl) ?_
  refine va_get (D := D) (ci := 5) (v := .int (Rd_level s0)) (C := R_Rd) (T := T_Rd) (N := 11) hx hb ht in_Rd hown hK hI.1 0 rfl rfl 9 (by decide) (ht _ m_167) (fun _ h9 => h9) rfl d_Rd_endLevel_19 ?_
  by_cases hc1 : ((Rd_level s0) < 0 ∨ 5 ≤ (Rd_level s0).toNatClampNeg)
  · exact no_s (it_t h hc1)
  have h := it_f h hc1
  refine va_iald hx hb hK hI.1 2 0 rfl rfl hc1 d_Rd_endLevel_22 ?_
  obtain ⟨o2, ho3, h⟩ := bd_s h
  refine cl_v (W1 := fun (_ : Unit) => w_Rd g a0 (tw (a1 0) (sr 0)) o2 ++ (w_Tr g a1 s1 ++ (rest))) (va_runV (As := [.int (1 : Int32), .int ((Rd_ends s0) (Rd_level s0).toNatClampNeg)]) (rest := []) ⟨hx, hb, hml, hown, ht⟩ (c_Rd_fail (l := l) (D := D) (A := A) (g := g) (rest := w_Tr g a1 s1 ++ (rest)) (a0 := a0) (a1 := a1) (sr := sr) ho3) (cwV 2 ht (gd_V m_433 m_435 mp_16 m_8 m_436) rfl rfl rfl (by decide +kernel) ⟨(Nat.le_of_ble_eq_true rfl), (Nat.le_of_ble_eq_true rfl)⟩) (prV (ci := 5) (q0 := 0) hKK hI (List.Perm.refl _) rfl rfl rfl) rfl rfl hl.1 rfl (lv_room (Nat.le_of_ble_eq_true rfl)) d_Rd_endLevel_23 ⟨(Nat.le_of_ble_eq_true rfl), (Nat.le_of_ble_eq_true rfl)⟩) hS (fun _ => ((List.Perm.refl _)).symm) (fun _ H locs hI hS => ?_)
  have hI : Iw D A (w_Rd g a0 (tw (a1 0) (sr 0)) o2 ++ (w_Tr g a1 s1 ++ (rest))) H := hI
  refine lv_goto (tgt := 33) hx hb d_Rd_endLevel_26 (by decide) ?_
  exact t_Rd_endLevel_33 X (lv_sub hl [] rfl) hI hS h
set_option maxRecDepth 100000 in
set_option maxHeartbeats 4000000 in
theorem t_Rd_endLevel_0 {p : Program} {l : Launch} {e : Env} {s : State} {m : MethodId} {args : Array Value} {below : List Frame} {meth : Method} {c : Code} {D : va_G} {A : Nat → Prop} {g : Nat → ClassId} {rest : va_W} {a0 : Nat → Nat} {a1 : Nat → Nat} {sr : Nat → Nat} {ls : Array Slot} {H : Heap} {locs : List Loc} {s0 : S_Rd} {s1 : S_Tr} {out : S_Rd × S_Tr} (X : Cx p s m args meth c prog_7_method_7_code 1 ws_Rd_endLevel R_Rd none D g) (hl : lv_has ls 1 [(0, .ref (a0 0))]) (hI : Iw D A (w_Rd g a0 (tw (a1 0) (sr 0)) s0 ++ (w_Tr g a1 s1 ++ (rest))) H) (hS : va_S A s.heap H locs) (h : B_Rd_endLevel_0  s0 s1 = some out) : W p l e (headSpec ws_Rd_endLevel { frames := 2, cells := 0, slots := 0, locals := 41 }).room s m args below meth c H locs 0 0 (MQ below (QcV D A g (fun (_ : Unit) => w_Rd g a0 (tw (a1 0) (sr 0)) out.1 ++ (w_Tr g a1 out.2 ++ (rest)))) args s 0 0 A) (F0 m 0 ls []) := by
  have X1 := X
  obtain ⟨hx, hb, hml, hown, hts, hr, hlocks, hKK⟩ := X1
  have ht : ∀ w ∈ TB, w.before args s = true := fun w h => hts w (List.mem_cons_of_mem _ h)
  have hK := hKK.1
  unfold B_Rd_endLevel_0 at h
  refine lv_aload_n hx hb d_Rd_endLevel_0 rfl (lv_at hl 0 rfl) ?_
  refine va_get (D := D) (ci := 5) (v := .ref (a0 3)) (C := R_Rd) (T := T_Rd) (N := 11) hx hb ht in_Rd hown hK hI.1 0 rfl rfl 3 (by decide) (ht _ m_161) (fun _ h9 => h9) rfl d_Rd_endLevel_1 ?_
  refine lv_aload_n hx hb d_Rd_endLevel_4 rfl (lv_at hl 0 rfl) ?_
  refine va_get (D := D) (ci := 5) (v := .int (Rd_level s0)) (C := R_Rd) (T := T_Rd) (N := 11) hx hb ht in_Rd hown hK hI.1 0 rfl rfl 9 (by decide) (ht _ m_167) (fun _ h9 => h9) rfl d_Rd_endLevel_5 ?_
  by_cases hc1 : ((Rd_level s0) < 0 ∨ 5 ≤ (Rd_level s0).toNatClampNeg)
  · exact no_s (it_t h hc1)
  have h := it_f h hc1
  refine va_zald hx hb hK hI.1 3 1 rfl rfl hc1 d_Rd_endLevel_8 ?_
  refine lv_if_eq (tgt := 29) hx hb d_Rd_endLevel_9 (by decide) (fun hc => ?_) (fun hc => ?_)
  · have h := it_t h hc
    exact t_Rd_endLevel_29 X (lv_sub hl [0] rfl) hI hS h
  · have h := it_f h hc
    exact t_Rd_endLevel_12 X (lv_sub hl [0] rfl) hI hS h
set_option maxRecDepth 100000 in
set_option maxHeartbeats 4000000 in
theorem c_Rd_endLevel {l : Launch} {D : va_G} {A : Nat → Prop} {g : Nat → ClassId} {rest : va_W} {a0 : Nat → Nat} {a1 : Nat → Nat} {sr : Nat → Nat} {s0 : S_Rd} {s1 : S_Tr} {out : S_Rd × S_Tr} (h : F_Rd_endLevel s0 s1 = some out) : Met l y_Rd_endLevel ws_Rd_endLevel { frames := 2, cells := 0, slots := 0, locals := 41 } (PcW D A g [.ref (a0 0)] (w_Rd g a0 (tw (a1 0) (sr 0)) s0 ++ (w_Tr g a1 s1 ++ (rest)))) (QcV D A g (fun (_ : Unit) => w_Rd g a0 (tw (a1 0) (sr 0)) out.1 ++ (w_Tr g a1 out.2 ++ (rest)))) 0 0 A := by
  refine Met.ofW (cc := prog_7_method_7_code) (maxL := 1) (ret := none) (by decide) rfl ?_
  intro p e s m args below meth c s₁ B hml hv
  obtain ⟨rfl, hI, hK⟩ := hv
  have hl := lv_entry [.ref (a0 0)] (n := 1) (Nat.le_of_ble_eq_true rfl)
  rw [lg_entry_eq]
  generalize (lg_sl [.ref (a0 0)] ++ List.replicate (1 - (lg_sl [.ref (a0 0)]).length) Slot.unset).toArray = ls at hl ⊢
  have hl : lv_has ls 1 [(0, .ref (a0 0))] := hl
  exact t_Rd_endLevel_0 ⟨B.exec, B.bytes, hml, findClass_of_methodNamed B.named, atoms_spec (ws := ws_Rd_endLevel) B.pre, B.returns, B.notSynchronized, hK⟩ (lv_sub hl [0] rfl) hI va_S.rf h
def ws_Rd_enter : List Cond := .code y_Rd_enter prog_7_method_5_code 4 none :: TB
def B_Rd_enter_11 (s0 : S_Rd) (s1 : S_Tr) (x1 : Int32) (x2 : Int32) (x3 : Int32) : Option (S_Rd × S_Tr) :=
  ((F_Tr_add s1 x1 (0 : Int32) (0 : Int32)).bind fun o1 => (if ((Rd_level (Rd_set_level s0 ((Rd_level s0) + (1 : Int32)))) < 0 ∨ 5 ≤ (Rd_level (Rd_set_level s0 ((Rd_level s0) + (1 : Int32)))).toNatClampNeg) then none else (if ((Rd_level (Rd_set_nodes (Rd_set_level s0 ((Rd_level s0) + (1 : Int32))) (upd (Rd_nodes (Rd_set_level s0 ((Rd_level s0) + (1 : Int32)))) (Rd_level (Rd_set_level s0 ((Rd_level s0) + (1 : Int32)))).toNatClampNeg o1.1))) < 0 ∨ 5 ≤ (Rd_level (Rd_set_nodes (Rd_set_level s0 ((Rd_level s0) + (1 : Int32))) (upd (Rd_nodes (Rd_set_level s0 ((Rd_level s0) + (1 : Int32)))) (Rd_level (Rd_set_level s0 ((Rd_level s0) + (1 : Int32)))).toNatClampNeg o1.1))).toNatClampNeg) then none else (if ((Rd_level (Rd_set_ends (Rd_set_nodes (Rd_set_level s0 ((Rd_level s0) + (1 : Int32))) (upd (Rd_nodes (Rd_set_level s0 ((Rd_level s0) + (1 : Int32)))) (Rd_level (Rd_set_level s0 ((Rd_level s0) + (1 : Int32)))).toNatClampNeg o1.1)) (upd (Rd_ends (Rd_set_nodes (Rd_set_level s0 ((Rd_level s0) + (1 : Int32))) (upd (Rd_nodes (Rd_set_level s0 ((Rd_level s0) + (1 : Int32)))) (Rd_level (Rd_set_level s0 ((Rd_level s0) + (1 : Int32)))).toNatClampNeg o1.1))) (Rd_level (Rd_set_nodes (Rd_set_level s0 ((Rd_level s0) + (1 : Int32))) (upd (Rd_nodes (Rd_set_level s0 ((Rd_level s0) + (1 : Int32)))) (Rd_level (Rd_set_level s0 ((Rd_level s0) + (1 : Int32)))).toNatClampNeg o1.1))).toNatClampNeg x2))) < 0 ∨ 5 ≤ (Rd_level (Rd_set_ends (Rd_set_nodes (Rd_set_level s0 ((Rd_level s0) + (1 : Int32))) (upd (Rd_nodes (Rd_set_level s0 ((Rd_level s0) + (1 : Int32)))) (Rd_level (Rd_set_level s0 ((Rd_level s0) + (1 : Int32)))).toNatClampNeg o1.1)) (upd (Rd_ends (Rd_set_nodes (Rd_set_level s0 ((Rd_level s0) + (1 : Int32))) (upd (Rd_nodes (Rd_set_level s0 ((Rd_level s0) + (1 : Int32)))) (Rd_level (Rd_set_level s0 ((Rd_level s0) + (1 : Int32)))).toNatClampNeg o1.1))) (Rd_level (Rd_set_nodes (Rd_set_level s0 ((Rd_level s0) + (1 : Int32))) (upd (Rd_nodes (Rd_set_level s0 ((Rd_level s0) + (1 : Int32)))) (Rd_level (Rd_set_level s0 ((Rd_level s0) + (1 : Int32)))).toNatClampNeg o1.1))).toNatClampNeg x2))).toNatClampNeg) then none else (if ((Rd_level (Rd_set_isOpen (Rd_set_ends (Rd_set_nodes (Rd_set_level s0 ((Rd_level s0) + (1 : Int32))) (upd (Rd_nodes (Rd_set_level s0 ((Rd_level s0) + (1 : Int32)))) (Rd_level (Rd_set_level s0 ((Rd_level s0) + (1 : Int32)))).toNatClampNeg o1.1)) (upd (Rd_ends (Rd_set_nodes (Rd_set_level s0 ((Rd_level s0) + (1 : Int32))) (upd (Rd_nodes (Rd_set_level s0 ((Rd_level s0) + (1 : Int32)))) (Rd_level (Rd_set_level s0 ((Rd_level s0) + (1 : Int32)))).toNatClampNeg o1.1))) (Rd_level (Rd_set_nodes (Rd_set_level s0 ((Rd_level s0) + (1 : Int32))) (upd (Rd_nodes (Rd_set_level s0 ((Rd_level s0) + (1 : Int32)))) (Rd_level (Rd_set_level s0 ((Rd_level s0) + (1 : Int32)))).toNatClampNeg o1.1))).toNatClampNeg x2)) (upd (Rd_isOpen (Rd_set_ends (Rd_set_nodes (Rd_set_level s0 ((Rd_level s0) + (1 : Int32))) (upd (Rd_nodes (Rd_set_level s0 ((Rd_level s0) + (1 : Int32)))) (Rd_level (Rd_set_level s0 ((Rd_level s0) + (1 : Int32)))).toNatClampNeg o1.1)) (upd (Rd_ends (Rd_set_nodes (Rd_set_level s0 ((Rd_level s0) + (1 : Int32))) (upd (Rd_nodes (Rd_set_level s0 ((Rd_level s0) + (1 : Int32)))) (Rd_level (Rd_set_level s0 ((Rd_level s0) + (1 : Int32)))).toNatClampNeg o1.1))) (Rd_level (Rd_set_nodes (Rd_set_level s0 ((Rd_level s0) + (1 : Int32))) (upd (Rd_nodes (Rd_set_level s0 ((Rd_level s0) + (1 : Int32)))) (Rd_level (Rd_set_level s0 ((Rd_level s0) + (1 : Int32)))).toNatClampNeg o1.1))).toNatClampNeg x2))) (Rd_level (Rd_set_ends (Rd_set_nodes (Rd_set_level s0 ((Rd_level s0) + (1 : Int32))) (upd (Rd_nodes (Rd_set_level s0 ((Rd_level s0) + (1 : Int32)))) (Rd_level (Rd_set_level s0 ((Rd_level s0) + (1 : Int32)))).toNatClampNeg o1.1)) (upd (Rd_ends (Rd_set_nodes (Rd_set_level s0 ((Rd_level s0) + (1 : Int32))) (upd (Rd_nodes (Rd_set_level s0 ((Rd_level s0) + (1 : Int32)))) (Rd_level (Rd_set_level s0 ((Rd_level s0) + (1 : Int32)))).toNatClampNeg o1.1))) (Rd_level (Rd_set_nodes (Rd_set_level s0 ((Rd_level s0) + (1 : Int32))) (upd (Rd_nodes (Rd_set_level s0 ((Rd_level s0) + (1 : Int32)))) (Rd_level (Rd_set_level s0 ((Rd_level s0) + (1 : Int32)))).toNatClampNeg o1.1))).toNatClampNeg x2))).toNatClampNeg (vp_nar .boolean x3)))) < 0 ∨ 5 ≤ (Rd_level (Rd_set_isOpen (Rd_set_ends (Rd_set_nodes (Rd_set_level s0 ((Rd_level s0) + (1 : Int32))) (upd (Rd_nodes (Rd_set_level s0 ((Rd_level s0) + (1 : Int32)))) (Rd_level (Rd_set_level s0 ((Rd_level s0) + (1 : Int32)))).toNatClampNeg o1.1)) (upd (Rd_ends (Rd_set_nodes (Rd_set_level s0 ((Rd_level s0) + (1 : Int32))) (upd (Rd_nodes (Rd_set_level s0 ((Rd_level s0) + (1 : Int32)))) (Rd_level (Rd_set_level s0 ((Rd_level s0) + (1 : Int32)))).toNatClampNeg o1.1))) (Rd_level (Rd_set_nodes (Rd_set_level s0 ((Rd_level s0) + (1 : Int32))) (upd (Rd_nodes (Rd_set_level s0 ((Rd_level s0) + (1 : Int32)))) (Rd_level (Rd_set_level s0 ((Rd_level s0) + (1 : Int32)))).toNatClampNeg o1.1))).toNatClampNeg x2)) (upd (Rd_isOpen (Rd_set_ends (Rd_set_nodes (Rd_set_level s0 ((Rd_level s0) + (1 : Int32))) (upd (Rd_nodes (Rd_set_level s0 ((Rd_level s0) + (1 : Int32)))) (Rd_level (Rd_set_level s0 ((Rd_level s0) + (1 : Int32)))).toNatClampNeg o1.1)) (upd (Rd_ends (Rd_set_nodes (Rd_set_level s0 ((Rd_level s0) + (1 : Int32))) (upd (Rd_nodes (Rd_set_level s0 ((Rd_level s0) + (1 : Int32)))) (Rd_level (Rd_set_level s0 ((Rd_level s0) + (1 : Int32)))).toNatClampNeg o1.1))) (Rd_level (Rd_set_nodes (Rd_set_level s0 ((Rd_level s0) + (1 : Int32))) (upd (Rd_nodes (Rd_set_level s0 ((Rd_level s0) + (1 : Int32)))) (Rd_level (Rd_set_level s0 ((Rd_level s0) + (1 : Int32)))).toNatClampNeg o1.1))).toNatClampNeg x2))) (Rd_level (Rd_set_ends (Rd_set_nodes (Rd_set_level s0 ((Rd_level s0) + (1 : Int32))) (upd (Rd_nodes (Rd_set_level s0 ((Rd_level s0) + (1 : Int32)))) (Rd_level (Rd_set_level s0 ((Rd_level s0) + (1 : Int32)))).toNatClampNeg o1.1)) (upd (Rd_ends (Rd_set_nodes (Rd_set_level s0 ((Rd_level s0) + (1 : Int32))) (upd (Rd_nodes (Rd_set_level s0 ((Rd_level s0) + (1 : Int32)))) (Rd_level (Rd_set_level s0 ((Rd_level s0) + (1 : Int32)))).toNatClampNeg o1.1))) (Rd_level (Rd_set_nodes (Rd_set_level s0 ((Rd_level s0) + (1 : Int32))) (upd (Rd_nodes (Rd_set_level s0 ((Rd_level s0) + (1 : Int32)))) (Rd_level (Rd_set_level s0 ((Rd_level s0) + (1 : Int32)))).toNatClampNeg o1.1))).toNatClampNeg x2))).toNatClampNeg (vp_nar .boolean x3)))).toNatClampNeg) then none else (if ((Rd_level (Rd_set_counts (Rd_set_isOpen (Rd_set_ends (Rd_set_nodes (Rd_set_level s0 ((Rd_level s0) + (1 : Int32))) (upd (Rd_nodes (Rd_set_level s0 ((Rd_level s0) + (1 : Int32)))) (Rd_level (Rd_set_level s0 ((Rd_level s0) + (1 : Int32)))).toNatClampNeg o1.1)) (upd (Rd_ends (Rd_set_nodes (Rd_set_level s0 ((Rd_level s0) + (1 : Int32))) (upd (Rd_nodes (Rd_set_level s0 ((Rd_level s0) + (1 : Int32)))) (Rd_level (Rd_set_level s0 ((Rd_level s0) + (1 : Int32)))).toNatClampNeg o1.1))) (Rd_level (Rd_set_nodes (Rd_set_level s0 ((Rd_level s0) + (1 : Int32))) (upd (Rd_nodes (Rd_set_level s0 ((Rd_level s0) + (1 : Int32)))) (Rd_level (Rd_set_level s0 ((Rd_level s0) + (1 : Int32)))).toNatClampNeg o1.1))).toNatClampNeg x2)) (upd (Rd_isOpen (Rd_set_ends (Rd_set_nodes (Rd_set_level s0 ((Rd_level s0) + (1 : Int32))) (upd (Rd_nodes (Rd_set_level s0 ((Rd_level s0) + (1 : Int32)))) (Rd_level (Rd_set_level s0 ((Rd_level s0) + (1 : Int32)))).toNatClampNeg o1.1)) (upd (Rd_ends (Rd_set_nodes (Rd_set_level s0 ((Rd_level s0) + (1 : Int32))) (upd (Rd_nodes (Rd_set_level s0 ((Rd_level s0) + (1 : Int32)))) (Rd_level (Rd_set_level s0 ((Rd_level s0) + (1 : Int32)))).toNatClampNeg o1.1))) (Rd_level (Rd_set_nodes (Rd_set_level s0 ((Rd_level s0) + (1 : Int32))) (upd (Rd_nodes (Rd_set_level s0 ((Rd_level s0) + (1 : Int32)))) (Rd_level (Rd_set_level s0 ((Rd_level s0) + (1 : Int32)))).toNatClampNeg o1.1))).toNatClampNeg x2))) (Rd_level (Rd_set_ends (Rd_set_nodes (Rd_set_level s0 ((Rd_level s0) + (1 : Int32))) (upd (Rd_nodes (Rd_set_level s0 ((Rd_level s0) + (1 : Int32)))) (Rd_level (Rd_set_level s0 ((Rd_level s0) + (1 : Int32)))).toNatClampNeg o1.1)) (upd (Rd_ends (Rd_set_nodes (Rd_set_level s0 ((Rd_level s0) + (1 : Int32))) (upd (Rd_nodes (Rd_set_level s0 ((Rd_level s0) + (1 : Int32)))) (Rd_level (Rd_set_level s0 ((Rd_level s0) + (1 : Int32)))).toNatClampNeg o1.1))) (Rd_level (Rd_set_nodes (Rd_set_level s0 ((Rd_level s0) + (1 : Int32))) (upd (Rd_nodes (Rd_set_level s0 ((Rd_level s0) + (1 : Int32)))) (Rd_level (Rd_set_level s0 ((Rd_level s0) + (1 : Int32)))).toNatClampNeg o1.1))).toNatClampNeg x2))).toNatClampNeg (vp_nar .boolean x3))) (upd (Rd_counts (Rd_set_isOpen (Rd_set_ends (Rd_set_nodes (Rd_set_level s0 ((Rd_level s0) + (1 : Int32))) (upd (Rd_nodes (Rd_set_level s0 ((Rd_level s0) + (1 : Int32)))) (Rd_level (Rd_set_level s0 ((Rd_level s0) + (1 : Int32)))).toNatClampNeg o1.1)) (upd (Rd_ends (Rd_set_nodes (Rd_set_level s0 ((Rd_level s0) + (1 : Int32))) (upd (Rd_nodes (Rd_set_level s0 ((Rd_level s0) + (1 : Int32)))) (Rd_level (Rd_set_level s0 ((Rd_level s0) + (1 : Int32)))).toNatClampNeg o1.1))) (Rd_level (Rd_set_nodes (Rd_set_level s0 ((Rd_level s0) + (1 : Int32))) (upd (Rd_nodes (Rd_set_level s0 ((Rd_level s0) + (1 : Int32)))) (Rd_level (Rd_set_level s0 ((Rd_level s0) + (1 : Int32)))).toNatClampNeg o1.1))).toNatClampNeg x2)) (upd (Rd_isOpen (Rd_set_ends (Rd_set_nodes (Rd_set_level s0 ((Rd_level s0) + (1 : Int32))) (upd (Rd_nodes (Rd_set_level s0 ((Rd_level s0) + (1 : Int32)))) (Rd_level (Rd_set_level s0 ((Rd_level s0) + (1 : Int32)))).toNatClampNeg o1.1)) (upd (Rd_ends (Rd_set_nodes (Rd_set_level s0 ((Rd_level s0) + (1 : Int32))) (upd (Rd_nodes (Rd_set_level s0 ((Rd_level s0) + (1 : Int32)))) (Rd_level (Rd_set_level s0 ((Rd_level s0) + (1 : Int32)))).toNatClampNeg o1.1))) (Rd_level (Rd_set_nodes (Rd_set_level s0 ((Rd_level s0) + (1 : Int32))) (upd (Rd_nodes (Rd_set_level s0 ((Rd_level s0) + (1 : Int32)))) (Rd_level (Rd_set_level s0 ((Rd_level s0) + (1 : Int32)))).toNatClampNeg o1.1))).toNatClampNeg x2))) (Rd_level (Rd_set_ends (Rd_set_nodes (Rd_set_level s0 ((Rd_level s0) + (1 : Int32))) (upd (Rd_nodes (Rd_set_level s0 ((Rd_level s0) + (1 : Int32)))) (Rd_level (Rd_set_level s0 ((Rd_level s0) + (1 : Int32)))).toNatClampNeg o1.1)) (upd (Rd_ends (Rd_set_nodes (Rd_set_level s0 ((Rd_level s0) + (1 : Int32))) (upd (Rd_nodes (Rd_set_level s0 ((Rd_level s0) + (1 : Int32)))) (Rd_level (Rd_set_level s0 ((Rd_level s0) + (1 : Int32)))).toNatClampNeg o1.1))) (Rd_level (Rd_set_nodes (Rd_set_level s0 ((Rd_level s0) + (1 : Int32))) (upd (Rd_nodes (Rd_set_level s0 ((Rd_level s0) + (1 : Int32)))) (Rd_level (Rd_set_level s0 ((Rd_level s0) + (1 : Int32)))).toNatClampNeg o1.1))).toNatClampNeg x2))).toNatClampNeg (vp_nar .boolean x3)))) (Rd_level (Rd_set_isOpen (Rd_set_ends (Rd_set_nodes (Rd_set_level s0 ((Rd_level s0) + (1 : Int32))) (upd (Rd_nodes (Rd_set_level s0 ((Rd_level s0) + (1 : Int32)))) (Rd_level (Rd_set_level s0 ((Rd_level s0) + (1 : Int32)))).toNatClampNeg o1.1)) (upd (Rd_ends (Rd_set_nodes (Rd_set_level s0 ((Rd_level s0) + (1 : Int32))) (upd (Rd_nodes (Rd_set_level s0 ((Rd_level s0) + (1 : Int32)))) (Rd_level (Rd_set_level s0 ((Rd_level s0) + (1 : Int32)))).toNatClampNeg o1.1))) (Rd_level (Rd_set_nodes (Rd_set_level s0 ((Rd_level s0) + (1 : Int32))) (upd (Rd_nodes (Rd_set_level s0 ((Rd_level s0) + (1 : Int32)))) (Rd_level (Rd_set_level s0 ((Rd_level s0) + (1 : Int32)))).toNatClampNeg o1.1))).toNatClampNeg x2)) (upd (Rd_isOpen (Rd_set_ends (Rd_set_nodes (Rd_set_level s0 ((Rd_level s0) + (1 : Int32))) (upd (Rd_nodes (Rd_set_level s0 ((Rd_level s0) + (1 : Int32)))) (Rd_level (Rd_set_level s0 ((Rd_level s0) + (1 : Int32)))).toNatClampNeg o1.1)) (upd (Rd_ends (Rd_set_nodes (Rd_set_level s0 ((Rd_level s0) + (1 : Int32))) (upd (Rd_nodes (Rd_set_level s0 ((Rd_level s0) + (1 : Int32)))) (Rd_level (Rd_set_level s0 ((Rd_level s0) + (1 : Int32)))).toNatClampNeg o1.1))) (Rd_level (Rd_set_nodes (Rd_set_level s0 ((Rd_level s0) + (1 : Int32))) (upd (Rd_nodes (Rd_set_level s0 ((Rd_level s0) + (1 : Int32)))) (Rd_level (Rd_set_level s0 ((Rd_level s0) + (1 : Int32)))).toNatClampNeg o1.1))).toNatClampNeg x2))) (Rd_level (Rd_set_ends (Rd_set_nodes (Rd_set_level s0 ((Rd_level s0) + (1 : Int32))) (upd (Rd_nodes (Rd_set_level s0 ((Rd_level s0) + (1 : Int32)))) (Rd_level (Rd_set_level s0 ((Rd_level s0) + (1 : Int32)))).toNatClampNeg o1.1)) (upd (Rd_ends (Rd_set_nodes (Rd_set_level s0 ((Rd_level s0) + (1 : Int32))) (upd (Rd_nodes (Rd_set_level s0 ((Rd_level s0) + (1 : Int32)))) (Rd_level (Rd_set_level s0 ((Rd_level s0) + (1 : Int32)))).toNatClampNeg o1.1))) (Rd_level (Rd_set_nodes (Rd_set_level s0 ((Rd_level s0) + (1 : Int32))) (upd (Rd_nodes (Rd_set_level s0 ((Rd_level s0) + (1 : Int32)))) (Rd_level (Rd_set_level s0 ((Rd_level s0) + (1 : Int32)))).toNatClampNeg o1.1))).toNatClampNeg x2))).toNatClampNeg (vp_nar .boolean x3)))).toNatClampNeg (0 : Int32)))) < 0 ∨ 5 ≤ (Rd_level (Rd_set_counts (Rd_set_isOpen (Rd_set_ends (Rd_set_nodes (Rd_set_level s0 ((Rd_level s0) + (1 : Int32))) (upd (Rd_nodes (Rd_set_level s0 ((Rd_level s0) + (1 : Int32)))) (Rd_level (Rd_set_level s0 ((Rd_level s0) + (1 : Int32)))).toNatClampNeg o1.1)) (upd (Rd_ends (Rd_set_nodes (Rd_set_level s0 ((Rd_level s0) + (1 : Int32))) (upd (Rd_nodes (Rd_set_level s0 ((Rd_level s0) + (1 : Int32)))) (Rd_level (Rd_set_level s0 ((Rd_level s0) + (1 : Int32)))).toNatClampNeg o1.1))) (Rd_level (Rd_set_nodes (Rd_set_level s0 ((Rd_level s0) + (1 : Int32))) (upd (Rd_nodes (Rd_set_level s0 ((Rd_level s0) + (1 : Int32)))) (Rd_level (Rd_set_level s0 ((Rd_level s0) + (1 : Int32)))).toNatClampNeg o1.1))).toNatClampNeg x2)) (upd (Rd_isOpen (Rd_set_ends (Rd_set_nodes (Rd_set_level s0 ((Rd_level s0) + (1 : Int32))) (upd (Rd_nodes (Rd_set_level s0 ((Rd_level s0) + (1 : Int32)))) (Rd_level (Rd_set_level s0 ((Rd_level s0) + (1 : Int32)))).toNatClampNeg o1.1)) (upd (Rd_ends (Rd_set_nodes (Rd_set_level s0 ((Rd_level s0) + (1 : Int32))) (upd (Rd_nodes (Rd_set_level s0 ((Rd_level s0) + (1 : Int32)))) (Rd_level (Rd_set_level s0 ((Rd_level s0) + (1 : Int32)))).toNatClampNeg o1.1))) (Rd_level (Rd_set_nodes (Rd_set_level s0 ((Rd_level s0) + (1 : Int32))) (upd (Rd_nodes (Rd_set_level s0 ((Rd_level s0) + (1 : Int32)))) (Rd_level (Rd_set_level s0 ((Rd_level s0) + (1 : Int32)))).toNatClampNeg o1.1))).toNatClampNeg x2))) (Rd_level (Rd_set_ends (Rd_set_nodes (Rd_set_level s0 ((Rd_level s0) + (1 : Int32))) (upd (Rd_nodes (Rd_set_level s0 ((Rd_level s0) + (1 : Int32)))) (Rd_level (Rd_set_level s0 ((Rd_level s0) + (1 : Int32)))).toNatClampNeg o1.1)) (upd (Rd_ends (Rd_set_nodes (Rd_set_level s0 ((Rd_level s0) + (1 : Int32))) (upd (Rd_nodes (Rd_set_level s0 ((Rd_level s0) + (1 : Int32)))) (Rd_level (Rd_set_level s0 ((Rd_level s0) + (1 : Int32)))).toNatClampNeg o1.1))) (Rd_level (Rd_set_nodes (Rd_set_level s0 ((Rd_level s0) + (1 : Int32))) (upd (Rd_nodes (Rd_set_level s0 ((Rd_level s0) + (1 : Int32)))) (Rd_level (Rd_set_level s0 ((Rd_level s0) + (1 : Int32)))).toNatClampNeg o1.1))).toNatClampNeg x2))).toNatClampNeg (vp_nar .boolean x3))) (upd (Rd_counts (Rd_set_isOpen (Rd_set_ends (Rd_set_nodes (Rd_set_level s0 ((Rd_level s0) + (1 : Int32))) (upd (Rd_nodes (Rd_set_level s0 ((Rd_level s0) + (1 : Int32)))) (Rd_level (Rd_set_level s0 ((Rd_level s0) + (1 : Int32)))).toNatClampNeg o1.1)) (upd (Rd_ends (Rd_set_nodes (Rd_set_level s0 ((Rd_level s0) + (1 : Int32))) (upd (Rd_nodes (Rd_set_level s0 ((Rd_level s0) + (1 : Int32)))) (Rd_level (Rd_set_level s0 ((Rd_level s0) + (1 : Int32)))).toNatClampNeg o1.1))) (Rd_level (Rd_set_nodes (Rd_set_level s0 ((Rd_level s0) + (1 : Int32))) (upd (Rd_nodes (Rd_set_level s0 ((Rd_level s0) + (1 : Int32)))) (Rd_level (Rd_set_level s0 ((Rd_level s0) + (1 : Int32)))).toNatClampNeg o1.1))).toNatClampNeg x2)) (upd (Rd_isOpen (Rd_set_ends (Rd_set_nodes (Rd_set_level s0 ((Rd_level s0) + (1 : Int32))) (upd (Rd_nodes (Rd_set_level s0 ((Rd_level s0) + (1 : Int32)))) (Rd_level (Rd_set_level s0 ((Rd_level s0) + (1 : Int32)))).toNatClampNeg o1.1)) (upd (Rd_ends (Rd_set_nodes (Rd_set_level s0 ((Rd_level s0) + (1 : Int32))) (upd (Rd_nodes (Rd_set_level s0 ((Rd_level s0) + (1 : Int32)))) (Rd_level (Rd_set_level s0 ((Rd_level s0) + (1 : Int32)))).toNatClampNeg o1.1))) (Rd_level (Rd_set_nodes (Rd_set_level s0 ((Rd_level s0) + (1 : Int32))) (upd (Rd_nodes (Rd_set_level s0 ((Rd_level s0) + (1 : Int32)))) (Rd_level (Rd_set_level s0 ((Rd_level s0) + (1 : Int32)))).toNatClampNeg o1.1))).toNatClampNeg x2))) (Rd_level (Rd_set_ends (Rd_set_nodes (Rd_set_level s0 ((Rd_level s0) + (1 : Int32))) (upd (Rd_nodes (Rd_set_level s0 ((Rd_level s0) + (1 : Int32)))) (Rd_level (Rd_set_level s0 ((Rd_level s0) + (1 : Int32)))).toNatClampNeg o1.1)) (upd (Rd_ends (Rd_set_nodes (Rd_set_level s0 ((Rd_level s0) + (1 : Int32))) (upd (Rd_nodes (Rd_set_level s0 ((Rd_level s0) + (1 : Int32)))) (Rd_level (Rd_set_level s0 ((Rd_level s0) + (1 : Int32)))).toNatClampNeg o1.1))) (Rd_level (Rd_set_nodes (Rd_set_level s0 ((Rd_level s0) + (1 : Int32))) (upd (Rd_nodes (Rd_set_level s0 ((Rd_level s0) + (1 : Int32)))) (Rd_level (Rd_set_level s0 ((Rd_level s0) + (1 : Int32)))).toNatClampNeg o1.1))).toNatClampNeg x2))).toNatClampNeg (vp_nar .boolean x3)))) (Rd_level (Rd_set_isOpen (Rd_set_ends (Rd_set_nodes (Rd_set_level s0 ((Rd_level s0) + (1 : Int32))) (upd (Rd_nodes (Rd_set_level s0 ((Rd_level s0) + (1 : Int32)))) (Rd_level (Rd_set_level s0 ((Rd_level s0) + (1 : Int32)))).toNatClampNeg o1.1)) (upd (Rd_ends (Rd_set_nodes (Rd_set_level s0 ((Rd_level s0) + (1 : Int32))) (upd (Rd_nodes (Rd_set_level s0 ((Rd_level s0) + (1 : Int32)))) (Rd_level (Rd_set_level s0 ((Rd_level s0) + (1 : Int32)))).toNatClampNeg o1.1))) (Rd_level (Rd_set_nodes (Rd_set_level s0 ((Rd_level s0) + (1 : Int32))) (upd (Rd_nodes (Rd_set_level s0 ((Rd_level s0) + (1 : Int32)))) (Rd_level (Rd_set_level s0 ((Rd_level s0) + (1 : Int32)))).toNatClampNeg o1.1))).toNatClampNeg x2)) (upd (Rd_isOpen (Rd_set_ends (Rd_set_nodes (Rd_set_level s0 ((Rd_level s0) + (1 : Int32))) (upd (Rd_nodes (Rd_set_level s0 ((Rd_level s0) + (1 : Int32)))) (Rd_level (Rd_set_level s0 ((Rd_level s0) + (1 : Int32)))).toNatClampNeg o1.1)) (upd (Rd_ends (Rd_set_nodes (Rd_set_level s0 ((Rd_level s0) + (1 : Int32))) (upd (Rd_nodes (Rd_set_level s0 ((Rd_level s0) + (1 : Int32)))) (Rd_level (Rd_set_level s0 ((Rd_level s0) + (1 : Int32)))).toNatClampNeg o1.1))) (Rd_level (Rd_set_nodes (Rd_set_level s0 ((Rd_level s0) + (1 : Int32))) (upd (Rd_nodes (Rd_set_level s0 ((Rd_level s0) + (1 : Int32)))) (Rd_level (Rd_set_level s0 ((Rd_level s0) + (1 : Int32)))).toNatClampNeg o1.1))).toNatClampNeg x2))) (Rd_level (Rd_set_ends (Rd_set_nodes (Rd_set_level s0 ((Rd_level s0) + (1 : Int32))) (upd (Rd_nodes (Rd_set_level s0 ((Rd_level s0) + (1 : Int32)))) (Rd_level (Rd_set_level s0 ((Rd_level s0) + (1 : Int32)))).toNatClampNeg o1.1)) (upd (Rd_ends (Rd_set_nodes (Rd_set_level s0 ((Rd_level s0) + (1 : Int32))) (upd (Rd_nodes (Rd_set_level s0 ((Rd_level s0) + (1 : Int32)))) (Rd_level (Rd_set_level s0 ((Rd_level s0) + (1 : Int32)))).toNatClampNeg o1.1))) (Rd_level (Rd_set_nodes (Rd_set_level s0 ((Rd_level s0) + (1 : Int32))) (upd (Rd_nodes (Rd_set_level s0 ((Rd_level s0) + (1 : Int32)))) (Rd_level (Rd_set_level s0 ((Rd_level s0) + (1 : Int32)))).toNatClampNeg o1.1))).toNatClampNeg x2))).toNatClampNeg (vp_nar .boolean x3)))).toNatClampNeg (0 : Int32)))).toNatClampNeg) then none else some ((Rd_set_lastTags (Rd_set_counts (Rd_set_isOpen (Rd_set_ends (Rd_set_nodes (Rd_set_level s0 ((Rd_level s0) + (1 : Int32))) (upd (Rd_nodes (Rd_set_level s0 ((Rd_level s0) + (1 : Int32)))) (Rd_level (Rd_set_level s0 ((Rd_level s0) + (1 : Int32)))).toNatClampNeg o1.1)) (upd (Rd_ends (Rd_set_nodes (Rd_set_level s0 ((Rd_level s0) + (1 : Int32))) (upd (Rd_nodes (Rd_set_level s0 ((Rd_level s0) + (1 : Int32)))) (Rd_level (Rd_set_level s0 ((Rd_level s0) + (1 : Int32)))).toNatClampNeg o1.1))) (Rd_level (Rd_set_nodes (Rd_set_level s0 ((Rd_level s0) + (1 : Int32))) (upd (Rd_nodes (Rd_set_level s0 ((Rd_level s0) + (1 : Int32)))) (Rd_level (Rd_set_level s0 ((Rd_level s0) + (1 : Int32)))).toNatClampNeg o1.1))).toNatClampNeg x2)) (upd (Rd_isOpen (Rd_set_ends (Rd_set_nodes (Rd_set_level s0 ((Rd_level s0) + (1 : Int32))) (upd (Rd_nodes (Rd_set_level s0 ((Rd_level s0) + (1 : Int32)))) (Rd_level (Rd_set_level s0 ((Rd_level s0) + (1 : Int32)))).toNatClampNeg o1.1)) (upd (Rd_ends (Rd_set_nodes (Rd_set_level s0 ((Rd_level s0) + (1 : Int32))) (upd (Rd_nodes (Rd_set_level s0 ((Rd_level s0) + (1 : Int32)))) (Rd_level (Rd_set_level s0 ((Rd_level s0) + (1 : Int32)))).toNatClampNeg o1.1))) (Rd_level (Rd_set_nodes (Rd_set_level s0 ((Rd_level s0) + (1 : Int32))) (upd (Rd_nodes (Rd_set_level s0 ((Rd_level s0) + (1 : Int32)))) (Rd_level (Rd_set_level s0 ((Rd_level s0) + (1 : Int32)))).toNatClampNeg o1.1))).toNatClampNeg x2))) (Rd_level (Rd_set_ends (Rd_set_nodes (Rd_set_level s0 ((Rd_level s0) + (1 : Int32))) (upd (Rd_nodes (Rd_set_level s0 ((Rd_level s0) + (1 : Int32)))) (Rd_level (Rd_set_level s0 ((Rd_level s0) + (1 : Int32)))).toNatClampNeg o1.1)) (upd (Rd_ends (Rd_set_nodes (Rd_set_level s0 ((Rd_level s0) + (1 : Int32))) (upd (Rd_nodes (Rd_set_level s0 ((Rd_level s0) + (1 : Int32)))) (Rd_level (Rd_set_level s0 ((Rd_level s0) + (1 : Int32)))).toNatClampNeg o1.1))) (Rd_level (Rd_set_nodes (Rd_set_level s0 ((Rd_level s0) + (1 : Int32))) (upd (Rd_nodes (Rd_set_level s0 ((Rd_level s0) + (1 : Int32)))) (Rd_level (Rd_set_level s0 ((Rd_level s0) + (1 : Int32)))).toNatClampNeg o1.1))).toNatClampNeg x2))).toNatClampNeg (vp_nar .boolean x3))) (upd (Rd_counts (Rd_set_isOpen (Rd_set_ends (Rd_set_nodes (Rd_set_level s0 ((Rd_level s0) + (1 : Int32))) (upd (Rd_nodes (Rd_set_level s0 ((Rd_level s0) + (1 : Int32)))) (Rd_level (Rd_set_level s0 ((Rd_level s0) + (1 : Int32)))).toNatClampNeg o1.1)) (upd (Rd_ends (Rd_set_nodes (Rd_set_level s0 ((Rd_level s0) + (1 : Int32))) (upd (Rd_nodes (Rd_set_level s0 ((Rd_level s0) + (1 : Int32)))) (Rd_level (Rd_set_level s0 ((Rd_level s0) + (1 : Int32)))).toNatClampNeg o1.1))) (Rd_level (Rd_set_nodes (Rd_set_level s0 ((Rd_level s0) + (1 : Int32))) (upd (Rd_nodes (Rd_set_level s0 ((Rd_level s0) + (1 : Int32)))) (Rd_level (Rd_set_level s0 ((Rd_level s0) + (1 : Int32)))).toNatClampNeg o1.1))).toNatClampNeg x2)) (upd (Rd_isOpen (Rd_set_ends (Rd_set_nodes (Rd_set_level s0 ((Rd_level s0) + (1 : Int32))) (upd (Rd_nodes (Rd_set_level s0 ((Rd_level s0) + (1 : Int32)))) (Rd_level (Rd_set_level s0 ((Rd_level s0) + (1 : Int32)))).toNatClampNeg o1.1)) (upd (Rd_ends (Rd_set_nodes (Rd_set_level s0 ((Rd_level s0) + (1 : Int32))) (upd (Rd_nodes (Rd_set_level s0 ((Rd_level s0) + (1 : Int32)))) (Rd_level (Rd_set_level s0 ((Rd_level s0) + (1 : Int32)))).toNatClampNeg o1.1))) (Rd_level (Rd_set_nodes (Rd_set_level s0 ((Rd_level s0) + (1 : Int32))) (upd (Rd_nodes (Rd_set_level s0 ((Rd_level s0) + (1 : Int32)))) (Rd_level (Rd_set_level s0 ((Rd_level s0) + (1 : Int32)))).toNatClampNeg o1.1))).toNatClampNeg x2))) (Rd_level (Rd_set_ends (Rd_set_nodes (Rd_set_level s0 ((Rd_level s0) + (1 : Int32))) (upd (Rd_nodes (Rd_set_level s0 ((Rd_level s0) + (1 : Int32)))) (Rd_level (Rd_set_level s0 ((Rd_level s0) + (1 : Int32)))).toNatClampNeg o1.1)) (upd (Rd_ends (Rd_set_nodes (Rd_set_level s0 ((Rd_level s0) + (1 : Int32))) (upd (Rd_nodes (Rd_set_level s0 ((Rd_level s0) + (1 : Int32)))) (Rd_level (Rd_set_level s0 ((Rd_level s0) + (1 : Int32)))).toNatClampNeg o1.1))) (Rd_level (Rd_set_nodes (Rd_set_level s0 ((Rd_level s0) + (1 : Int32))) (upd (Rd_nodes (Rd_set_level s0 ((Rd_level s0) + (1 : Int32)))) (Rd_level (Rd_set_level s0 ((Rd_level s0) + (1 : Int32)))).toNatClampNeg o1.1))).toNatClampNeg x2))).toNatClampNeg (vp_nar .boolean x3)))) (Rd_level (Rd_set_isOpen (Rd_set_ends (Rd_set_nodes (Rd_set_level s0 ((Rd_level s0) + (1 : Int32))) (upd (Rd_nodes (Rd_set_level s0 ((Rd_level s0) + (1 : Int32)))) (Rd_level (Rd_set_level s0 ((Rd_level s0) + (1 : Int32)))).toNatClampNeg o1.1)) (upd (Rd_ends (Rd_set_nodes (Rd_set_level s0 ((Rd_level s0) + (1 : Int32))) (upd (Rd_nodes (Rd_set_level s0 ((Rd_level s0) + (1 : Int32)))) (Rd_level (Rd_set_level s0 ((Rd_level s0) + (1 : Int32)))).toNatClampNeg o1.1))) (Rd_level (Rd_set_nodes (Rd_set_level s0 ((Rd_level s0) + (1 : Int32))) (upd (Rd_nodes (Rd_set_level s0 ((Rd_level s0) + (1 : Int32)))) (Rd_level (Rd_set_level s0 ((Rd_level s0) + (1 : Int32)))).toNatClampNeg o1.1))).toNatClampNeg x2)) (upd (Rd_isOpen (Rd_set_ends (Rd_set_nodes (Rd_set_level s0 ((Rd_level s0) + (1 : Int32))) (upd (Rd_nodes (Rd_set_level s0 ((Rd_level s0) + (1 : Int32)))) (Rd_level (Rd_set_level s0 ((Rd_level s0) + (1 : Int32)))).toNatClampNeg o1.1)) (upd (Rd_ends (Rd_set_nodes (Rd_set_level s0 ((Rd_level s0) + (1 : Int32))) (upd (Rd_nodes (Rd_set_level s0 ((Rd_level s0) + (1 : Int32)))) (Rd_level (Rd_set_level s0 ((Rd_level s0) + (1 : Int32)))).toNatClampNeg o1.1))) (Rd_level (Rd_set_nodes (Rd_set_level s0 ((Rd_level s0) + (1 : Int32))) (upd (Rd_nodes (Rd_set_level s0 ((Rd_level s0) + (1 : Int32)))) (Rd_level (Rd_set_level s0 ((Rd_level s0) + (1 : Int32)))).toNatClampNeg o1.1))).toNatClampNeg x2))) (Rd_level (Rd_set_ends (Rd_set_nodes (Rd_set_level s0 ((Rd_level s0) + (1 : Int32))) (upd (Rd_nodes (Rd_set_level s0 ((Rd_level s0) + (1 : Int32)))) (Rd_level (Rd_set_level s0 ((Rd_level s0) + (1 : Int32)))).toNatClampNeg o1.1)) (upd (Rd_ends (Rd_set_nodes (Rd_set_level s0 ((Rd_level s0) + (1 : Int32))) (upd (Rd_nodes (Rd_set_level s0 ((Rd_level s0) + (1 : Int32)))) (Rd_level (Rd_set_level s0 ((Rd_level s0) + (1 : Int32)))).toNatClampNeg o1.1))) (Rd_level (Rd_set_nodes (Rd_set_level s0 ((Rd_level s0) + (1 : Int32))) (upd (Rd_nodes (Rd_set_level s0 ((Rd_level s0) + (1 : Int32)))) (Rd_level (Rd_set_level s0 ((Rd_level s0) + (1 : Int32)))).toNatClampNeg o1.1))).toNatClampNeg x2))).toNatClampNeg (vp_nar .boolean x3)))).toNatClampNeg (0 : Int32))) (upd (Rd_lastTags (Rd_set_counts (Rd_set_isOpen (Rd_set_ends (Rd_set_nodes (Rd_set_level s0 ((Rd_level s0) + (1 : Int32))) (upd (Rd_nodes (Rd_set_level s0 ((Rd_level s0) + (1 : Int32)))) (Rd_level (Rd_set_level s0 ((Rd_level s0) + (1 : Int32)))).toNatClampNeg o1.1)) (upd (Rd_ends (Rd_set_nodes (Rd_set_level s0 ((Rd_level s0) + (1 : Int32))) (upd (Rd_nodes (Rd_set_level s0 ((Rd_level s0) + (1 : Int32)))) (Rd_level (Rd_set_level s0 ((Rd_level s0) + (1 : Int32)))).toNatClampNeg o1.1))) (Rd_level (Rd_set_nodes (Rd_set_level s0 ((Rd_level s0) + (1 : Int32))) (upd (Rd_nodes (Rd_set_level s0 ((Rd_level s0) + (1 : Int32)))) (Rd_level (Rd_set_level s0 ((Rd_level s0) + (1 : Int32)))).toNatClampNeg o1.1))).toNatClampNeg x2)) (upd (Rd_isOpen (Rd_set_ends (Rd_set_nodes (Rd_set_level s0 ((Rd_level s0) + (1 : Int32))) (upd (Rd_nodes (Rd_set_level s0 ((Rd_level s0) + (1 : Int32)))) (Rd_level (Rd_set_level s0 ((Rd_level s0) + (1 : Int32)))).toNatClampNeg o1.1)) (upd (Rd_ends (Rd_set_nodes (Rd_set_level s0 ((Rd_level s0) + (1 : Int32))) (upd (Rd_nodes (Rd_set_level s0 ((Rd_level s0) + (1 : Int32)))) (Rd_level (Rd_set_level s0 ((Rd_level s0) + (1 : Int32)))).toNatClampNeg o1.1))) (Rd_level (Rd_set_nodes (Rd_set_level s0 ((Rd_level s0) + (1 : Int32))) (upd (Rd_nodes (Rd_set_level s0 ((Rd_level s0) + (1 : Int32)))) (Rd_level (Rd_set_level s0 ((Rd_level s0) + (1 : Int32)))).toNatClampNeg o1.1))).toNatClampNeg x2))) (Rd_level (Rd_set_ends (Rd_set_nodes (Rd_set_level s0 ((Rd_level s0) + (1 : Int32))) (upd (Rd_nodes (Rd_set_level s0 ((Rd_level s0) + (1 : Int32)))) (Rd_level (Rd_set_level s0 ((Rd_level s0) + (1 : Int32)))).toNatClampNeg o1.1)) (upd (Rd_ends (Rd_set_nodes (Rd_set_level s0 ((Rd_level s0) + (1 : Int32))) (upd (Rd_nodes (Rd_set_level s0 ((Rd_level s0) + (1 : Int32)))) (Rd_level (Rd_set_level s0 ((Rd_level s0) + (1 : Int32)))).toNatClampNeg o1.1))) (Rd_level (Rd_set_nodes (Rd_set_level s0 ((Rd_level s0) + (1 : Int32))) (upd (Rd_nodes (Rd_set_level s0 ((Rd_level s0) + (1 : Int32)))) (Rd_level (Rd_set_level s0 ((Rd_level s0) + (1 : Int32)))).toNatClampNeg o1.1))).toNatClampNeg x2))).toNatClampNeg (vp_nar .boolean x3))) (upd (Rd_counts (Rd_set_isOpen (Rd_set_ends (Rd_set_nodes (Rd_set_level s0 ((Rd_level s0) + (1 : Int32))) (upd (Rd_nodes (Rd_set_level s0 ((Rd_level s0) + (1 : Int32)))) (Rd_level (Rd_set_level s0 ((Rd_level s0) + (1 : Int32)))).toNatClampNeg o1.1)) (upd (Rd_ends (Rd_set_nodes (Rd_set_level s0 ((Rd_level s0) + (1 : Int32))) (upd (Rd_nodes (Rd_set_level s0 ((Rd_level s0) + (1 : Int32)))) (Rd_level (Rd_set_level s0 ((Rd_level s0) + (1 : Int32)))).toNatClampNeg o1.1))) (Rd_level (Rd_set_nodes (Rd_set_level s0 ((Rd_level s0) + (1 : Int32))) (upd (Rd_nodes (Rd_set_level s0 ((Rd_level s0) + (1 : Int32)))) (Rd_level (Rd_set_level s0 ((Rd_level s0) + (1 : Int32)))).toNatClampNeg o1.1))).toNatClampNeg x2)) (upd (Rd_isOpen (Rd_set_ends (Rd_set_nodes (Rd_set_level s0 ((Rd_level s0) + (1 : Int32))) (upd (Rd_nodes (Rd_set_level s0 ((Rd_level s0) + (1 : Int32)))) (Rd_level (Rd_set_level s0 ((Rd_level s0) + (1 : Int32)))).toNatClampNeg o1.1)) (upd (Rd_ends (Rd_set_nodes (Rd_set_level s0 ((Rd_level s0) + (1 : Int32))) (upd (Rd_nodes (Rd_set_level s0 ((Rd_level s0) + (1 : Int32)))) (Rd_level (Rd_set_level s0 ((Rd_level s0) + (1 : Int32)))).toNatClampNeg o1.1))) (Rd_level (Rd_set_nodes (Rd_set_level s0 ((Rd_level s0) + (1 : Int32))) (upd (Rd_nodes (Rd_set_level s0 ((Rd_level s0) + (1 : Int32)))) (Rd_level (Rd_set_level s0 ((Rd_level s0) + (1 : Int32)))).toNatClampNeg o1.1))).toNatClampNeg x2))) (Rd_level (Rd_set_ends (Rd_set_nodes (Rd_set_level s0 ((Rd_level s0) + (1 : Int32))) (upd (Rd_nodes (Rd_set_level s0 ((Rd_level s0) + (1 : Int32)))) (Rd_level (Rd_set_level s0 ((Rd_level s0) + (1 : Int32)))).toNatClampNeg o1.1)) (upd (Rd_ends (Rd_set_nodes (Rd_set_level s0 ((Rd_level s0) + (1 : Int32))) (upd (Rd_nodes (Rd_set_level s0 ((Rd_level s0) + (1 : Int32)))) (Rd_level (Rd_set_level s0 ((Rd_level s0) + (1 : Int32)))).toNatClampNeg o1.1))) (Rd_level (Rd_set_nodes (Rd_set_level s0 ((Rd_level s0) + (1 : Int32))) (upd (Rd_nodes (Rd_set_level s0 ((Rd_level s0) + (1 : Int32)))) (Rd_level (Rd_set_level s0 ((Rd_level s0) + (1 : Int32)))).toNatClampNeg o1.1))).toNatClampNeg x2))).toNatClampNeg (vp_nar .boolean x3)))) (Rd_level (Rd_set_isOpen (Rd_set_ends (Rd_set_nodes (Rd_set_level s0 ((Rd_level s0) + (1 : Int32))) (upd (Rd_nodes (Rd_set_level s0 ((Rd_level s0) + (1 : Int32)))) (Rd_level (Rd_set_level s0 ((Rd_level s0) + (1 : Int32)))).toNatClampNeg o1.1)) (upd (Rd_ends (Rd_set_nodes (Rd_set_level s0 ((Rd_level s0) + (1 : Int32))) (upd (Rd_nodes (Rd_set_level s0 ((Rd_level s0) + (1 : Int32)))) (Rd_level (Rd_set_level s0 ((Rd_level s0) + (1 : Int32)))).toNatClampNeg o1.1))) (Rd_level (Rd_set_nodes (Rd_set_level s0 ((Rd_level s0) + (1 : Int32))) (upd (Rd_nodes (Rd_set_level s0 ((Rd_level s0) + (1 : Int32)))) (Rd_level (Rd_set_level s0 ((Rd_level s0) + (1 : Int32)))).toNatClampNeg o1.1))).toNatClampNeg x2)) (upd (Rd_isOpen (Rd_set_ends (Rd_set_nodes (Rd_set_level s0 ((Rd_level s0) + (1 : Int32))) (upd (Rd_nodes (Rd_set_level s0 ((Rd_level s0) + (1 : Int32)))) (Rd_level (Rd_set_level s0 ((Rd_level s0) + (1 : Int32)))).toNatClampNeg o1.1)) (upd (Rd_ends (Rd_set_nodes (Rd_set_level s0 ((Rd_level s0) + (1 : Int32))) (upd (Rd_nodes (Rd_set_level s0 ((Rd_level s0) + (1 : Int32)))) (Rd_level (Rd_set_level s0 ((Rd_level s0) + (1 : Int32)))).toNatClampNeg o1.1))) (Rd_level (Rd_set_nodes (Rd_set_level s0 ((Rd_level s0) + (1 : Int32))) (upd (Rd_nodes (Rd_set_level s0 ((Rd_level s0) + (1 : Int32)))) (Rd_level (Rd_set_level s0 ((Rd_level s0) + (1 : Int32)))).toNatClampNeg o1.1))).toNatClampNeg x2))) (Rd_level (Rd_set_ends (Rd_set_nodes (Rd_set_level s0 ((Rd_level s0) + (1 : Int32))) (upd (Rd_nodes (Rd_set_level s0 ((Rd_level s0) + (1 : Int32)))) (Rd_level (Rd_set_level s0 ((Rd_level s0) + (1 : Int32)))).toNatClampNeg o1.1)) (upd (Rd_ends (Rd_set_nodes (Rd_set_level s0 ((Rd_level s0) + (1 : Int32))) (upd (Rd_nodes (Rd_set_level s0 ((Rd_level s0) + (1 : Int32)))) (Rd_level (Rd_set_level s0 ((Rd_level s0) + (1 : Int32)))).toNatClampNeg o1.1))) (Rd_level (Rd_set_nodes (Rd_set_level s0 ((Rd_level s0) + (1 : Int32))) (upd (Rd_nodes (Rd_set_level s0 ((Rd_level s0) + (1 : Int32)))) (Rd_level (Rd_set_level s0 ((Rd_level s0) + (1 : Int32)))).toNatClampNeg o1.1))).toNatClampNeg x2))).toNatClampNeg (vp_nar .boolean x3)))).toNatClampNeg (0 : Int32)))) (Rd_level (Rd_set_counts (Rd_set_isOpen (Rd_set_ends (Rd_set_nodes (Rd_set_level s0 ((Rd_level s0) + (1 : Int32))) (upd (Rd_nodes (Rd_set_level s0 ((Rd_level s0) + (1 : Int32)))) (Rd_level (Rd_set_level s0 ((Rd_level s0) + (1 : Int32)))).toNatClampNeg o1.1)) (upd (Rd_ends (Rd_set_nodes (Rd_set_level s0 ((Rd_level s0) + (1 : Int32))) (upd (Rd_nodes (Rd_set_level s0 ((Rd_level s0) + (1 : Int32)))) (Rd_level (Rd_set_level s0 ((Rd_level s0) + (1 : Int32)))).toNatClampNeg o1.1))) (Rd_level (Rd_set_nodes (Rd_set_level s0 ((Rd_level s0) + (1 : Int32))) (upd (Rd_nodes (Rd_set_level s0 ((Rd_level s0) + (1 : Int32)))) (Rd_level (Rd_set_level s0 ((Rd_level s0) + (1 : Int32)))).toNatClampNeg o1.1))).toNatClampNeg x2)) (upd (Rd_isOpen (Rd_set_ends (Rd_set_nodes (Rd_set_level s0 ((Rd_level s0) + (1 : Int32))) (upd (Rd_nodes (Rd_set_level s0 ((Rd_level s0) + (1 : Int32)))) (Rd_level (Rd_set_level s0 ((Rd_level s0) + (1 : Int32)))).toNatClampNeg o1.1)) (upd (Rd_ends (Rd_set_nodes (Rd_set_level s0 ((Rd_level s0) + (1 : Int32))) (upd (Rd_nodes (Rd_set_level s0 ((Rd_level s0) + (1 : Int32)))) (Rd_level (Rd_set_level s0 ((Rd_level s0) + (1 : Int32)))).toNatClampNeg o1.1))) (Rd_level (Rd_set_nodes (Rd_set_level s0 ((Rd_level s0) + (1 : Int32))) (upd (Rd_nodes (Rd_set_level s0 ((Rd_level s0) + (1 : Int32)))) (Rd_level (Rd_set_level s0 ((Rd_level s0) + (1 : Int32)))).toNatClampNeg o1.1))).toNatClampNeg x2))) (Rd_level (Rd_set_ends (Rd_set_nodes (Rd_set_level s0 ((Rd_level s0) + (1 : Int32))) (upd (Rd_nodes (Rd_set_level s0 ((Rd_level s0) + (1 : Int32)))) (Rd_level (Rd_set_level s0 ((Rd_level s0) + (1 : Int32)))).toNatClampNeg o1.1)) (upd (Rd_ends (Rd_set_nodes (Rd_set_level s0 ((Rd_level s0) + (1 : Int32))) (upd (Rd_nodes (Rd_set_level s0 ((Rd_level s0) + (1 : Int32)))) (Rd_level (Rd_set_level s0 ((Rd_level s0) + (1 : Int32)))).toNatClampNeg o1.1))) (Rd_level (Rd_set_nodes (Rd_set_level s0 ((Rd_level s0) + (1 : Int32))) (upd (Rd_nodes (Rd_set_level s0 ((Rd_level s0) + (1 : Int32)))) (Rd_level (Rd_set_level s0 ((Rd_level s0) + (1 : Int32)))).toNatClampNeg o1.1))).toNatClampNeg x2))).toNatClampNeg (vp_nar .boolean x3))) (upd (Rd_counts (Rd_set_isOpen (Rd_set_ends (Rd_set_nodes (Rd_set_level s0 ((Rd_level s0) + (1 : Int32))) (upd (Rd_nodes (Rd_set_level s0 ((Rd_level s0) + (1 : Int32)))) (Rd_level (Rd_set_level s0 ((Rd_level s0) + (1 : Int32)))).toNatClampNeg o1.1)) (upd (Rd_ends (Rd_set_nodes (Rd_set_level s0 ((Rd_level s0) + (1 : Int32))) (upd (Rd_nodes (Rd_set_level s0 ((Rd_level s0) + (1 : Int32)))) (Rd_level (Rd_set_level s0 ((Rd_level s0) + (1 : Int32)))).toNatClampNeg o1.1))) (Rd_level (Rd_set_nodes (Rd_set_level s0 ((Rd_level s0) + (1 : Int32))) (upd (Rd_nodes (Rd_set_level s0 ((Rd_level s0) + (1 : Int32)))) (Rd_level (Rd_set_level s0 ((Rd_level s0) + (1 : Int32)))).toNatClampNeg o1.1))).toNatClampNeg x2)) (upd (Rd_isOpen (Rd_set_ends (Rd_set_nodes (Rd_set_level s0 ((Rd_level s0) + (1 : Int32))) (upd (Rd_nodes (Rd_set_level s0 ((Rd_level s0) + (1 : Int32)))) (Rd_level (Rd_set_level s0 ((Rd_level s0) + (1 : Int32)))).toNatClampNeg o1.1)) (upd (Rd_ends (Rd_set_nodes (Rd_set_level s0 ((Rd_level s0) + (1 : Int32))) (upd (Rd_nodes (Rd_set_level s0 ((Rd_level s0) + (1 : Int32)))) (Rd_level (Rd_set_level s0 ((Rd_level s0) + (1 : Int32)))).toNatClampNeg o1.1))) (Rd_level (Rd_set_nodes (Rd_set_level s0 ((Rd_level s0) + (1 : Int32))) (upd (Rd_nodes (Rd_set_level s0 ((Rd_level s0) + (1 : Int32)))) (Rd_level (Rd_set_level s0 ((Rd_level s0) + (1 : Int32)))).toNatClampNeg o1.1))).toNatClampNeg x2))) (Rd_level (Rd_set_ends (Rd_set_nodes (Rd_set_level s0 ((Rd_level s0) + (1 : Int32))) (upd (Rd_nodes (Rd_set_level s0 ((Rd_level s0) + (1 : Int32)))) (Rd_level (Rd_set_level s0 ((Rd_level s0) + (1 : Int32)))).toNatClampNeg o1.1)) (upd (Rd_ends (Rd_set_nodes (Rd_set_level s0 ((Rd_level s0) + (1 : Int32))) (upd (Rd_nodes (Rd_set_level s0 ((Rd_level s0) + (1 : Int32)))) (Rd_level (Rd_set_level s0 ((Rd_level s0) + (1 : Int32)))).toNatClampNeg o1.1))) (Rd_level (Rd_set_nodes (Rd_set_level s0 ((Rd_level s0) + (1 : Int32))) (upd (Rd_nodes (Rd_set_level s0 ((Rd_level s0) + (1 : Int32)))) (Rd_level (Rd_set_level s0 ((Rd_level s0) + (1 : Int32)))).toNatClampNeg o1.1))).toNatClampNeg x2))).toNatClampNeg (vp_nar .boolean x3)))) (Rd_level (Rd_set_isOpen (Rd_set_ends (Rd_set_nodes (Rd_set_level s0 ((Rd_level s0) + (1 : Int32))) (upd (Rd_nodes (Rd_set_level s0 ((Rd_level s0) + (1 : Int32)))) (Rd_level (Rd_set_level s0 ((Rd_level s0) + (1 : Int32)))).toNatClampNeg o1.1)) (upd (Rd_ends (Rd_set_nodes (Rd_set_level s0 ((Rd_level s0) + (1 : Int32))) (upd (Rd_nodes (Rd_set_level s0 ((Rd_level s0) + (1 : Int32)))) (Rd_level (Rd_set_level s0 ((Rd_level s0) + (1 : Int32)))).toNatClampNeg o1.1))) (Rd_level (Rd_set_nodes (Rd_set_level s0 ((Rd_level s0) + (1 : Int32))) (upd (Rd_nodes (Rd_set_level s0 ((Rd_level s0) + (1 : Int32)))) (Rd_level (Rd_set_level s0 ((Rd_level s0) + (1 : Int32)))).toNatClampNeg o1.1))).toNatClampNeg x2)) (upd (Rd_isOpen (Rd_set_ends (Rd_set_nodes (Rd_set_level s0 ((Rd_level s0) + (1 : Int32))) (upd (Rd_nodes (Rd_set_level s0 ((Rd_level s0) + (1 : Int32)))) (Rd_level (Rd_set_level s0 ((Rd_level s0) + (1 : Int32)))).toNatClampNeg o1.1)) (upd (Rd_ends (Rd_set_nodes (Rd_set_level s0 ((Rd_level s0) + (1 : Int32))) (upd (Rd_nodes (Rd_set_level s0 ((Rd_level s0) + (1 : Int32)))) (Rd_level (Rd_set_level s0 ((Rd_level s0) + (1 : Int32)))).toNatClampNeg o1.1))) (Rd_level (Rd_set_nodes (Rd_set_level s0 ((Rd_level s0) + (1 : Int32))) (upd (Rd_nodes (Rd_set_level s0 ((Rd_level s0) + (1 : Int32)))) (Rd_level (Rd_set_level s0 ((Rd_level s0) + (1 : Int32)))).toNatClampNeg o1.1))).toNatClampNeg x2))) (Rd_level (Rd_set_ends (Rd_set_nodes (Rd_set_level s0 ((Rd_level s0) + (1 : Int32))) (upd (Rd_nodes (Rd_set_level s0 ((Rd_level s0) + (1 : Int32)))) (Rd_level (Rd_set_level s0 ((Rd_level s0) + (1 : Int32)))).toNatClampNeg o1.1)) (upd (Rd_ends (Rd_set_nodes (Rd_set_level s0 ((Rd_level s0) + (1 : Int32))) (upd (Rd_nodes (Rd_set_level s0 ((Rd_level s0) + (1 : Int32)))) (Rd_level (Rd_set_level s0 ((Rd_level s0) + (1 : Int32)))).toNatClampNeg o1.1))) (Rd_level (Rd_set_nodes (Rd_set_level s0 ((Rd_level s0) + (1 : Int32))) (upd (Rd_nodes (Rd_set_level s0 ((Rd_level s0) + (1 : Int32)))) (Rd_level (Rd_set_level s0 ((Rd_level s0) + (1 : Int32)))).toNatClampNeg o1.1))).toNatClampNeg x2))).toNatClampNeg (vp_nar .boolean x3)))).toNatClampNeg (0 : Int32)))).toNatClampNeg (0 : Int32))), o1.2)))))))
def B_Rd_enter_10 (s0 : S_Rd) (s1 : S_Tr) : Option (S_Rd × S_Tr) :=
  some (s0, s1)
def B_Rd_enter_0 (s0 : S_Rd) (s1 : S_Tr) (x1 : Int32) (x2 : Int32) (x3 : Int32) : Option (S_Rd × S_Tr) :=
  (if ((Rd_level s0) + (1 : Int32)) < (5 : Int32) then (B_Rd_enter_11 s0 s1 x1 x2 x3) else (B_Rd_enter_10 s0 s1))
def F_Rd_enter (s0 : S_Rd) (s1 : S_Tr) (x1 : Int32) (x2 : Int32) (x3 : Int32) : Option (S_Rd × S_Tr) := B_Rd_enter_0 s0 s1 x1 x2 x3
set_option maxRecDepth 100000 in
set_option maxHeartbeats 4000000 in
theorem t_Rd_enter_11 {p : Program} {l : Launch} {e : Env} {s : State} {m : MethodId} {args : Array Value} {below : List Frame} {meth : Method} {c : Code} {D : va_G} {A : Nat → Prop} {g : Nat → ClassId} {rest : va_W} {a0 : Nat → Nat} {a1 : Nat → Nat} {sr : Nat → Nat} {ls : Array Slot} {H : Heap} {locs : List Loc} {s0 : S_Rd} {s1 : S_Tr} {x1 : Int32} {x2 : Int32} {x3 : Int32} {out : S_Rd × S_Tr} (X : Cx p s m args meth c prog_7_method_5_code 4 ws_Rd_enter R_Rd none D g) (hl : lv_has ls 4 [(0, .ref (a0 0)), (1, .int x1), (2, .int x2), (3, .int x3)]) (hI : Iw D A (w_Rd g a0 (tw (a1 0) (sr 0)) s0 ++ (w_Tr g a1 s1 ++ (rest))) H) (hS : va_S A s.heap H locs) (h : B_Rd_enter_11  s0 s1 x1 x2 x3 = some out) : W p l e (headSpec ws_Rd_enter { frames := 1, cells := 0, slots := 0, locals := 24 }).room s m args below meth c H locs 0 0 (MQ below (QcV D A g (fun (_ : Unit) => w_Rd g a0 (tw (a1 0) (sr 0)) out.1 ++ (w_Tr g a1 out.2 ++ (rest)))) args s 0 0 A) (F0 m 11 ls []) := by
  have X1 := X
  obtain ⟨hx, hb, hml, hown, hts, hr, hlocks, hKK⟩ := X1
  have ht : ∀ w ∈ TB, w.before args s = true := fun w h => hts w (List.mem_cons_of_mem _ h)
  have hK := hKK.1
  unfold B_Rd_enter_11 at h
  refine lv_aload_n hx hb d_Rd_enter_11 rfl (lv_at hl 0 rfl) ?_
  refine lv_dup hx hb d_Rd_enter_12 rfl ?_
  refine va_get (D := D) (ci := 5) (v := .int (Rd_level s0)) (C := R_Rd) (T := T_Rd) (N := 11) hx hb ht in_Rd hown hK hI.1 0 rfl rfl 9 (by decide) (ht _ m_167) (fun _ h9 => h9) rfl d_Rd_enter_13 ?_
  refine lv_iconst (v := 1) hx hb d_Rd_enter_16 (by decide) ?_
  refine lv_iadd hx hb d_Rd_enter_17 ?_
  refine va_put (D := D) (ci := 5) (v := .int ((Rd_level s0) + (1 : Int32))) (ty := .int) (C := R_Rd) (T := T_Rd) (N := 11) hx hb ht in_Rd ty_Rd tyok_Rd nm_Rd hown hK hI.1 hI.2 hS 0 rfl rfl 9 (by decide) (ht _ m_167) (fun _ h9 => h9) rfl (by decide +kernel) rfl rfl (Nat.le_of_ble_eq_true rfl) d_Rd_enter_18 (fun H locs hP hD hS => ?_)
  have hI : Iw D A (w_Rd g a0 (tw (a1 0) (sr 0)) (Rd_set_level s0 ((Rd_level s0) + (1 : Int32))) ++ (w_Tr g a1 s1 ++ (rest))) H := ⟨hP, hD⟩
  refine lv_aload_n hx hb d_Rd_enter_21 rfl (lv_at hl 0 rfl) ?_
  refine va_get (D := D) (ci := 5) (v := .ref (a0 1)) (C := R_Rd) (T := T_Rd) (N := 11) hx hb ht in_Rd hown hK hI.1 0 rfl rfl 1 (by decide) (ht _ m_159) (fun _ h9 => h9) rfl d_Rd_enter_22 ?_
  refine lv_aload_n hx hb d_Rd_enter_25 rfl (lv_at hl 0 rfl) ?_
  refine va_get (D := D) (ci := 5) (v := .int (Rd_level (Rd_set_level s0 ((Rd_level s0) + (1 : Int32))))) (C := R_Rd) (T := T_Rd) (N := 11) hx hb ht in_Rd hown hK hI.1 0 rfl rfl 9 (by decide) (ht _ m_167) (fun _ h9 => h9) rfl d_Rd_enter_26 ?_
  refine lv_aload_n hx hb d_Rd_enter_29 rfl (lv_at hl 0 rfl) ?_
  refine va_get (D := D) (ci := 5) (v := .ref (a1 0)) (C := R_Rd) (T := T_Rd) (N := 11) hx hb ht in_Rd hown hK hI.1 0 rfl rfl 0 (by decide) (ht _ m_158) (fun _ h9 => h9) rfl d_Rd_enter_30 ?_
  refine lv_iload_n hx hb d_Rd_enter_33 rfl (lv_at hl 1 rfl) ?_
  refine lv_iconst (v := 0) hx hb d_Rd_enter_34 (by decide) ?_
  refine lv_iconst (v := 0) hx hb d_Rd_enter_35 (by decide) ?_
  obtain ⟨o1, ho2, h⟩ := bd_s h
  refine cl_i (W1 := fun (_ : Unit) => w_Rd g a0 (tw (a1 0) (sr 0)) (Rd_set_level s0 ((Rd_level s0) + (1 : Int32))) ++ (w_Tr g a1 o1.2 ++ (rest))) (va_runV (As := [.int x1, .int (0 : Int32), .int (0 : Int32)]) (rest := [.int (Rd_level (Rd_set_level s0 ((Rd_level s0) + (1 : Int32)))), .ref (a0 1)]) ⟨hx, hb, hml, hown, ht⟩ (c_Tr_add (l := l) (D := D) (A := A) (g := g) (rest := w_Rd g a0 (tw (a1 0) (sr 0)) (Rd_set_level s0 ((Rd_level s0) + (1 : Int32))) ++ (rest)) (a0 := a1) ho2) (cwV 3 ht (gd_V m_425 m_426 m_427 m_9 m_428) rfl rfl rfl (by decide +kernel) ⟨(Nat.le_of_ble_eq_true rfl), (Nat.le_of_ble_eq_true rfl)⟩) (prV (ci := 7) (q0 := 0) hKK hI (mv_1) rfl rfl rfl) rfl rfl hl.1 rfl (lv_room (Nat.le_of_ble_eq_true rfl)) d_Rd_enter_36 ⟨(Nat.le_of_ble_eq_true rfl), (Nat.le_of_ble_eq_true rfl)⟩) hS (fun _ => ((mv_1)).symm) (fun _ H locs hI hS => ?_)
  have hI : Iw D A (w_Rd g a0 (tw (a1 0) (sr 0)) (Rd_set_level s0 ((Rd_level s0) + (1 : Int32))) ++ (w_Tr g a1 o1.2 ++ (rest))) H := hI
  by_cases hc3 : ((Rd_level (Rd_set_level s0 ((Rd_level s0) + (1 : Int32)))) < 0 ∨ 5 ≤ (Rd_level (Rd_set_level s0 ((Rd_level s0) + (1 : Int32)))).toNatClampNeg)
  · exact no_s (it_t h hc3)
  have h := it_f h hc3
  refine va_iast hx hb hK hI.1 hI.2 hS 1 0 rfl rfl hc3 d_Rd_enter_39 (fun H locs hP hD hS => ?_)
  have hI : Iw D A (w_Rd g a0 (tw (a1 0) (sr 0)) (Rd_set_nodes (Rd_set_level s0 ((Rd_level s0) + (1 : Int32))) (upd (Rd_nodes (Rd_set_level s0 ((Rd_level s0) + (1 : Int32)))) (Rd_level (Rd_set_level s0 ((Rd_level s0) + (1 : Int32)))).toNatClampNeg o1.1)) ++ (w_Tr g a1 o1.2 ++ (rest))) H := ⟨hP, hD⟩
  refine lv_aload_n hx hb d_Rd_enter_40 rfl (lv_at hl 0 rfl) ?_
  refine va_get (D := D) (ci := 5) (v := .ref (a0 2)) (C := R_Rd) (T := T_Rd) (N := 11) hx hb ht in_Rd hown hK hI.1 0 rfl rfl 2 (by decide) (ht _ m_160) (fun _ h9 => h9) rfl d_Rd_enter_41 ?_
  refine lv_aload_n hx hb d_Rd_enter_44 rfl (lv_at hl 0 rfl) ?_
  refine va_get (D := D) (ci := 5) (v := .int (Rd_level (Rd_set_nodes (Rd_set_level s0 ((Rd_level s0) + (1 : Int32))) (upd (Rd_nodes (Rd_set_level s0 ((Rd_level s0) + (1 : Int32)))) (Rd_level (Rd_set_level s0 ((Rd_level s0) + (1 : Int32)))).toNatClampNeg o1.1)))) (C := R_Rd) (T := T_Rd) (N := 11) hx hb ht in_Rd hown hK hI.1 0 rfl rfl 9 (by decide) (ht _ m_167) (fun _ h9 => h9) rfl d_Rd_enter_45 ?_
  refine lv_iload_n hx hb d_Rd_enter_48 rfl (lv_at hl 2 rfl) ?_
  by_cases hc4 : ((Rd_level (Rd_set_nodes (Rd_set_level s0 ((Rd_level s0) + (1 : Int32))) (upd (Rd_nodes (Rd_set_level s0 ((Rd_level s0) + (1 : Int32)))) (Rd_level (Rd_set_level s0 ((Rd_level s0) + (1 : Int32)))).toNatClampNeg o1.1))) < 0 ∨ 5 ≤ (Rd_level (Rd_set_nodes (Rd_set_level s0 ((Rd_level s0) + (1 : Int32))) (upd (Rd_nodes (Rd_set_level s0 ((Rd_level s0) + (1 : Int32)))) (Rd_level (Rd_set_level s0 ((Rd_level s0) + (1 : Int32)))).toNatClampNeg o1.1))).toNatClampNeg)
  · exact no_s (it_t h hc4)
  have h := it_f h hc4
  refine va_iast hx hb hK hI.1 hI.2 hS 2 0 rfl rfl hc4 d_Rd_enter_49 (fun H locs hP hD hS => ?_)
  have hI : Iw D A (w_Rd g a0 (tw (a1 0) (sr 0)) (Rd_set_ends (Rd_set_nodes (Rd_set_level s0 ((Rd_level s0) + (1 : Int32))) (upd (Rd_nodes (Rd_set_level s0 ((Rd_level s0) + (1 : Int32)))) (Rd_level (Rd_set_level s0 ((Rd_level s0) + (1 : Int32)))).toNatClampNeg o1.1)) (upd (Rd_ends (Rd_set_nodes (Rd_set_level s0 ((Rd_level s0) + (1 : Int32))) (upd (Rd_nodes (Rd_set_level s0 ((Rd_level s0) + (1 : Int32)))) (Rd_level (Rd_set_level s0 ((Rd_level s0) + (1 : Int32)))).toNatClampNeg o1.1))) (Rd_level (Rd_set_nodes (Rd_set_level s0 ((Rd_level s0) + (1 : Int32))) (upd (Rd_nodes (Rd_set_level s0 ((Rd_level s0) + (1 : Int32)))) (Rd_level (Rd_set_level s0 ((Rd_level s0) + (1 : Int32)))).toNatClampNeg o1.1))).toNatClampNeg x2)) ++ (w_Tr g a1 o1.2 ++ (rest))) H := ⟨hP, hD⟩
  refine lv_aload_n hx hb d_Rd_enter_50 rfl (lv_at hl 0 rfl) ?_
  refine va_get (D := D) (ci := 5) (v := .ref (a0 3)) (C := R_Rd) (T := T_Rd) (N := 11) hx hb ht in_Rd hown hK hI.1 0 rfl rfl 3 (by decide) (ht _ m_161) (fun _ h9 => h9) rfl d_Rd_enter_51 ?_
  refine lv_aload_n hx hb d_Rd_enter_54 rfl (lv_at hl 0 rfl) ?_
  refine va_get (D := D) (ci := 5) (v := .int (Rd_level (Rd_set_ends (Rd_set_nodes (Rd_set_level s0 ((Rd_level s0) + (1 : Int32))) (upd (Rd_nodes (Rd_set_level s0 ((Rd_level s0) + (1 : Int32)))) (Rd_level (Rd_set_level s0 ((Rd_level s0) + (1 : Int32)))).toNatClampNeg o1.1)) (upd (Rd_ends (Rd_set_nodes (Rd_set_level s0 ((Rd_level s0) + (1 : Int32))) (upd (Rd_nodes (Rd_set_level s0 ((Rd_level s0) + (1 : Int32)))) (Rd_level (Rd_set_level s0 ((Rd_level s0) + (1 : Int32)))).toNatClampNeg o1.1))) (Rd_level (Rd_set_nodes (Rd_set_level s0 ((Rd_level s0) + (1 : Int32))) (upd (Rd_nodes (Rd_set_level s0 ((Rd_level s0) + (1 : Int32)))) (Rd_level (Rd_set_level s0 ((Rd_level s0) + (1 : Int32)))).toNatClampNeg o1.1))).toNatClampNeg x2)))) (C := R_Rd) (T := T_Rd) (N := 11) hx hb ht in_Rd hown hK hI.1 0 rfl rfl 9 (by decide) (ht _ m_167) (fun _ h9 => h9) rfl d_Rd_enter_55 ?_
  refine lv_iload_n hx hb d_Rd_enter_58 rfl (lv_at hl 3 rfl) ?_
  by_cases hc5 : ((Rd_level (Rd_set_ends (Rd_set_nodes (Rd_set_level s0 ((Rd_level s0) + (1 : Int32))) (upd (Rd_nodes (Rd_set_level s0 ((Rd_level s0) + (1 : Int32)))) (Rd_level (Rd_set_level s0 ((Rd_level s0) + (1 : Int32)))).toNatClampNeg o1.1)) (upd (Rd_ends (Rd_set_nodes (Rd_set_level s0 ((Rd_level s0) + (1 : Int32))) (upd (Rd_nodes (Rd_set_level s0 ((Rd_level s0) + (1 : Int32)))) (Rd_level (Rd_set_level s0 ((Rd_level s0) + (1 : Int32)))).toNatClampNeg o1.1))) (Rd_level (Rd_set_nodes (Rd_set_level s0 ((Rd_level s0) + (1 : Int32))) (upd (Rd_nodes (Rd_set_level s0 ((Rd_level s0) + (1 : Int32)))) (Rd_level (Rd_set_level s0 ((Rd_level s0) + (1 : Int32)))).toNatClampNeg o1.1))).toNatClampNeg x2))) < 0 ∨ 5 ≤ (Rd_level (Rd_set_ends (Rd_set_nodes (Rd_set_level s0 ((Rd_level s0) + (1 : Int32))) (upd (Rd_nodes (Rd_set_level s0 ((Rd_level s0) + (1 : Int32)))) (Rd_level (Rd_set_level s0 ((Rd_level s0) + (1 : Int32)))).toNatClampNeg o1.1)) (upd (Rd_ends (Rd_set_nodes (Rd_set_level s0 ((Rd_level s0) + (1 : Int32))) (upd (Rd_nodes (Rd_set_level s0 ((Rd_level s0) + (1 : Int32)))) (Rd_level (Rd_set_level s0 ((Rd_level s0) + (1 : Int32)))).toNatClampNeg o1.1))) (Rd_level (Rd_set_nodes (Rd_set_level s0 ((Rd_level s0) + (1 : Int32))) (upd (Rd_nodes (Rd_set_level s0 ((Rd_level s0) + (1 : Int32)))) (Rd_level (Rd_set_level s0 ((Rd_level s0) + (1 : Int32)))).toNatClampNeg o1.1))).toNatClampNeg x2))).toNatClampNeg)
  · exact no_s (it_t h hc5)
  have h := it_f h hc5
  refine va_zast hx hb hK hI.1 hI.2 hS 3 1 rfl rfl hc5 d_Rd_enter_59 (fun H locs hP hD hS => ?_)
  have hI : Iw D A (w_Rd g a0 (tw (a1 0) (sr 0)) (Rd_set_isOpen (Rd_set_ends (Rd_set_nodes (Rd_set_level s0 ((Rd_level s0) + (1 : Int32))) (upd (Rd_nodes (Rd_set_level s0 ((Rd_level s0) + (1 : Int32)))) (Rd_level (Rd_set_level s0 ((Rd_level s0) + (1 : Int32)))).toNatClampNeg o1.1)) (upd (Rd_ends (Rd_set_nodes (Rd_set_level s0 ((Rd_level s0) + (1 : Int32))) (upd (Rd_nodes (Rd_set_level s0 ((Rd_level s0) + (1 : Int32)))) (Rd_level (Rd_set_level s0 ((Rd_level s0) + (1 : Int32)))).toNatClampNeg o1.1))) (Rd_level (Rd_set_nodes (Rd_set_level s0 ((Rd_level s0) + (1 : Int32))) (upd (Rd_nodes (Rd_set_level s0 ((Rd_level s0) + (1 : Int32)))) (Rd_level (Rd_set_level s0 ((Rd_level s0) + (1 : Int32)))).toNatClampNeg o1.1))).toNatClampNeg x2)) (upd (Rd_isOpen (Rd_set_ends (Rd_set_nodes (Rd_set_level s0 ((Rd_level s0) + (1 : Int32))) (upd (Rd_nodes (Rd_set_level s0 ((Rd_level s0) + (1 : Int32)))) (Rd_level (Rd_set_level s0 ((Rd_level s0) + (1 : Int32)))).toNatClampNeg o1.1)) (upd (Rd_ends (Rd_set_nodes (Rd_set_level s0 ((Rd_level s0) + (1 : Int32))) (upd (Rd_nodes (Rd_set_level s0 ((Rd_level s0) + (1 : Int32)))) (Rd_level (Rd_set_level s0 ((Rd_level s0) + (1 : Int32)))).toNatClampNeg o1.1))) (Rd_level (Rd_set_nodes (Rd_set_level s0 ((Rd_level s0) + (1 : Int32))) (upd (Rd_nodes (Rd_set_level s0 ((Rd_level s0) + (1 : Int32)))) (Rd_level (Rd_set_level s0 ((Rd_level s0) + (1 : Int32)))).toNatClampNeg o1.1))).toNatClampNeg x2))) (Rd_level (Rd_set_ends (Rd_set_nodes (Rd_set_level s0 ((Rd_level s0) + (1 : Int32))) (upd (Rd_nodes (Rd_set_level s0 ((Rd_level s0) + (1 : Int32)))) (Rd_level (Rd_set_level s0 ((Rd_level s0) + (1 : Int32)))).toNatClampNeg o1.1)) (upd (Rd_ends (Rd_set_nodes (Rd_set_level s0 ((Rd_level s0) + (1 : Int32))) (upd (Rd_nodes (Rd_set_level s0 ((Rd_level s0) + (1 : Int32)))) (Rd_level (Rd_set_level s0 ((Rd_level s0) + (1 : Int32)))).toNatClampNeg o1.1))) (Rd_level (Rd_set_nodes (Rd_set_level s0 ((Rd_level s0) + (1 : Int32))) (upd (Rd_nodes (Rd_set_level s0 ((Rd_level s0) + (1 : Int32)))) (Rd_level (Rd_set_level s0 ((Rd_level s0) + (1 : Int32)))).toNatClampNeg o1.1))).toNatClampNeg x2))).toNatClampNeg (vp_nar .boolean x3))) ++ (w_Tr g a1 o1.2 ++ (rest))) H := ⟨hP, hD⟩
  refine lv_aload_n hx hb d_Rd_enter_60 rfl (lv_at hl 0 rfl) ?_
  refine va_get (D := D) (ci := 5) (v := .ref (a0 4)) (C := R_Rd) (T := T_Rd) (N := 11) hx hb ht in_Rd hown hK hI.1 0 rfl rfl 4 (by decide) (ht _ m_162) (fun _ h9 => h9) rfl d_Rd_enter_61 ?_
  refine lv_aload_n hx hb d_Rd_enter_64 rfl (lv_at hl 0 rfl) ?_
  refine va_get (D := D) (ci := 5) (v := .int (Rd_level (Rd_set_isOpen (Rd_set_ends (Rd_set_nodes (Rd_set_level s0 ((Rd_level s0) + (1 : Int32))) (upd (Rd_nodes (Rd_set_level s0 ((Rd_level s0) + (1 : Int32)))) (Rd_level (Rd_set_level s0 ((Rd_level s0) + (1 : Int32)))).toNatClampNeg o1.1)) (upd (Rd_ends (Rd_set_nodes (Rd_set_level s0 ((Rd_level s0) + (1 : Int32))) (upd (Rd_nodes (Rd_set_level s0 ((Rd_level s0) + (1 : Int32)))) (Rd_level (Rd_set_level s0 ((Rd_level s0) + (1 : Int32)))).toNatClampNeg o1.1))) (Rd_level (Rd_set_nodes (Rd_set_level s0 ((Rd_level s0) + (1 : Int32))) (upd (Rd_nodes (Rd_set_level s0 ((Rd_level s0) + (1 : Int32)))) (Rd_level (Rd_set_level s0 ((Rd_level s0) + (1 : Int32)))).toNatClampNeg o1.1))).toNatClampNeg x2)) (upd (Rd_isOpen (Rd_set_ends (Rd_set_nodes (Rd_set_level s0 ((Rd_level s0) + (1 : Int32))) (upd (Rd_nodes (Rd_set_level s0 ((Rd_level s0) + (1 : Int32)))) (Rd_level (Rd_set_level s0 ((Rd_level s0) + (1 : Int32)))).toNatClampNeg o1.1)) (upd (Rd_ends (Rd_set_nodes (Rd_set_level s0 ((Rd_level s0) + (1 : Int32))) (upd (Rd_nodes (Rd_set_level s0 ((Rd_level s0) + (1 : Int32)))) (Rd_level (Rd_set_level s0 ((Rd_level s0) + (1 : Int32)))).toNatClampNeg o1.1))) (Rd_level (Rd_set_nodes (Rd_set_level s0 ((Rd_level s0) + (1 : Int32))) (upd (Rd_nodes (Rd_set_level s0 ((Rd_level s0) + (1 : Int32)))) (Rd_level (Rd_set_level s0 ((Rd_level s0) + (1 : Int32)))).toNatClampNeg o1.1))).toNatClampNeg x2))) (Rd_level (Rd_set_ends (Rd_set_nodes (Rd_set_level s0 ((Rd_level s0) + (1 : Int32))) (upd (Rd_nodes (Rd_set_level s0 ((Rd_level s0) + (1 : Int32)))) (Rd_level (Rd_set_level s0 ((Rd_level s0) + (1 : Int32)))).toNatClampNeg o1.1)) (upd (Rd_ends (Rd_set_nodes (Rd_set_level s0 ((Rd_level s0) + (1 : Int32))) (upd (Rd_nodes (Rd_set_level s0 ((Rd_level s0) + (1 : Int32)))) (Rd_level (Rd_set_level s0 ((Rd_level s0) + (1 : Int32)))).toNatClampNeg o1.1))) (Rd_level (Rd_set_nodes (Rd_set_level s0 ((Rd_level s0) + (1 : Int32))) (upd (Rd_nodes (Rd_set_level s0 ((Rd_level s0) + (1 : Int32)))) (Rd_level (Rd_set_level s0 ((Rd_level s0) + (1 : Int32)))).toNatClampNeg o1.1))).toNatClampNeg x2))).toNatClampNeg (vp_nar .boolean x3))))) (C := R_Rd) (T := T_Rd) (N := 11) hx hb ht in_Rd hown hK hI.1 0 rfl rfl 9 (by decide) (ht _ m_167) (fun _ h9 => h9) rfl d_Rd_enter_65 ?_
  refine lv_iconst (v := 0) hx hb d_Rd_enter_68 (by decide) ?_
  by_cases hc6 : ((Rd_level (Rd_set_isOpen (Rd_set_ends (Rd_set_nodes (Rd_set_level s0 ((Rd_level s0) + (1 : Int32))) (upd (Rd_nodes (Rd_set_level s0 ((Rd_level s0) + (1 : Int32)))) (Rd_level (Rd_set_level s0 ((Rd_level s0) + (1 : Int32)))).toNatClampNeg o1.1)) (upd (Rd_ends (Rd_set_nodes (Rd_set_level s0 ((Rd_level s0) + (1 : Int32))) (upd (Rd_nodes (Rd_set_level s0 ((Rd_level s0) + (1 : Int32)))) (Rd_level (Rd_set_level s0 ((Rd_level s0) + (1 : Int32)))).toNatClampNeg o1.1))) (Rd_level (Rd_set_nodes (Rd_set_level s0 ((Rd_level s0) + (1 : Int32))) (upd (Rd_nodes (Rd_set_level s0 ((Rd_level s0) + (1 : Int32)))) (Rd_level (Rd_set_level s0 ((Rd_level s0) + (1 : Int32)))).toNatClampNeg o1.1))).toNatClampNeg x2)) (upd (Rd_isOpen (Rd_set_ends (Rd_set_nodes (Rd_set_level s0 ((Rd_level s0) + (1 : Int32))) (upd (Rd_nodes (Rd_set_level s0 ((Rd_level s0) + (1 : Int32)))) (Rd_level (Rd_set_level s0 ((Rd_level s0) + (1 : Int32)))).toNatClampNeg o1.1)) (upd (Rd_ends (Rd_set_nodes (Rd_set_level s0 ((Rd_level s0) + (1 : Int32))) (upd (Rd_nodes (Rd_set_level s0 ((Rd_level s0) + (1 : Int32)))) (Rd_level (Rd_set_level s0 ((Rd_level s0) + (1 : Int32)))).toNatClampNeg o1.1))) (Rd_level (Rd_set_nodes (Rd_set_level s0 ((Rd_level s0) + (1 : Int32))) (upd (Rd_nodes (Rd_set_level s0 ((Rd_level s0) + (1 : Int32)))) (Rd_level (Rd_set_level s0 ((Rd_level s0) + (1 : Int32)))).toNatClampNeg o1.1))).toNatClampNeg x2))) (Rd_level (Rd_set_ends (Rd_set_nodes (Rd_set_level s0 ((Rd_level s0) + (1 : Int32))) (upd (Rd_nodes (Rd_set_level s0 ((Rd_level s0) + (1 : Int32)))) (Rd_level (Rd_set_level s0 ((Rd_level s0) + (1 : Int32)))).toNatClampNeg o1.1)) (upd (Rd_ends (Rd_set_nodes (Rd_set_level s0 ((Rd_level s0) + (1 : Int32))) (upd (Rd_nodes (Rd_set_level s0 ((Rd_level s0) + (1 : Int32)))) (Rd_level (Rd_set_level s0 ((Rd_level s0) + (1 : Int32)))).toNatClampNeg o1.1))) (Rd_level (Rd_set_nodes (Rd_set_level s0 ((Rd_level s0) + (1 : Int32))) (upd (Rd_nodes (Rd_set_level s0 ((Rd_level s0) + (1 : Int32)))) (Rd_level (Rd_set_level s0 ((Rd_level s0) + (1 : Int32)))).toNatClampNeg o1.1))).toNatClampNeg x2))).toNatClampNeg (vp_nar .boolean x3)))) < 0 ∨ 5 ≤ (Rd_level (Rd_set_isOpen (Rd_set_ends (Rd_set_nodes (Rd_set_level s0 ((Rd_level s0) + (1 : Int32))) (upd (Rd_nodes (Rd_set_level s0 ((Rd_level s0) + (1 : Int32)))) (Rd_level (Rd_set_level s0 ((Rd_level s0) + (1 : Int32)))).toNatClampNeg o1.1)) (upd (Rd_ends (Rd_set_nodes (Rd_set_level s0 ((Rd_level s0) + (1 : Int32))) (upd (Rd_nodes (Rd_set_level s0 ((Rd_level s0) + (1 : Int32)))) (Rd_level (Rd_set_level s0 ((Rd_level s0) + (1 : Int32)))).toNatClampNeg o1.1))) (Rd_level (Rd_set_nodes (Rd_set_level s0 ((Rd_level s0) + (1 : Int32))) (upd (Rd_nodes (Rd_set_level s0 ((Rd_level s0) + (1 : Int32)))) (Rd_level (Rd_set_level s0 ((Rd_level s0) + (1 : Int32)))).toNatClampNeg o1.1))).toNatClampNeg x2)) (upd (Rd_isOpen (Rd_set_ends (Rd_set_nodes (Rd_set_level s0 ((Rd_level s0) + (1 : Int32))) (upd (Rd_nodes (Rd_set_level s0 ((Rd_level s0) + (1 : Int32)))) (Rd_level (Rd_set_level s0 ((Rd_level s0) + (1 : Int32)))).toNatClampNeg o1.1)) (upd (Rd_ends (Rd_set_nodes (Rd_set_level s0 ((Rd_level s0) + (1 : Int32))) (upd (Rd_nodes (Rd_set_level s0 ((Rd_level s0) + (1 : Int32)))) (Rd_level (Rd_set_level s0 ((Rd_level s0) + (1 : Int32)))).toNatClampNeg o1.1))) (Rd_level (Rd_set_nodes (Rd_set_level s0 ((Rd_level s0) + (1 : Int32))) (upd (Rd_nodes (Rd_set_level s0 ((Rd_level s0) + (1 : Int32)))) (Rd_level (Rd_set_level s0 ((Rd_level s0) + (1 : Int32)))).toNatClampNeg o1.1))).toNatClampNeg x2))) (Rd_level (Rd_set_ends (Rd_set_nodes (Rd_set_level s0 ((Rd_level s0) + (1 : Int32))) (upd (Rd_nodes (Rd_set_level s0 ((Rd_level s0) + (1 : Int32)))) (Rd_level (Rd_set_level s0 ((Rd_level s0) + (1 : Int32)))).toNatClampNeg o1.1)) (upd (Rd_ends (Rd_set_nodes (Rd_set_level s0 ((Rd_level s0) + (1 : Int32))) (upd (Rd_nodes (Rd_set_level s0 ((Rd_level s0) + (1 : Int32)))) (Rd_level (Rd_set_level s0 ((Rd_level s0) + (1 : Int32)))).toNatClampNeg o1.1))) (Rd_level (Rd_set_nodes (Rd_set_level s0 ((Rd_level s0) + (1 : Int32))) (upd (Rd_nodes (Rd_set_level s0 ((Rd_level s0) + (1 : Int32)))) (Rd_level (Rd_set_level s0 ((Rd_level s0) + (1 : Int32)))).toNatClampNeg o1.1))).toNatClampNeg x2))).toNatClampNeg (vp_nar .boolean x3)))).toNatClampNeg)
  · exact no_s (it_t h hc6)
  have h := it_f h hc6
  refine va_iast hx hb hK hI.1 hI.2 hS 4 0 rfl rfl hc6 d_Rd_enter_69 (fun H locs hP hD hS => ?_)
  have hI : Iw D A (w_Rd g a0 (tw (a1 0) (sr 0)) (Rd_set_counts (Rd_set_isOpen (Rd_set_ends (Rd_set_nodes (Rd_set_level s0 ((Rd_level s0) + (1 : Int32))) (upd (Rd_nodes (Rd_set_level s0 ((Rd_level s0) + (1 : Int32)))) (Rd_level (Rd_set_level s0 ((Rd_level s0) + (1 : Int32)))).toNatClampNeg o1.1)) (upd (Rd_ends (Rd_set_nodes (Rd_set_level s0 ((Rd_level s0) + (1 : Int32))) (upd (Rd_nodes (Rd_set_level s0 ((Rd_level s0) + (1 : Int32)))) (Rd_level (Rd_set_level s0 ((Rd_level s0) + (1 : Int32)))).toNatClampNeg o1.1))) (Rd_level (Rd_set_nodes (Rd_set_level s0 ((Rd_level s0) + (1 : Int32))) (upd (Rd_nodes (Rd_set_level s0 ((Rd_level s0) + (1 : Int32)))) (Rd_level (Rd_set_level s0 ((Rd_level s0) + (1 : Int32)))).toNatClampNeg o1.1))).toNatClampNeg x2)) (upd (Rd_isOpen (Rd_set_ends (Rd_set_nodes (Rd_set_level s0 ((Rd_level s0) + (1 : Int32))) (upd (Rd_nodes (Rd_set_level s0 ((Rd_level s0) + (1 : Int32)))) (Rd_level (Rd_set_level s0 ((Rd_level s0) + (1 : Int32)))).toNatClampNeg o1.1)) (upd (Rd_ends (Rd_set_nodes (Rd_set_level s0 ((Rd_level s0) + (1 : Int32))) (upd (Rd_nodes (Rd_set_level s0 ((Rd_level s0) + (1 : Int32)))) (Rd_level (Rd_set_level s0 ((Rd_level s0) + (1 : Int32)))).toNatClampNeg o1.1))) (Rd_level (Rd_set_nodes (Rd_set_level s0 ((Rd_level s0) + (1 : Int32))) (upd (Rd_nodes (Rd_set_level s0 ((Rd_level s0) + (1 : Int32)))) (Rd_level (Rd_set_level s0 ((Rd_level s0) + (1 : Int32)))).toNatClampNeg o1.1))).toNatClampNeg x2))) (Rd_level (Rd_set_ends (Rd_set_nodes (Rd_set_level s0 ((Rd_level s0) + (1 : Int32))) (upd (Rd_nodes (Rd_set_level s0 ((Rd_level s0) + (1 : Int32)))) (Rd_level (Rd_set_level s0 ((Rd_level s0) + (1 : Int32)))).toNatClampNeg o1.1)) (upd (Rd_ends (Rd_set_nodes (Rd_set_level s0 ((Rd_level s0) + (1 : Int32))) (upd (Rd_nodes (Rd_set_level s0 ((Rd_level s0) + (1 : Int32)))) (Rd_level (Rd_set_level s0 ((Rd_level s0) + (1 : Int32)))).toNatClampNeg o1.1))) (Rd_level (Rd_set_nodes (Rd_set_level s0 ((Rd_level s0) + (1 : Int32))) (upd (Rd_nodes (Rd_set_level s0 ((Rd_level s0) + (1 : Int32)))) (Rd_level (Rd_set_level s0 ((Rd_level s0) + (1 : Int32)))).toNatClampNeg o1.1))).toNatClampNeg x2))).toNatClampNeg (vp_nar .boolean x3))) (upd (Rd_counts (Rd_set_isOpen (Rd_set_ends (Rd_set_nodes (Rd_set_level s0 ((Rd_level s0) + (1 : Int32))) (upd (Rd_nodes (Rd_set_level s0 ((Rd_level s0) + (1 : Int32)))) (Rd_level (Rd_set_level s0 ((Rd_level s0) + (1 : Int32)))).toNatClampNeg o1.1)) (upd (Rd_ends (Rd_set_nodes (Rd_set_level s0 ((Rd_level s0) + (1 : Int32))) (upd (Rd_nodes (Rd_set_level s0 ((Rd_level s0) + (1 : Int32)))) (Rd_level (Rd_set_level s0 ((Rd_level s0) + (1 : Int32)))).toNatClampNeg o1.1))) (Rd_level (Rd_set_nodes (Rd_set_level s0 ((Rd_level s0) + (1 : Int32))) (upd (Rd_nodes (Rd_set_level s0 ((Rd_level s0) + (1 : Int32)))) (Rd_level (Rd_set_level s0 ((Rd_level s0) + (1 : Int32)))).toNatClampNeg o1.1))).toNatClampNeg x2)) (upd (Rd_isOpen (Rd_set_ends (Rd_set_nodes (Rd_set_level s0 ((Rd_level s0) + (1 : Int32))) (upd (Rd_nodes (Rd_set_level s0 ((Rd_level s0) + (1 : Int32)))) (Rd_level (Rd_set_level s0 ((Rd_level s0) + (1 : Int32)))).toNatClampNeg o1.1)) (upd (Rd_ends (Rd_set_nodes (Rd_set_level s0 ((Rd_level s0) + (1 : Int32))) (upd (Rd_nodes (Rd_set_level s0 ((Rd_level s0) + (1 : Int32)))) (Rd_level (Rd_set_level s0 ((Rd_level s0) + (1 : Int32)))).toNatClampNeg o1.1))) (Rd_level (Rd_set_nodes (Rd_set_level s0 ((Rd_level s0) + (1 : Int32))) (upd (Rd_nodes (Rd_set_level s0 ((Rd_level s0) + (1 : Int32)))) (Rd_level (Rd_set_level s0 ((Rd_level s0) + (1 : Int32)))).toNatClampNeg o1.1))).toNatClampNeg x2))) (Rd_level (Rd_set_ends (Rd_set_nodes (Rd_set_level s0 ((Rd_level s0) + (1 : Int32))) (upd (Rd_nodes (Rd_set_level s0 ((Rd_level s0) + (1 : Int32)))) (Rd_level (Rd_set_level s0 ((Rd_level s0) + (1 : Int32)))).toNatClampNeg o1.1)) (upd (Rd_ends (Rd_set_nodes (Rd_set_level s0 ((Rd_level s0) + (1 : Int32))) (upd (Rd_nodes (Rd_set_level s0 ((Rd_level s0) + (1 : Int32)))) (Rd_level (Rd_set_level s0 ((Rd_level s0) + (1 : Int32)))).toNatClampNeg o1.1))) (Rd_level (Rd_set_nodes (Rd_set_level s0 ((Rd_level s0) + (1 : Int32))) (upd (Rd_nodes (Rd_set_level s0 ((Rd_level s0) + (1 : Int32)))) (Rd_level (Rd_set_level s0 ((Rd_level s0) + (1 : Int32)))).toNatClampNeg o1.1))).toNatClampNeg x2))).toNatClampNeg (vp_nar .boolean x3)))) (Rd_level (Rd_set_isOpen (Rd_set_ends (Rd_set_nodes (Rd_set_level s0 ((Rd_level s0) + (1 : Int32))) (upd (Rd_nodes (Rd_set_level s0 ((Rd_level s0) + (1 : Int32)))) (Rd_level (Rd_set_level s0 ((Rd_level s0) + (1 : Int32)))).toNatClampNeg o1.1)) (upd (Rd_ends (Rd_set_nodes (Rd_set_level s0 ((Rd_level s0) + (1 : Int32))) (upd (Rd_nodes (Rd_set_level s0 ((Rd_level s0) + (1 : Int32)))) (Rd_level (Rd_set_level s0 ((Rd_level s0) + (1 : Int32)))).toNatClampNeg o1.1))) (Rd_level (Rd_set_nodes (Rd_set_level s0 ((Rd_level s0) + (1 : Int32))) (upd (Rd_nodes (Rd_set_level s0 ((Rd_level s0) + (1 : Int32)))) (Rd_level (Rd_set_level s0 ((Rd_level s0) + (1 : Int32)))).toNatClampNeg o1.1))).toNatClampNeg x2)) (upd (Rd_isOpen (Rd_set_ends (Rd_set_nodes (Rd_set_level s0 ((Rd_level s0) + (1 : Int32))) (upd (Rd_nodes (Rd_set_level s0 ((Rd_level s0) + (1 : Int32)))) (Rd_level (Rd_set_level s0 ((Rd_level s0) + (1 : Int32)))).toNatClampNeg o1.1)) (upd (Rd_ends (Rd_set_nodes (Rd_set_level s0 ((Rd_level s0) + (1 : Int32))) (upd (Rd_nodes (Rd_set_level s0 ((Rd_level s0) + (1 : Int32)))) (Rd_level (Rd_set_level s0 ((Rd_level s0) + (1 : Int32)))).toNatClampNeg o1.1))) (Rd_level (Rd_set_nodes (Rd_set_level s0 ((Rd_level s0) + (1 : Int32))) (upd (Rd_nodes (Rd_set_level s0 ((Rd_level s0) + (1 : Int32)))) (Rd_level (Rd_set_level s0 ((Rd_level s0) + (1 : Int32)))).toNatClampNeg o1.1))).toNatClampNeg x2))) (Rd_level (Rd_set_ends (Rd_set_nodes (Rd_set_level s0 ((Rd_level s0) + (1 : Int32))) (upd (Rd_nodes (Rd_set_level s0 ((Rd_level s0) + (1 : Int32)))) (Rd_level (Rd_set_level s0 ((Rd_level s0) + (1 : Int32)))).toNatClampNeg o1.1)) (upd (Rd_ends (Rd_set_nodes (Rd_set_level s0 ((Rd_level s0) + (1 : Int32))) (upd (Rd_nodes (Rd_set_level s0 ((Rd_level s0) + (1 : Int32)))) (Rd_level (Rd_set_level s0 ((Rd_level s0) + (1 : Int32)))).toNatClampNeg o1.1))) (Rd_level (Rd_set_nodes (Rd_set_level s0 ((Rd_level s0) + (1 : Int32))) (upd (Rd_nodes (Rd_set_level s0 ((Rd_level s0) + (1 : Int32)))) (Rd_level (Rd_set_level s0 ((Rd_level s0) + (1 : Int32)))).toNatClampNeg o1.1))).toNatClampNeg x2))).toNatClampNeg (vp_nar .boolean x3)))).toNatClampNeg (0 : Int32))) ++ (w_Tr g a1 o1.2 ++ (rest))) H := ⟨hP, hD⟩
  refine lv_aload_n hx hb d_Rd_enter_70 rfl (lv_at hl 0 rfl) ?_
  refine va_get (D := D) (ci := 5) (v := .ref (a0 5)) (C := R_Rd) (T := T_Rd) (N := 11) hx hb ht in_Rd hown hK hI.1 0 rfl rfl 5 (by decide) (ht _ m_163) (fun _ h9 => h9) rfl d_Rd_enter_71 ?_
  refine lv_aload_n hx hb d_Rd_enter_74 rfl (lv_at hl 0 rfl) ?_
  refine va_get (D := D) (ci := 5) (v := .int (Rd_level (Rd_set_counts (Rd_set_isOpen (Rd_set_ends (Rd_set_nodes (Rd_set_level s0 ((Rd_level s0) + (1 : Int32))) (upd (Rd_nodes (Rd_set_level s0 ((Rd_level s0) + (1 : Int32)))) (Rd_level (Rd_set_level s0 ((Rd_level s0) + (1 : Int32)))).toNatClampNeg o1.1)) (upd (Rd_ends (Rd_set_nodes (Rd_set_level s0 ((Rd_level s0) + (1 : Int32))) (upd (Rd_nodes (Rd_set_level s0 ((Rd_level s0) + (1 : Int32)))) (Rd_level (Rd_set_level s0 ((Rd_level s0) + (1 : Int32)))).toNatClampNeg o1.1))) (Rd_level (Rd_set_nodes (Rd_set_level s0 ((Rd_level s0) + (1 : Int32))) (upd (Rd_nodes (Rd_set_level s0 ((Rd_level s0) + (1 : Int32)))) (Rd_level (Rd_set_level s0 ((Rd_level s0) + (1 : Int32)))).toNatClampNeg o1.1))).toNatClampNeg x2)) (upd (Rd_isOpen (Rd_set_ends (Rd_set_nodes (Rd_set_level s0 ((Rd_level s0) + (1 : Int32))) (upd (Rd_nodes (Rd_set_level s0 ((Rd_level s0) + (1 : Int32)))) (Rd_level (Rd_set_level s0 ((Rd_level s0) + (1 : Int32)))).toNatClampNeg o1.1)) (upd (Rd_ends (Rd_set_nodes (Rd_set_level s0 ((Rd_level s0) + (1 : Int32))) (upd (Rd_nodes (Rd_set_level s0 ((Rd_level s0) + (1 : Int32)))) (Rd_level (Rd_set_level s0 ((Rd_level s0) + (1 : Int32)))).toNatClampNeg o1.1))) (Rd_level (Rd_set_nodes (Rd_set_level s0 ((Rd_level s0) + (1 : Int32))) (upd (Rd_nodes (Rd_set_level s0 ((Rd_level s0) + (1 : Int32)))) (Rd_level (Rd_set_level s0 ((Rd_level s0) + (1 : Int32)))).toNatClampNeg o1.1))).toNatClampNeg x2))) (Rd_level (Rd_set_ends (Rd_set_nodes (Rd_set_level s0 ((Rd_level s0) + (1 : Int32))) (upd (Rd_nodes (Rd_set_level s0 ((Rd_level s0) + (1 : Int32)))) (Rd_level (Rd_set_level s0 ((Rd_level s0) + (1 : Int32)))).toNatClampNeg o1.1)) (upd (Rd_ends (Rd_set_nodes (Rd_set_level s0 ((Rd_level s0) + (1 : Int32))) (upd (Rd_nodes (Rd_set_level s0 ((Rd_level s0) + (1 : Int32)))) (Rd_level (Rd_set_level s0 ((Rd_level s0) + (1 : Int32)))).toNatClampNeg o1.1))) (Rd_level (Rd_set_nodes (Rd_set_level s0 ((Rd_level s0) + (1 : Int32))) (upd (Rd_nodes (Rd_set_level s0 ((Rd_level s0) + (1 : Int32)))) (Rd_level (Rd_set_level s0 ((Rd_level s0) + (1 : Int32)))).toNatClampNeg o1.1))).toNatClampNeg x2))).toNatClampNeg (vp_nar .boolean x3))) (upd (Rd_counts (Rd_set_isOpen (Rd_set_ends (Rd_set_nodes (Rd_set_level s0 ((Rd_level s0) + (1 : Int32))) (upd (Rd_nodes (Rd_set_level s0 ((Rd_level s0) + (1 : Int32)))) (Rd_level (Rd_set_level s0 ((Rd_level s0) + (1 : Int32)))).toNatClampNeg o1.1)) (upd (Rd_ends (Rd_set_nodes (Rd_set_level s0 ((Rd_level s0) + (1 : Int32))) (upd (Rd_nodes (Rd_set_level s0 ((Rd_level s0) + (1 : Int32)))) (Rd_level (Rd_set_level s0 ((Rd_level s0) + (1 : Int32)))).toNatClampNeg o1.1))) (Rd_level (Rd_set_nodes (Rd_set_level s0 ((Rd_level s0) + (1 : Int32))) (upd (Rd_nodes (Rd_set_level s0 ((Rd_level s0) + (1 : Int32)))) (Rd_level (Rd_set_level s0 ((Rd_level s0) + (1 : Int32)))).toNatClampNeg o1.1))).toNatClampNeg x2)) (upd (Rd_isOpen (Rd_set_ends (Rd_set_nodes (Rd_set_level s0 ((Rd_level s0) + (1 : Int32))) (upd (Rd_nodes (Rd_set_level s0 ((Rd_level s0) + (1 : Int32)))) (Rd_level (Rd_set_level s0 ((Rd_level s0) + (1 : Int32)))).toNatClampNeg o1.1)) (upd (Rd_ends (Rd_set_nodes (Rd_set_level s0 ((Rd_level s0) + (1 : Int32))) (upd (Rd_nodes (Rd_set_level s0 ((Rd_level s0) + (1 : Int32)))) (Rd_level (Rd_set_level s0 ((Rd_level s0) + (1 : Int32)))).toNatClampNeg o1.1))) (Rd_level (Rd_set_nodes (Rd_set_level s0 ((Rd_level s0) + (1 : Int32))) (upd (Rd_nodes (Rd_set_level s0 ((Rd_level s0) + (1 : Int32)))) (Rd_level (Rd_set_level s0 ((Rd_level s0) + (1 : Int32)))).toNatClampNeg o1.1))).toNatClampNeg x2))) (Rd_level (Rd_set_ends (Rd_set_nodes (Rd_set_level s0 ((Rd_level s0) + (1 : Int32))) (upd (Rd_nodes (Rd_set_level s0 ((Rd_level s0) + (1 : Int32)))) (Rd_level (Rd_set_level s0 ((Rd_level s0) + (1 : Int32)))).toNatClampNeg o1.1)) (upd (Rd_ends (Rd_set_nodes (Rd_set_level s0 ((Rd_level s0) + (1 : Int32))) (upd (Rd_nodes (Rd_set_level s0 ((Rd_level s0) + (1 : Int32)))) (Rd_level (Rd_set_level s0 ((Rd_level s0) + (1 : Int32)))).toNatClampNeg o1.1))) (Rd_level (Rd_set_nodes (Rd_set_level s0 ((Rd_level s0) + (1 : Int32))) (upd (Rd_nodes (Rd_set_level s0 ((Rd_level s0) + (1 : Int32)))) (Rd_level (Rd_set_level s0 ((Rd_level s0) + (1 : Int32)))).toNatClampNeg o1.1))).toNatClampNeg x2))).toNatClampNeg (vp_nar .boolean x3)))) (Rd_level (Rd_set_isOpen (Rd_set_ends (Rd_set_nodes (Rd_set_level s0 ((Rd_level s0) + (1 : Int32))) (upd (Rd_nodes (Rd_set_level s0 ((Rd_level s0) + (1 : Int32)))) (Rd_level (Rd_set_level s0 ((Rd_level s0) + (1 : Int32)))).toNatClampNeg o1.1)) (upd (Rd_ends (Rd_set_nodes (Rd_set_level s0 ((Rd_level s0) + (1 : Int32))) (upd (Rd_nodes (Rd_set_level s0 ((Rd_level s0) + (1 : Int32)))) (Rd_level (Rd_set_level s0 ((Rd_level s0) + (1 : Int32)))).toNatClampNeg o1.1))) (Rd_level (Rd_set_nodes (Rd_set_level s0 ((Rd_level s0) + (1 : Int32))) (upd (Rd_nodes (Rd_set_level s0 ((Rd_level s0) + (1 : Int32)))) (Rd_level (Rd_set_level s0 ((Rd_level s0) + (1 : Int32)))).toNatClampNeg o1.1))).toNatClampNeg x2)) (upd (Rd_isOpen (Rd_set_ends (Rd_set_nodes (Rd_set_level s0 ((Rd_level s0) + (1 : Int32))) (upd (Rd_nodes (Rd_set_level s0 ((Rd_level s0) + (1 : Int32)))) (Rd_level (Rd_set_level s0 ((Rd_level s0) + (1 : Int32)))).toNatClampNeg o1.1)) (upd (Rd_ends (Rd_set_nodes (Rd_set_level s0 ((Rd_level s0) + (1 : Int32))) (upd (Rd_nodes (Rd_set_level s0 ((Rd_level s0) + (1 : Int32)))) (Rd_level (Rd_set_level s0 ((Rd_level s0) + (1 : Int32)))).toNatClampNeg o1.1))) (Rd_level (Rd_set_nodes (Rd_set_level s0 ((Rd_level s0) + (1 : Int32))) (upd (Rd_nodes (Rd_set_level s0 ((Rd_level s0) + (1 : Int32)))) (Rd_level (Rd_set_level s0 ((Rd_level s0) + (1 : Int32)))).toNatClampNeg o1.1))).toNatClampNeg x2))) (Rd_level (Rd_set_ends (Rd_set_nodes (Rd_set_level s0 ((Rd_level s0) + (1 : Int32))) (upd (Rd_nodes (Rd_set_level s0 ((Rd_level s0) + (1 : Int32)))) (Rd_level (Rd_set_level s0 ((Rd_level s0) + (1 : Int32)))).toNatClampNeg o1.1)) (upd (Rd_ends (Rd_set_nodes (Rd_set_level s0 ((Rd_level s0) + (1 : Int32))) (upd (Rd_nodes (Rd_set_level s0 ((Rd_level s0) + (1 : Int32)))) (Rd_level (Rd_set_level s0 ((Rd_level s0) + (1 : Int32)))).toNatClampNeg o1.1))) (Rd_level (Rd_set_nodes (Rd_set_level s0 ((Rd_level s0) + (1 : Int32))) (upd (Rd_nodes (Rd_set_level s0 ((Rd_level s0) + (1 : Int32)))) (Rd_level (Rd_set_level s0 ((Rd_level s0) + (1 : Int32)))).toNatClampNeg o1.1))).toNatClampNeg x2))).toNatClampNeg (vp_nar .boolean x3)))).toNatClampNeg (0 : Int32))))) (C := R_Rd) (T := T_Rd) (N := 11) hx hb ht in_Rd hown hK hI.1 0 rfl rfl 9 (by decide) (ht _ m_167) (fun _ h9 => h9) rfl d_Rd_enter_75 ?_
  refine lv_iconst (v := 0) hx hb d_Rd_enter_78 (by decide) ?_
  by_cases hc7 : ((Rd_level (Rd_set_counts (Rd_set_isOpen (Rd_set_ends (Rd_set_nodes (Rd_set_level s0 ((Rd_level s0) + (1 : Int32))) (upd (Rd_nodes (Rd_set_level s0 ((Rd_level s0) + (1 : Int32)))) (Rd_level (Rd_set_level s0 ((Rd_level s0) + (1 : Int32)))).toNatClampNeg o1.1)) (upd (Rd_ends (Rd_set_nodes (Rd_set_level s0 ((Rd_level s0) + (1 : Int32))) (upd (Rd_nodes (Rd_set_level s0 ((Rd_level s0) + (1 : Int32)))) (Rd_level (Rd_set_level s0 ((Rd_level s0) + (1 : Int32)))).toNatClampNeg o1.1))) (Rd_level (Rd_set_nodes (Rd_set_level s0 ((Rd_level s0) + (1 : Int32))) (upd (Rd_nodes (Rd_set_level s0 ((Rd_level s0) + (1 : Int32)))) (Rd_level (Rd_set_level s0 ((Rd_level s0) + (1 : Int32)))).toNatClampNeg o1.1))).toNatClampNeg x2)) (upd (Rd_isOpen (Rd_set_ends (Rd_set_nodes (Rd_set_level s0 ((Rd_level s0) + (1 : Int32))) (upd (Rd_nodes (Rd_set_level s0 ((Rd_level s0) + (1 : Int32)))) (Rd_level (Rd_set_level s0 ((Rd_level s0) + (1 : Int32)))).toNatClampNeg o1.1)) (upd (Rd_ends (Rd_set_nodes (Rd_set_level s0 ((Rd_level s0) + (1 : Int32))) (upd (Rd_nodes (Rd_set_level s0 ((Rd_level s0) + (1 : Int32)))) (Rd_level (Rd_set_level s0 ((Rd_level s0) + (1 : Int32)))).toNatClampNeg o1.1))) (Rd_level (Rd_set_nodes (Rd_set_level s0 ((Rd_level s0) + (1 : Int32))) (upd (Rd_nodes (Rd_set_level s0 ((Rd_level s0) + (1 : Int32)))) (Rd_level (Rd_set_level s0 ((Rd_level s0) + (1 : Int32)))).toNatClampNeg o1.1))).toNatClampNeg x2))) (Rd_level (Rd_set_ends (Rd_set_nodes (Rd_set_level s0 ((Rd_level s0) + (1 : Int32))) (upd (Rd_nodes (Rd_set_level s0 ((Rd_level s0) + (1 : Int32)))) (Rd_level (Rd_set_level s0 ((Rd_level s0) + (1 : Int32)))).toNatClampNeg o1.1)) (upd (Rd_ends (Rd_set_nodes (Rd_set_level s0 ((Rd_level s0) + (1 : Int32))) (upd (Rd_nodes (Rd_set_level s0 ((Rd_level s0) + (1 : Int32)))) (Rd_level (Rd_set_level s0 ((Rd_level s0) + (1 : Int32)))).toNatClampNeg o1.1))) (Rd_level (Rd_set_nodes (Rd_set_level s0 ((Rd_level s0) + (1 : Int32))) (upd (Rd_nodes (Rd_set_level s0 ((Rd_level s0) + (1 : Int32)))) (Rd_level (Rd_set_level s0 ((Rd_level s0) + (1 : Int32)))).toNatClampNeg o1.1))).toNatClampNeg x2))).toNatClampNeg (vp_nar .boolean x3))) (upd (Rd_counts (Rd_set_isOpen (Rd_set_ends (Rd_set_nodes (Rd_set_level s0 ((Rd_level s0) + (1 : Int32))) (upd (Rd_nodes (Rd_set_level s0 ((Rd_level s0) + (1 : Int32)))) (Rd_level (Rd_set_level s0 ((Rd_level s0) + (1 : Int32)))).toNatClampNeg o1.1)) (upd (Rd_ends (Rd_set_nodes (Rd_set_level s0 ((Rd_level s0) + (1 : Int32))) (upd (Rd_nodes (Rd_set_level s0 ((Rd_level s0) + (1 : Int32)))) (Rd_level (Rd_set_level s0 ((Rd_level s0) + (1 : Int32)))).toNatClampNeg o1.1))) (Rd_level (Rd_set_nodes (Rd_set_level s0 ((Rd_level s0) + (1 : Int32))) (upd (Rd_nodes (Rd_set_level s0 ((Rd_level s0) + (1 : Int32)))) (Rd_level (Rd_set_level s0 ((Rd_level s0) + (1 : Int32)))).toNatClampNeg o1.1))).toNatClampNeg x2)) (upd (Rd_isOpen (Rd_set_ends (Rd_set_nodes (Rd_set_level s0 ((Rd_level s0) + (1 : Int32))) (upd (Rd_nodes (Rd_set_level s0 ((Rd_level s0) + (1 : Int32)))) (Rd_level (Rd_set_level s0 ((Rd_level s0) + (1 : Int32)))).toNatClampNeg o1.1)) (upd (Rd_ends (Rd_set_nodes (Rd_set_level s0 ((Rd_level s0) + (1 : Int32))) (upd (Rd_nodes (Rd_set_level s0 ((Rd_level s0) + (1 : Int32)))) (Rd_level (Rd_set_level s0 ((Rd_level s0) + (1 : Int32)))).toNatClampNeg o1.1))) (Rd_level (Rd_set_nodes (Rd_set_level s0 ((Rd_level s0) + (1 : Int32))) (upd (Rd_nodes (Rd_set_level s0 ((Rd_level s0) + (1 : Int32)))) (Rd_level (Rd_set_level s0 ((Rd_level s0) + (1 : Int32)))).toNatClampNeg o1.1))).toNatClampNeg x2))) (Rd_level (Rd_set_ends (Rd_set_nodes (Rd_set_level s0 ((Rd_level s0) + (1 : Int32))) (upd (Rd_nodes (Rd_set_level s0 ((Rd_level s0) + (1 : Int32)))) (Rd_level (Rd_set_level s0 ((Rd_level s0) + (1 : Int32)))).toNatClampNeg o1.1)) (upd (Rd_ends (Rd_set_nodes (Rd_set_level s0 ((Rd_level s0) + (1 : Int32))) (upd (Rd_nodes (Rd_set_level s0 ((Rd_level s0) + (1 : Int32)))) (Rd_level (Rd_set_level s0 ((Rd_level s0) + (1 : Int32)))).toNatClampNeg o1.1))) (Rd_level (Rd_set_nodes (Rd_set_level s0 ((Rd_level s0) + (1 : Int32))) (upd (Rd_nodes (Rd_set_level s0 ((Rd_level s0) + (1 : Int32)))) (Rd_level (Rd_set_level s0 ((Rd_level s0) + (1 : Int32)))).toNatClampNeg o1.1))).toNatClampNeg x2))).toNatClampNeg (vp_nar .boolean x3)))) (Rd_level (Rd_set_isOpen (Rd_set_ends (Rd_set_nodes (Rd_set_level s0 ((Rd_level s0) + (1 : Int32))) (upd (Rd_nodes (Rd_set_level s0 ((Rd_level s0) + (1 : Int32)))) (Rd_level (Rd_set_level s0 ((Rd_level s0) + (1 : Int32)))).toNatClampNeg o1.1)) (upd (Rd_ends (Rd_set_nodes (Rd_set_level s0 ((Rd_level s0) + (1 : Int32))) (upd (Rd_nodes (Rd_set_level s0 ((Rd_level s0) + (1 : Int32)))) (Rd_level (Rd_set_level s0 ((Rd_level s0) + (1 : Int32)))).toNatClampNeg o1.1))) (Rd_level (Rd_set_nodes (Rd_set_level s0 ((Rd_level s0) + (1 : Int32))) (upd (Rd_nodes (Rd_set_level s0 ((Rd_level s0) + (1 : Int32)))) (Rd_level (Rd_set_level s0 ((Rd_level s0) + (1 : Int32)))).toNatClampNeg o1.1))).toNatClampNeg x2)) (upd (Rd_isOpen (Rd_set_ends (Rd_set_nodes (Rd_set_level s0 ((Rd_level s0) + (1 : Int32))) (upd (Rd_nodes (Rd_set_level s0 ((Rd_level s0) + (1 : Int32)))) (Rd_level (Rd_set_level s0 ((Rd_level s0) + (1 : Int32)))).toNatClampNeg o1.1)) (upd (Rd_ends (Rd_set_nodes (Rd_set_level s0 ((Rd_level s0) + (1 : Int32))) (upd (Rd_nodes (Rd_set_level s0 ((Rd_level s0) + (1 : Int32)))) (Rd_level (Rd_set_level s0 ((Rd_level s0) + (1 : Int32)))).toNatClampNeg o1.1))) (Rd_level (Rd_set_nodes (Rd_set_level s0 ((Rd_level s0) + (1 : Int32))) (upd (Rd_nodes (Rd_set_level s0 ((Rd_level s0) + (1 : Int32)))) (Rd_level (Rd_set_level s0 ((Rd_level s0) + (1 : Int32)))).toNatClampNeg o1.1))).toNatClampNeg x2))) (Rd_level (Rd_set_ends (Rd_set_nodes (Rd_set_level s0 ((Rd_level s0) + (1 : Int32))) (upd (Rd_nodes (Rd_set_level s0 ((Rd_level s0) + (1 : Int32)))) (Rd_level (Rd_set_level s0 ((Rd_level s0) + (1 : Int32)))).toNatClampNeg o1.1)) (upd (Rd_ends (Rd_set_nodes (Rd_set_level s0 ((Rd_level s0) + (1 : Int32))) (upd (Rd_nodes (Rd_set_level s0 ((Rd_level s0) + (1 : Int32)))) (Rd_level (Rd_set_level s0 ((Rd_level s0) + (1 : Int32)))).toNatClampNeg o1.1))) (Rd_level (Rd_set_nodes (Rd_set_level s0 ((Rd_level s0) + (1 : Int32))) (upd (Rd_nodes (Rd_set_level s0 ((Rd_level s0) + (1 : Int32)))) (Rd_level (Rd_set_level s0 ((Rd_level s0) + (1 : Int32)))).toNatClampNeg o1.1))).toNatClampNeg x2))).toNatClampNeg (vp_nar .boolean x3)))).toNatClampNeg (0 : Int32)))) < 0 ∨ 5 ≤ (Rd_level (Rd_set_counts (Rd_set_isOpen (Rd_set_ends (Rd_set_nodes (Rd_set_level s0 ((Rd_level s0) + (1 : Int32))) (upd (Rd_nodes (Rd_set_level s0 ((Rd_level s0) + (1 : Int32)))) (Rd_level (Rd_set_level s0 ((Rd_level s0) + (1 : Int32)))).toNatClampNeg o1.1)) (upd (Rd_ends (Rd_set_nodes (Rd_set_level s0 ((Rd_level s0) + (1 : Int32))) (upd (Rd_nodes (Rd_set_level s0 ((Rd_level s0) + (1 : Int32)))) (Rd_level (Rd_set_level s0 ((Rd_level s0) + (1 : Int32)))).toNatClampNeg o1.1))) (Rd_level (Rd_set_nodes (Rd_set_level s0 ((Rd_level s0) + (1 : Int32))) (upd (Rd_nodes (Rd_set_level s0 ((Rd_level s0) + (1 : Int32)))) (Rd_level (Rd_set_level s0 ((Rd_level s0) + (1 : Int32)))).toNatClampNeg o1.1))).toNatClampNeg x2)) (upd (Rd_isOpen (Rd_set_ends (Rd_set_nodes (Rd_set_level s0 ((Rd_level s0) + (1 : Int32))) (upd (Rd_nodes (Rd_set_level s0 ((Rd_level s0) + (1 : Int32)))) (Rd_level (Rd_set_level s0 ((Rd_level s0) + (1 : Int32)))).toNatClampNeg o1.1)) (upd (Rd_ends (Rd_set_nodes (Rd_set_level s0 ((Rd_level s0) + (1 : Int32))) (upd (Rd_nodes (Rd_set_level s0 ((Rd_level s0) + (1 : Int32)))) (Rd_level (Rd_set_level s0 ((Rd_level s0) + (1 : Int32)))).toNatClampNeg o1.1))) (Rd_level (Rd_set_nodes (Rd_set_level s0 ((Rd_level s0) + (1 : Int32))) (upd (Rd_nodes (Rd_set_level s0 ((Rd_level s0) + (1 : Int32)))) (Rd_level (Rd_set_level s0 ((Rd_level s0) + (1 : Int32)))).toNatClampNeg o1.1))).toNatClampNeg x2))) (Rd_level (Rd_set_ends (Rd_set_nodes (Rd_set_level s0 ((Rd_level s0) + (1 : Int32))) (upd (Rd_nodes (Rd_set_level s0 ((Rd_level s0) + (1 : Int32)))) (Rd_level (Rd_set_level s0 ((Rd_level s0) + (1 : Int32)))).toNatClampNeg o1.1)) (upd (Rd_ends (Rd_set_nodes (Rd_set_level s0 ((Rd_level s0) + (1 : Int32))) (upd (Rd_nodes (Rd_set_level s0 ((Rd_level s0) + (1 : Int32)))) (Rd_level (Rd_set_level s0 ((Rd_level s0) + (1 : Int32)))).toNatClampNeg o1.1))) (Rd_level (Rd_set_nodes (Rd_set_level s0 ((Rd_level s0) + (1 : Int32))) (upd (Rd_nodes (Rd_set_level s0 ((Rd_level s0) + (1 : Int32)))) (Rd_level (Rd_set_level s0 ((Rd_level s0) + (1 : Int32)))).toNatClampNeg o1.1))).toNatClampNeg x2))).toNatClampNeg (vp_nar .boolean x3))) (upd (Rd_counts (Rd_set_isOpen (Rd_set_ends (Rd_set_nodes (Rd_set_level s0 ((Rd_level s0) + (1 : Int32))) (upd (Rd_nodes (Rd_set_level s0 ((Rd_level s0) + (1 : Int32)))) (Rd_level (Rd_set_level s0 ((Rd_level s0) + (1 : Int32)))).toNatClampNeg o1.1)) (upd (Rd_ends (Rd_set_nodes (Rd_set_level s0 ((Rd_level s0) + (1 : Int32))) (upd (Rd_nodes (Rd_set_level s0 ((Rd_level s0) + (1 : Int32)))) (Rd_level (Rd_set_level s0 ((Rd_level s0) + (1 : Int32)))).toNatClampNeg o1.1))) (Rd_level (Rd_set_nodes (Rd_set_level s0 ((Rd_level s0) + (1 : Int32))) (upd (Rd_nodes (Rd_set_level s0 ((Rd_level s0) + (1 : Int32)))) (Rd_level (Rd_set_level s0 ((Rd_level s0) + (1 : Int32)))).toNatClampNeg o1.1))).toNatClampNeg x2)) (upd (Rd_isOpen (Rd_set_ends (Rd_set_nodes (Rd_set_level s0 ((Rd_level s0) + (1 : Int32))) (upd (Rd_nodes (Rd_set_level s0 ((Rd_level s0) + (1 : Int32)))) (Rd_level (Rd_set_level s0 ((Rd_level s0) + (1 : Int32)))).toNatClampNeg o1.1)) (upd (Rd_ends (Rd_set_nodes (Rd_set_level s0 ((Rd_level s0) + (1 : Int32))) (upd (Rd_nodes (Rd_set_level s0 ((Rd_level s0) + (1 : Int32)))) (Rd_level (Rd_set_level s0 ((Rd_level s0) + (1 : Int32)))).toNatClampNeg o1.1))) (Rd_level (Rd_set_nodes (Rd_set_level s0 ((Rd_level s0) + (1 : Int32))) (upd (Rd_nodes (Rd_set_level s0 ((Rd_level s0) + (1 : Int32)))) (Rd_level (Rd_set_level s0 ((Rd_level s0) + (1 : Int32)))).toNatClampNeg o1.1))).toNatClampNeg x2))) (Rd_level (Rd_set_ends (Rd_set_nodes (Rd_set_level s0 ((Rd_level s0) + (1 : Int32))) (upd (Rd_nodes (Rd_set_level s0 ((Rd_level s0) + (1 : Int32)))) (Rd_level (Rd_set_level s0 ((Rd_level s0) + (1 : Int32)))).toNatClampNeg o1.1)) (upd (Rd_ends (Rd_set_nodes (Rd_set_level s0 ((Rd_level s0) + (1 : Int32))) (upd (Rd_nodes (Rd_set_level s0 ((Rd_level s0) + (1 : Int32)))) (Rd_level (Rd_set_level s0 ((Rd_level s0) + (1 : Int32)))).toNatClampNeg o1.1))) (Rd_level (Rd_set_nodes (Rd_set_level s0 ((Rd_level s0) + (1 : Int32))) (upd (Rd_nodes (Rd_set_level s0 ((Rd_level s0) + (1 : Int32)))) (Rd_level (Rd_set_level s0 ((Rd_level s0) + (1 : Int32)))).toNatClampNeg o1.1))).toNatClampNeg x2))).toNatClampNeg (vp_nar .boolean x3)))) (Rd_level (Rd_set_isOpen (Rd_set_ends (Rd_set_nodes (Rd_set_level s0 ((Rd_level s0) + (1 : Int32))) (upd (Rd_nodes (Rd_set_level s0 ((Rd_level s0) + (1 : Int32)))) (Rd_level (Rd_set_level s0 ((Rd_level s0) + (1 : Int32)))).toNatClampNeg o1.1)) (upd (Rd_ends (Rd_set_nodes (Rd_set_level s0 ((Rd_level s0) + (1 : Int32))) (upd (Rd_nodes (Rd_set_level s0 ((Rd_level s0) + (1 : Int32)))) (Rd_level (Rd_set_level s0 ((Rd_level s0) + (1 : Int32)))).toNatClampNeg o1.1))) (Rd_level (Rd_set_nodes (Rd_set_level s0 ((Rd_level s0) + (1 : Int32))) (upd (Rd_nodes (Rd_set_level s0 ((Rd_level s0) + (1 : Int32)))) (Rd_level (Rd_set_level s0 ((Rd_level s0) + (1 : Int32)))).toNatClampNeg o1.1))).toNatClampNeg x2)) (upd (Rd_isOpen (Rd_set_ends (Rd_set_nodes (Rd_set_level s0 ((Rd_level s0) + (1 : Int32))) (upd (Rd_nodes (Rd_set_level s0 ((Rd_level s0) + (1 : Int32)))) (Rd_level (Rd_set_level s0 ((Rd_level s0) + (1 : Int32)))).toNatClampNeg o1.1)) (upd (Rd_ends (Rd_set_nodes (Rd_set_level s0 ((Rd_level s0) + (1 : Int32))) (upd (Rd_nodes (Rd_set_level s0 ((Rd_level s0) + (1 : Int32)))) (Rd_level (Rd_set_level s0 ((Rd_level s0) + (1 : Int32)))).toNatClampNeg o1.1))) (Rd_level (Rd_set_nodes (Rd_set_level s0 ((Rd_level s0) + (1 : Int32))) (upd (Rd_nodes (Rd_set_level s0 ((Rd_level s0) + (1 : Int32)))) (Rd_level (Rd_set_level s0 ((Rd_level s0) + (1 : Int32)))).toNatClampNeg o1.1))).toNatClampNeg x2))) (Rd_level (Rd_set_ends (Rd_set_nodes (Rd_set_level s0 ((Rd_level s0) + (1 : Int32))) (upd (Rd_nodes (Rd_set_level s0 ((Rd_level s0) + (1 : Int32)))) (Rd_level (Rd_set_level s0 ((Rd_level s0) + (1 : Int32)))).toNatClampNeg o1.1)) (upd (Rd_ends (Rd_set_nodes (Rd_set_level s0 ((Rd_level s0) + (1 : Int32))) (upd (Rd_nodes (Rd_set_level s0 ((Rd_level s0) + (1 : Int32)))) (Rd_level (Rd_set_level s0 ((Rd_level s0) + (1 : Int32)))).toNatClampNeg o1.1))) (Rd_level (Rd_set_nodes (Rd_set_level s0 ((Rd_level s0) + (1 : Int32))) (upd (Rd_nodes (Rd_set_level s0 ((Rd_level s0) + (1 : Int32)))) (Rd_level (Rd_set_level s0 ((Rd_level s0) + (1 : Int32)))).toNatClampNeg o1.1))).toNatClampNeg x2))).toNatClampNeg (vp_nar .boolean x3)))).toNatClampNeg (0 : Int32)))).toNatClampNeg)
  · exact no_s (it_t h hc7)
  have h := it_f h hc7
  refine va_iast hx hb hK hI.1 hI.2 hS 5 0 rfl rfl hc7 d_Rd_enter_79 (fun H locs hP hD hS => ?_)
  have hI : Iw D A (w_Rd g a0 (tw (a1 0) (sr 0)) (Rd_set_lastTags (Rd_set_counts (Rd_set_isOpen (Rd_set_ends (Rd_set_nodes (Rd_set_level s0 ((Rd_level s0) + (1 : Int32))) (upd (Rd_nodes (Rd_set_level s0 ((Rd_level s0) + (1 : Int32)))) (Rd_level (Rd_set_level s0 ((Rd_level s0) + (1 : Int32)))).toNatClampNeg o1.1)) (upd (Rd_ends (Rd_set_nodes (Rd_set_level s0 ((Rd_level s0) + (1 : Int32))) (upd (Rd_nodes (Rd_set_level s0 ((Rd_level s0) + (1 : Int32)))) (Rd_level (Rd_set_level s0 ((Rd_level s0) + (1 : Int32)))).toNatClampNeg o1.1))) (Rd_level (Rd_set_nodes (Rd_set_level s0 ((Rd_level s0) + (1 : Int32))) (upd (Rd_nodes (Rd_set_level s0 ((Rd_level s0) + (1 : Int32)))) (Rd_level (Rd_set_level s0 ((Rd_level s0) + (1 : Int32)))).toNatClampNeg o1.1))).toNatClampNeg x2)) (upd (Rd_isOpen (Rd_set_ends (Rd_set_nodes (Rd_set_level s0 ((Rd_level s0) + (1 : Int32))) (upd (Rd_nodes (Rd_set_level s0 ((Rd_level s0) + (1 : Int32)))) (Rd_level (Rd_set_level s0 ((Rd_level s0) + (1 : Int32)))).toNatClampNeg o1.1)) (upd (Rd_ends (Rd_set_nodes (Rd_set_level s0 ((Rd_level s0) + (1 : Int32))) (upd (Rd_nodes (Rd_set_level s0 ((Rd_level s0) + (1 : Int32)))) (Rd_level (Rd_set_level s0 ((Rd_level s0) + (1 : Int32)))).toNatClampNeg o1.1))) (Rd_level (Rd_set_nodes (Rd_set_level s0 ((Rd_level s0) + (1 : Int32))) (upd (Rd_nodes (Rd_set_level s0 ((Rd_level s0) + (1 : Int32)))) (Rd_level (Rd_set_level s0 ((Rd_level s0) + (1 : Int32)))).toNatClampNeg o1.1))).toNatClampNeg x2))) (Rd_level (Rd_set_ends (Rd_set_nodes (Rd_set_level s0 ((Rd_level s0) + (1 : Int32))) (upd (Rd_nodes (Rd_set_level s0 ((Rd_level s0) + (1 : Int32)))) (Rd_level (Rd_set_level s0 ((Rd_level s0) + (1 : Int32)))).toNatClampNeg o1.1)) (upd (Rd_ends (Rd_set_nodes (Rd_set_level s0 ((Rd_level s0) + (1 : Int32))) (upd (Rd_nodes (Rd_set_level s0 ((Rd_level s0) + (1 : Int32)))) (Rd_level (Rd_set_level s0 ((Rd_level s0) + (1 : Int32)))).toNatClampNeg o1.1))) (Rd_level (Rd_set_nodes (Rd_set_level s0 ((Rd_level s0) + (1 : Int32))) (upd (Rd_nodes (Rd_set_level s0 ((Rd_level s0) + (1 : Int32)))) (Rd_level (Rd_set_level s0 ((Rd_level s0) + (1 : Int32)))).toNatClampNeg o1.1))).toNatClampNeg x2))).toNatClampNeg (vp_nar .boolean x3))) (upd (Rd_counts (Rd_set_isOpen (Rd_set_ends (Rd_set_nodes (Rd_set_level s0 ((Rd_level s0) + (1 : Int32))) (upd (Rd_nodes (Rd_set_level s0 ((Rd_level s0) + (1 : Int32)))) (Rd_level (Rd_set_level s0 ((Rd_level s0) + (1 : Int32)))).toNatClampNeg o1.1)) (upd (Rd_ends (Rd_set_nodes (Rd_set_level s0 ((Rd_level s0) + (1 : Int32))) (upd (Rd_nodes (Rd_set_level s0 ((Rd_level s0) + (1 : Int32)))) (Rd_level (Rd_set_level s0 ((Rd_level s0) + (1 : Int32)))).toNatClampNeg o1.1))) (Rd_level (Rd_set_nodes (Rd_set_level s0 ((Rd_level s0) + (1 : Int32))) (upd (Rd_nodes (Rd_set_level s0 ((Rd_level s0) + (1 : Int32)))) (Rd_level (Rd_set_level s0 ((Rd_level s0) + (1 : Int32)))).toNatClampNeg o1.1))).toNatClampNeg x2)) (upd (Rd_isOpen (Rd_set_ends (Rd_set_nodes (Rd_set_level s0 ((Rd_level s0) + (1 : Int32))) (upd (Rd_nodes (Rd_set_level s0 ((Rd_level s0) + (1 : Int32)))) (Rd_level (Rd_set_level s0 ((Rd_level s0) + (1 : Int32)))).toNatClampNeg o1.1)) (upd (Rd_ends (Rd_set_nodes (Rd_set_level s0 ((Rd_level s0) + (1 : Int32))) (upd (Rd_nodes (Rd_set_level s0 ((Rd_level s0) + (1 : Int32)))) (Rd_level (Rd_set_level s0 ((Rd_level s0) + (1 : Int32)))).toNatClampNeg o1.1))) (Rd_level (Rd_set_nodes (Rd_set_level s0 ((Rd_level s0) + (1 : Int32))) (upd (Rd_nodes (Rd_set_level s0 ((Rd_level s0) + (1 : Int32)))) (Rd_level (Rd_set_level s0 ((Rd_level s0) + (1 : Int32)))).toNatClampNeg o1.1))).toNatClampNeg x2))) (Rd_level (Rd_set_ends (Rd_set_nodes (Rd_set_level s0 ((Rd_level s0) + (1 : Int32))) (upd (Rd_nodes (Rd_set_level s0 ((Rd_level s0) + (1 : Int32)))) (Rd_level (Rd_set_level s0 ((Rd_level s0) + (1 : Int32)))).toNatClampNeg o1.1)) (upd (Rd_ends (Rd_set_nodes (Rd_set_level s0 ((Rd_level s0) + (1 : Int32))) (upd (Rd_nodes (Rd_set_level s0 ((Rd_level s0) + (1 : Int32)))) (Rd_level (Rd_set_level s0 ((Rd_level s0) + (1 : Int32)))).toNatClampNeg o1.1))) (Rd_level (Rd_set_nodes (Rd_set_level s0 ((Rd_level s0) + (1 : Int32))) (upd (Rd_nodes (Rd_set_level s0 ((Rd_level s0) + (1 : Int32)))) (Rd_level (Rd_set_level s0 ((Rd_level s0) + (1 : Int32)))).toNatClampNeg o1.1))).toNatClampNeg x2))).toNatClampNeg (vp_nar .boolean x3)))) (Rd_level (Rd_set_isOpen (Rd_set_ends (Rd_set_nodes (Rd_set_level s0 ((Rd_level s0) + (1 : Int32))) (upd (Rd_nodes (Rd_set_level s0 ((Rd_level s0) + (1 : Int32)))) (Rd_level (Rd_set_level s0 ((Rd_level s0) + (1 : Int32)))).toNatClampNeg o1.1)) (upd (Rd_ends (Rd_set_nodes (Rd_set_level s0 ((Rd_level s0) + (1 : Int32))) (upd (Rd_nodes (Rd_set_level s0 ((Rd_level s0) + (1 : Int32)))) (Rd_level (Rd_set_level s0 ((Rd_level s0) + (1 : Int32)))).toNatClampNeg o1.1))) (Rd_level (Rd_set_nodes (Rd_set_level s0 ((Rd_level s0) + (1 : Int32))) (upd (Rd_nodes (Rd_set_level s0 ((Rd_level s0) + (1 : Int32)))) (Rd_level (Rd_set_level s0 ((Rd_level s0) + (1 : Int32)))).toNatClampNeg o1.1))).toNatClampNeg x2)) (upd (Rd_isOpen (Rd_set_ends (Rd_set_nodes (Rd_set_level s0 ((Rd_level s0) + (1 : Int32))) (upd (Rd_nodes (Rd_set_level s0 ((Rd_level s0) + (1 : Int32)))) (Rd_level (Rd_set_level s0 ((Rd_level s0) + (1 : Int32)))).toNatClampNeg o1.1)) (upd (Rd_ends (Rd_set_nodes (Rd_set_level s0 ((Rd_level s0) + (1 : Int32))) (upd (Rd_nodes (Rd_set_level s0 ((Rd_level s0) + (1 : Int32)))) (Rd_level (Rd_set_level s0 ((Rd_level s0) + (1 : Int32)))).toNatClampNeg o1.1))) (Rd_level (Rd_set_nodes (Rd_set_level s0 ((Rd_level s0) + (1 : Int32))) (upd (Rd_nodes (Rd_set_level s0 ((Rd_level s0) + (1 : Int32)))) (Rd_level (Rd_set_level s0 ((Rd_level s0) + (1 : Int32)))).toNatClampNeg o1.1))).toNatClampNeg x2))) (Rd_level (Rd_set_ends (Rd_set_nodes (Rd_set_level s0 ((Rd_level s0) + (1 : Int32))) (upd (Rd_nodes (Rd_set_level s0 ((Rd_level s0) + (1 : Int32)))) (Rd_level (Rd_set_level s0 ((Rd_level s0) + (1 : Int32)))).toNatClampNeg o1.1)) (upd (Rd_ends (Rd_set_nodes (Rd_set_level s0 ((Rd_level s0) + (1 : Int32))) (upd (Rd_nodes (Rd_set_level s0 ((Rd_level s0) + (1 : Int32)))) (Rd_level (Rd_set_level s0 ((Rd_level s0) + (1 : Int32)))).toNatClampNeg o1.1))) (Rd_level (Rd_set_nodes (Rd_set_level s0 ((Rd_level s0) + (1 : Int32))) (upd (Rd_nodes (Rd_set_level s0 ((Rd_level s0) + (1 : Int32)))) (Rd_level (Rd_set_level s0 ((Rd_level s0) + (1 : Int32)))).toNatClampNeg o1.1))).toNatClampNeg x2))).toNatClampNeg (vp_nar .boolean x3)))).toNatClampNeg (0 : Int32))) (upd (Rd_lastTags (Rd_set_counts (Rd_set_isOpen (Rd_set_ends (Rd_set_nodes (Rd_set_level s0 ((Rd_level s0) + (1 : Int32))) (upd (Rd_nodes (Rd_set_level s0 ((Rd_level s0) + (1 : Int32)))) (Rd_level (Rd_set_level s0 ((Rd_level s0) + (1 : Int32)))).toNatClampNeg o1.1)) (upd (Rd_ends (Rd_set_nodes (Rd_set_level s0 ((Rd_level s0) + (1 : Int32))) (upd (Rd_nodes (Rd_set_level s0 ((Rd_level s0) + (1 : Int32)))) (Rd_level (Rd_set_level s0 ((Rd_level s0) + (1 : Int32)))).toNatClampNeg o1.1))) (Rd_level (Rd_set_nodes (Rd_set_level s0 ((Rd_level s0) + (1 : Int32))) (upd (Rd_nodes (Rd_set_level s0 ((Rd_level s0) + (1 : Int32)))) (Rd_level (Rd_set_level s0 ((Rd_level s0) + (1 : Int32)))).toNatClampNeg o1.1))).toNatClampNeg x2)) (upd (Rd_isOpen (Rd_set_ends (Rd_set_nodes (Rd_set_level s0 ((Rd_level s0) + (1 : Int32))) (upd (Rd_nodes (Rd_set_level s0 ((Rd_level s0) + (1 : Int32)))) (Rd_level (Rd_set_level s0 ((Rd_level s0) + (1 : Int32)))).toNatClampNeg o1.1)) (upd (Rd_ends (Rd_set_nodes (Rd_set_level s0 ((Rd_level s0) + (1 : Int32))) (upd (Rd_nodes (Rd_set_level s0 ((Rd_level s0) + (1 : Int32)))) (Rd_level (Rd_set_level s0 ((Rd_level s0) + (1 : Int32)))).toNatClampNeg o1.1))) (Rd_level (Rd_set_nodes (Rd_set_level s0 ((Rd_level s0) + (1 : Int32))) (upd (Rd_nodes (Rd_set_level s0 ((Rd_level s0) + (1 : Int32)))) (Rd_level (Rd_set_level s0 ((Rd_level s0) + (1 : Int32)))).toNatClampNeg o1.1))).toNatClampNeg x2))) (Rd_level (Rd_set_ends (Rd_set_nodes (Rd_set_level s0 ((Rd_level s0) + (1 : Int32))) (upd (Rd_nodes (Rd_set_level s0 ((Rd_level s0) + (1 : Int32)))) (Rd_level (Rd_set_level s0 ((Rd_level s0) + (1 : Int32)))).toNatClampNeg o1.1)) (upd (Rd_ends (Rd_set_nodes (Rd_set_level s0 ((Rd_level s0) + (1 : Int32))) (upd (Rd_nodes (Rd_set_level s0 ((Rd_level s0) + (1 : Int32)))) (Rd_level (Rd_set_level s0 ((Rd_level s0) + (1 : Int32)))).toNatClampNeg o1.1))) (Rd_level (Rd_set_nodes (Rd_set_level s0 ((Rd_level s0) + (1 : Int32))) (upd (Rd_nodes (Rd_set_level s0 ((Rd_level s0) + (1 : Int32)))) (Rd_level (Rd_set_level s0 ((Rd_level s0) + (1 : Int32)))).toNatClampNeg o1.1))).toNatClampNeg x2))).toNatClampNeg (vp_nar .boolean x3))) (upd (Rd_counts (Rd_set_isOpen (Rd_set_ends (Rd_set_nodes (Rd_set_level s0 ((Rd_level s0) + (1 : Int32))) (upd (Rd_nodes (Rd_set_level s0 ((Rd_level s0) + (1 : Int32)))) (Rd_level (Rd_set_level s0 ((Rd_level s0) + (1 : Int32)))).toNatClampNeg o1.1)) (upd (Rd_ends (Rd_set_nodes (Rd_set_level s0 ((Rd_level s0) + (1 : Int32))) (upd (Rd_nodes (Rd_set_level s0 ((Rd_level s0) + (1 : Int32)))) (Rd_level (Rd_set_level s0 ((Rd_level s0) + (1 : Int32)))).toNatClampNeg o1.1))) (Rd_level (Rd_set_nodes (Rd_set_level s0 ((Rd_level s0) + (1 : Int32))) (upd (Rd_nodes (Rd_set_level s0 ((Rd_level s0) + (1 : Int32)))) (Rd_level (Rd_set_level s0 ((Rd_level s0) + (1 : Int32)))).toNatClampNeg o1.1))).toNatClampNeg x2)) (upd (Rd_isOpen (Rd_set_ends (Rd_set_nodes (Rd_set_level s0 ((Rd_level s0) + (1 : Int32))) (upd (Rd_nodes (Rd_set_level s0 ((Rd_level s0) + (1 : Int32)))) (Rd_level (Rd_set_level s0 ((Rd_level s0) + (1 : Int32)))).toNatClampNeg o1.1)) (upd (Rd_ends (Rd_set_nodes (Rd_set_level s0 ((Rd_level s0) + (1 : Int32))) (upd (Rd_nodes (Rd_set_level s0 ((Rd_level s0) + (1 : Int32)))) (Rd_level (Rd_set_level s0 ((Rd_level s0) + (1 : Int32)))).toNatClampNeg o1.1))) (Rd_level (Rd_set_nodes (Rd_set_level s0 ((Rd_level s0) + (1 : Int32))) (upd (Rd_nodes (Rd_set_level s0 ((Rd_level s0) + (1 : Int32)))) (Rd_level (Rd_set_level s0 ((Rd_level s0) + (1 : Int32)))).toNatClampNeg o1.1))).toNatClampNeg x2))) (Rd_level (Rd_set_ends (Rd_set_nodes (Rd_set_level s0 ((Rd_level s0) + (1 : Int32))) (upd (Rd_nodes (Rd_set_level s0 ((Rd_level s0) + (1 : Int32)))) (Rd_level (Rd_set_level s0 ((Rd_level s0) + (1 : Int32)))).toNatClampNeg o1.1)) (upd (Rd_ends (Rd_set_nodes (Rd_set_level s0 ((Rd_level s0) + (1 : Int32))) (upd (Rd_nodes (Rd_set_level s0 ((Rd_level s0) + (1 : Int32)))) (Rd_level (Rd_set_level s0 ((Rd_level s0) + (1 : Int32)))).toNatClampNeg o1.1))) (Rd_level (Rd_set_nodes (Rd_set_level s0 ((Rd_level s0) + (1 : Int32))) (upd (Rd_nodes (Rd_set_level s0 ((Rd_level s0) + (1 : Int32)))) (Rd_level (Rd_set_level s0 ((Rd_level s0) + (1 : Int32)))).toNatClampNeg o1.1))).toNatClampNeg x2))).toNatClampNeg (vp_nar .boolean x3)))) (Rd_level (Rd_set_isOpen (Rd_set_ends (Rd_set_nodes (Rd_set_level s0 ((Rd_level s0) + (1 : Int32))) (upd (Rd_nodes (Rd_set_level s0 ((Rd_level s0) + (1 : Int32)))) (Rd_level (Rd_set_level s0 ((Rd_level s0) + (1 : Int32)))).toNatClampNeg o1.1)) (upd (Rd_ends (Rd_set_nodes (Rd_set_level s0 ((Rd_level s0) + (1 : Int32))) (upd (Rd_nodes (Rd_set_level s0 ((Rd_level s0) + (1 : Int32)))) (Rd_level (Rd_set_level s0 ((Rd_level s0) + (1 : Int32)))).toNatClampNeg o1.1))) (Rd_level (Rd_set_nodes (Rd_set_level s0 ((Rd_level s0) + (1 : Int32))) (upd (Rd_nodes (Rd_set_level s0 ((Rd_level s0) + (1 : Int32)))) (Rd_level (Rd_set_level s0 ((Rd_level s0) + (1 : Int32)))).toNatClampNeg o1.1))).toNatClampNeg x2)) (upd (Rd_isOpen (Rd_set_ends (Rd_set_nodes (Rd_set_level s0 ((Rd_level s0) + (1 : Int32))) (upd (Rd_nodes (Rd_set_level s0 ((Rd_level s0) + (1 : Int32)))) (Rd_level (Rd_set_level s0 ((Rd_level s0) + (1 : Int32)))).toNatClampNeg o1.1)) (upd (Rd_ends (Rd_set_nodes (Rd_set_level s0 ((Rd_level s0) + (1 : Int32))) (upd (Rd_nodes (Rd_set_level s0 ((Rd_level s0) + (1 : Int32)))) (Rd_level (Rd_set_level s0 ((Rd_level s0) + (1 : Int32)))).toNatClampNeg o1.1))) (Rd_level (Rd_set_nodes (Rd_set_level s0 ((Rd_level s0) + (1 : Int32))) (upd (Rd_nodes (Rd_set_level s0 ((Rd_level s0) + (1 : Int32)))) (Rd_level (Rd_set_level s0 ((Rd_level s0) + (1 : Int32)))).toNatClampNeg o1.1))).toNatClampNeg x2))) (Rd_level (Rd_set_ends (Rd_set_nodes (Rd_set_level s0 ((Rd_level s0) + (1 : Int32))) (upd (Rd_nodes (Rd_set_level s0 ((Rd_level s0) + (1 : Int32)))) (Rd_level (Rd_set_level s0 ((Rd_level s0) + (1 : Int32)))).toNatClampNeg o1.1)) (upd (Rd_ends (Rd_set_nodes (Rd_set_level s0 ((Rd_level s0) + (1 : Int32))) (upd (Rd_nodes (Rd_set_level s0 ((Rd_level s0) + (1 : Int32)))) (Rd_level (Rd_set_level s0 ((Rd_level s0) + (1 : Int32)))).toNatClampNeg o1.1))) (Rd_level (Rd_set_nodes (Rd_set_level s0 ((Rd_level s0) + (1 : Int32))) (upd (Rd_nodes (Rd_set_level s0 ((Rd_level s0) + (1 : Int32)))) (Rd_level (Rd_set_level s0 ((Rd_level s0) + (1 : Int32)))).toNatClampNeg o1.1))).toNatClampNeg x2))).toNatClampNeg (vp_nar .boolean x3)))).toNatClampNeg (0 : Int32)))) (Rd_level (Rd_set_counts (Rd_set_isOpen (Rd_set_ends (Rd_set_nodes (Rd_set_level s0 ((Rd_level s0) + (1 : Int32))) (upd (Rd_nodes (Rd_set_level s0 ((Rd_level s0) + (1 : Int32)))) (Rd_level (Rd_set_level s0 ((Rd_level s0) + (1 : Int32)))).toNatClampNeg o1.1)) (upd (Rd_ends (Rd_set_nodes (Rd_set_level s0 ((Rd_level s0) + (1 : Int32))) (upd (Rd_nodes (Rd_set_level s0 ((Rd_level s0) + (1 : Int32)))) (Rd_level (Rd_set_level s0 ((Rd_level s0) + (1 : Int32)))).toNatClampNeg o1.1))) (Rd_level (Rd_set_nodes (Rd_set_level s0 ((Rd_level s0) + (1 : Int32))) (upd (Rd_nodes (Rd_set_level s0 ((Rd_level s0) + (1 : Int32)))) (Rd_level (Rd_set_level s0 ((Rd_level s0) + (1 : Int32)))).toNatClampNeg o1.1))).toNatClampNeg x2)) (upd (Rd_isOpen (Rd_set_ends (Rd_set_nodes (Rd_set_level s0 ((Rd_level s0) + (1 : Int32))) (upd (Rd_nodes (Rd_set_level s0 ((Rd_level s0) + (1 : Int32)))) (Rd_level (Rd_set_level s0 ((Rd_level s0) + (1 : Int32)))).toNatClampNeg o1.1)) (upd (Rd_ends (Rd_set_nodes (Rd_set_level s0 ((Rd_level s0) + (1 : Int32))) (upd (Rd_nodes (Rd_set_level s0 ((Rd_level s0) + (1 : Int32)))) (Rd_level (Rd_set_level s0 ((Rd_level s0) + (1 : Int32)))).toNatClampNeg o1.1))) (Rd_level (Rd_set_nodes (Rd_set_level s0 ((Rd_level s0) + (1 : Int32))) (upd (Rd_nodes (Rd_set_level s0 ((Rd_level s0) + (1 : Int32)))) (Rd_level (Rd_set_level s0 ((Rd_level s0) + (1 : Int32)))).toNatClampNeg o1.1))).toNatClampNeg x2))) (Rd_level (Rd_set_ends (Rd_set_nodes (Rd_set_level s0 ((Rd_level s0) + (1 : Int32))) (upd (Rd_nodes (Rd_set_level s0 ((Rd_level s0) + (1 : Int32)))) (Rd_level (Rd_set_level s0 ((Rd_level s0) + (1 : Int32)))).toNatClampNeg o1.1)) (upd (Rd_ends (Rd_set_nodes (Rd_set_level s0 ((Rd_level s0) + (1 : Int32))) (upd (Rd_nodes (Rd_set_level s0 ((Rd_level s0) + (1 : Int32)))) (Rd_level (Rd_set_level s0 ((Rd_level s0) + (1 : Int32)))).toNatClampNeg o1.1))) (Rd_level (Rd_set_nodes (Rd_set_level s0 ((Rd_level s0) + (1 : Int32))) (upd (Rd_nodes (Rd_set_level s0 ((Rd_level s0) + (1 : Int32)))) (Rd_level (Rd_set_level s0 ((Rd_level s0) + (1 : Int32)))).toNatClampNeg o1.1))).toNatClampNeg x2))).toNatClampNeg (vp_nar .boolean x3))) (upd (Rd_counts (Rd_set_isOpen (Rd_set_ends (Rd_set_nodes (Rd_set_level s0 ((Rd_level s0) + (1 : Int32))) (upd (Rd_nodes (Rd_set_level s0 ((Rd_level s0) + (1 : Int32)))) (Rd_level (Rd_set_level s0 ((Rd_level s0) + (1 : Int32)))).toNatClampNeg o1.1)) (upd (Rd_ends (Rd_set_nodes (Rd_set_level s0 ((Rd_level s0) + (1 : Int32))) (upd (Rd_nodes (Rd_set_level s0 ((Rd_level s0) + (1 : Int32)))) (Rd_level (Rd_set_level s0 ((Rd_level s0) + (1 : Int32)))).toNatClampNeg o1.1))) (Rd_level (Rd_set_nodes (Rd_set_level s0 ((Rd_level s0) + (1 : Int32))) (upd (Rd_nodes (Rd_set_level s0 ((Rd_level s0) + (1 : Int32)))) (Rd_level (Rd_set_level s0 ((Rd_level s0) + (1 : Int32)))).toNatClampNeg o1.1))).toNatClampNeg x2)) (upd (Rd_isOpen (Rd_set_ends (Rd_set_nodes (Rd_set_level s0 ((Rd_level s0) + (1 : Int32))) (upd (Rd_nodes (Rd_set_level s0 ((Rd_level s0) + (1 : Int32)))) (Rd_level (Rd_set_level s0 ((Rd_level s0) + (1 : Int32)))).toNatClampNeg o1.1)) (upd (Rd_ends (Rd_set_nodes (Rd_set_level s0 ((Rd_level s0) + (1 : Int32))) (upd (Rd_nodes (Rd_set_level s0 ((Rd_level s0) + (1 : Int32)))) (Rd_level (Rd_set_level s0 ((Rd_level s0) + (1 : Int32)))).toNatClampNeg o1.1))) (Rd_level (Rd_set_nodes (Rd_set_level s0 ((Rd_level s0) + (1 : Int32))) (upd (Rd_nodes (Rd_set_level s0 ((Rd_level s0) + (1 : Int32)))) (Rd_level (Rd_set_level s0 ((Rd_level s0) + (1 : Int32)))).toNatClampNeg o1.1))).toNatClampNeg x2))) (Rd_level (Rd_set_ends (Rd_set_nodes (Rd_set_level s0 ((Rd_level s0) + (1 : Int32))) (upd (Rd_nodes (Rd_set_level s0 ((Rd_level s0) + (1 : Int32)))) (Rd_level (Rd_set_level s0 ((Rd_level s0) + (1 : Int32)))).toNatClampNeg o1.1)) (upd (Rd_ends (Rd_set_nodes (Rd_set_level s0 ((Rd_level s0) + (1 : Int32))) (upd (Rd_nodes (Rd_set_level s0 ((Rd_level s0) + (1 : Int32)))) (Rd_level (Rd_set_level s0 ((Rd_level s0) + (1 : Int32)))).toNatClampNeg o1.1))) (Rd_level (Rd_set_nodes (Rd_set_level s0 ((Rd_level s0) + (1 : Int32))) (upd (Rd_nodes (Rd_set_level s0 ((Rd_level s0) + (1 : Int32)))) (Rd_level (Rd_set_level s0 ((Rd_level s0) + (1 : Int32)))).toNatClampNeg o1.1))).toNatClampNeg x2))).toNatClampNeg (vp_nar .boolean x3)))) (Rd_level (Rd_set_isOpen (Rd_set_ends (Rd_set_nodes (Rd_set_level s0 ((Rd_level s0) + (1 : Int32))) (upd (Rd_nodes (Rd_set_level s0 ((Rd_level s0) + (1 : Int32)))) (Rd_level (Rd_set_level s0 ((Rd_level s0) + (1 : Int32)))).toNatClampNeg o1.1)) (upd (Rd_ends (Rd_set_nodes (Rd_set_level s0 ((Rd_level s0) + (1 : Int32))) (upd (Rd_nodes (Rd_set_level s0 ((Rd_level s0) + (1 : Int32)))) (Rd_level (Rd_set_level s0 ((Rd_level s0) + (1 : Int32)))).toNatClampNeg o1.1))) (Rd_level (Rd_set_nodes (Rd_set_level s0 ((Rd_level s0) + (1 : Int32))) (upd (Rd_nodes (Rd_set_level s0 ((Rd_level s0) + (1 : Int32)))) (Rd_level (Rd_set_level s0 ((Rd_level s0) + (1 : Int32)))).toNatClampNeg o1.1))).toNatClampNeg x2)) (upd (Rd_isOpen (Rd_set_ends (Rd_set_nodes (Rd_set_level s0 ((Rd_level s0) + (1 : Int32))) (upd (Rd_nodes (Rd_set_level s0 ((Rd_level s0) + (1 : Int32)))) (Rd_level (Rd_set_level s0 ((Rd_level s0) + (1 : Int32)))).toNatClampNeg o1.1)) (upd (Rd_ends (Rd_set_nodes (Rd_set_level s0 ((Rd_level s0) + (1 : Int32))) (upd (Rd_nodes (Rd_set_level s0 ((Rd_level s0) + (1 : Int32)))) (Rd_level (Rd_set_level s0 ((Rd_level s0) + (1 : Int32)))).toNatClampNeg o1.1))) (Rd_level (Rd_set_nodes (Rd_set_level s0 ((Rd_level s0) + (1 : Int32))) (upd (Rd_nodes (Rd_set_level s0 ((Rd_level s0) + (1 : Int32)))) (Rd_level (Rd_set_level s0 ((Rd_level s0) + (1 : Int32)))).toNatClampNeg o1.1))).toNatClampNeg x2))) (Rd_level (Rd_set_ends (Rd_set_nodes (Rd_set_level s0 ((Rd_level s0) + (1 : Int32))) (upd (Rd_nodes (Rd_set_level s0 ((Rd_level s0) + (1 : Int32)))) (Rd_level (Rd_set_level s0 ((Rd_level s0) + (1 : Int32)))).toNatClampNeg o1.1)) (upd (Rd_ends (Rd_set_nodes (Rd_set_level s0 ((Rd_level s0) + (1 : Int32))) (upd (Rd_nodes (Rd_set_level s0 ((Rd_level s0) + (1 : Int32)))) (Rd_level (Rd_set_level s0 ((Rd_level s0) + (1 : Int32)))).toNatClampNeg o1.1))) (Rd_level (Rd_set_nodes (Rd_set_level s0 ((Rd_level s0) + (1 : Int32))) (upd (Rd_nodes (Rd_set_level s0 ((Rd_level s0) + (1 : Int32)))) (Rd_level (Rd_set_level s0 ((Rd_level s0) + (1 : Int32)))).toNatClampNeg o1.1))).toNatClampNeg x2))).toNatClampNeg (vp_nar .boolean x3)))).toNatClampNeg (0 : Int32)))).toNatClampNeg (0 : Int32))) ++ (w_Tr g a1 o1.2 ++ (rest))) H := ⟨hP, hD⟩
  have h9 := Option.some.inj h
  subst h9
  exact W.vret hx hb hr (fun t ht hW => ⟨⟨(), rfl, trivial, ⟨by rw [ht]; exact hI, hKK.moved hW⟩⟩, hS.F ht⟩) hS.2.2 d_Rd_enter_80
set_option maxRecDepth 100000 in
set_option maxHeartbeats 4000000 in
theorem t_Rd_enter_10 {p : Program} {l : Launch} {e : Env} {s : State} {m : MethodId} {args : Array Value} {below : List Frame} {meth : Method} {c : Code} {D : va_G} {A : Nat → Prop} {g : Nat → ClassId} {rest : va_W} {a0 : Nat → Nat} {a1 : Nat → Nat} {sr : Nat → Nat} {ls : Array Slot} {H : Heap} {locs : List Loc} {s0 : S_Rd} {s1 : S_Tr} {out : S_Rd × S_Tr} (X : Cx p s m args meth c prog_7_method_5_code 4 ws_Rd_enter R_Rd none D g) (hl : lv_has ls 4 []) (hI : Iw D A (w_Rd g a0 (tw (a1 0) (sr 0)) s0 ++ (w_Tr g a1 s1 ++ (rest))) H) (hS : va_S A s.heap H locs) (h : B_Rd_enter_10  s0 s1 = some out) : W p l e (headSpec ws_Rd_enter { frames := 1, cells := 0, slots := 0, locals := 24 }).room s m args below meth c H locs 0 0 (MQ below (QcV D A g (fun (_ : Unit) => w_Rd g a0 (tw (a1 0) (sr 0)) out.1 ++ (w_Tr g a1 out.2 ++ (rest)))) args s 0 0 A) (F0 m 10 ls []) := by
  have X1 := X
  obtain ⟨hx, hb, hml, hown, hts, hr, hlocks, hKK⟩ := X1
  have ht : ∀ w ∈ TB, w.before args s = true := fun w h => hts w (List.mem_cons_of_mem _ h)
  have hK := hKK.1
  unfold B_Rd_enter_10 at h
  have h9 := Option.some.inj h
  subst h9
  exact W.vret hx hb hr (fun t ht hW => ⟨⟨(), rfl, trivial, ⟨by rw [ht]; exact hI, hKK.moved hW⟩⟩, hS.F ht⟩) hS.2.2 d_Rd_enter_10
set_option maxRecDepth 100000 in
set_option maxHeartbeats 4000000 in
theorem t_Rd_enter_0 {p : Program} {l : Launch} {e : Env} {s : State} {m : MethodId} {args : Array Value} {below : List Frame} {meth : Method} {c : Code} {D : va_G} {A : Nat → Prop} {g : Nat → ClassId} {rest : va_W} {a0 : Nat → Nat} {a1 : Nat → Nat} {sr : Nat → Nat} {ls : Array Slot} {H : Heap} {locs : List Loc} {s0 : S_Rd} {s1 : S_Tr} {x1 : Int32} {x2 : Int32} {x3 : Int32} {out : S_Rd × S_Tr} (X : Cx p s m args meth c prog_7_method_5_code 4 ws_Rd_enter R_Rd none D g) (hl : lv_has ls 4 [(0, .ref (a0 0)), (1, .int x1), (2, .int x2), (3, .int x3)]) (hI : Iw D A (w_Rd g a0 (tw (a1 0) (sr 0)) s0 ++ (w_Tr g a1 s1 ++ (rest))) H) (hS : va_S A s.heap H locs) (h : B_Rd_enter_0  s0 s1 x1 x2 x3 = some out) : W p l e (headSpec ws_Rd_enter { frames := 1, cells := 0, slots := 0, locals := 24 }).room s m args below meth c H locs 0 0 (MQ below (QcV D A g (fun (_ : Unit) => w_Rd g a0 (tw (a1 0) (sr 0)) out.1 ++ (w_Tr g a1 out.2 ++ (rest)))) args s 0 0 A) (F0 m 0 ls []) := by
  have X1 := X
  obtain ⟨hx, hb, hml, hown, hts, hr, hlocks, hKK⟩ := X1
  have ht : ∀ w ∈ TB, w.before args s = true := fun w h => hts w (List.mem_cons_of_mem _ h)
  have hK := hKK.1
  unfold B_Rd_enter_0 at h
  refine lv_aload_n hx hb d_Rd_enter_0 rfl (lv_at hl 0 rfl) ?_
  refine va_get (D := D) (ci := 5) (v := .int (Rd_level s0)) (C := R_Rd) (T := T_Rd) (N := 11) hx hb ht in_Rd hown hK hI.1 0 rfl rfl 9 (by decide) (ht _ m_167) (fun _ h9 => h9) rfl d_Rd_enter_1 ?_
  refine lv_iconst (v := 1) hx hb d_Rd_enter_4 (by decide) ?_
  refine lv_iadd hx hb d_Rd_enter_5 ?_
  refine lv_iconst (v := 5) hx hb d_Rd_enter_6 (by decide) ?_
  refine lv_icmp_lt (tgt := 11) hx hb d_Rd_enter_7 (by decide) (fun hc => ?_) (fun hc => ?_)
  · have h := it_t h hc
    exact t_Rd_enter_11 X (lv_sub hl [0, 1, 2, 3] rfl) hI hS h
  · have h := it_f h hc
    exact t_Rd_enter_10 X (lv_sub hl [] rfl) hI hS h
set_option maxRecDepth 100000 in
set_option maxHeartbeats 4000000 in
theorem c_Rd_enter {l : Launch} {D : va_G} {A : Nat → Prop} {g : Nat → ClassId} {rest : va_W} {a0 : Nat → Nat} {a1 : Nat → Nat} {sr : Nat → Nat} {s0 : S_Rd} {s1 : S_Tr} {x1 : Int32} {x2 : Int32} {x3 : Int32} {out : S_Rd × S_Tr} (h : F_Rd_enter s0 s1 x1 x2 x3 = some out) : Met l y_Rd_enter ws_Rd_enter { frames := 1, cells := 0, slots := 0, locals := 24 } (PcW D A g [.ref (a0 0), .int x1, .int x2, .int x3] (w_Rd g a0 (tw (a1 0) (sr 0)) s0 ++ (w_Tr g a1 s1 ++ (rest)))) (QcV D A g (fun (_ : Unit) => w_Rd g a0 (tw (a1 0) (sr 0)) out.1 ++ (w_Tr g a1 out.2 ++ (rest)))) 0 0 A := by
  refine Met.ofW (cc := prog_7_method_5_code) (maxL := 4) (ret := none) (by decide) rfl ?_
  intro p e s m args below meth c s₁ B hml hv
  obtain ⟨rfl, hI, hK⟩ := hv
  have hl := lv_entry [.ref (a0 0), .int x1, .int x2, .int x3] (n := 4) (Nat.le_of_ble_eq_true rfl)
  rw [lg_entry_eq]
  generalize (lg_sl [.ref (a0 0), .int x1, .int x2, .int x3] ++ List.replicate (4 - (lg_sl [.ref (a0 0), .int x1, .int x2, .int x3]).length) Slot.unset).toArray = ls at hl ⊢
  have hl : lv_has ls 4 [(0, .ref (a0 0)), (1, .int x1), (2, .int x2), (3, .int x3)] := hl
  exact t_Rd_enter_0 ⟨B.exec, B.bytes, hml, findClass_of_methodNamed B.named, atoms_spec (ws := ws_Rd_enter) B.pre, B.returns, B.notSynchronized, hK⟩ (lv_sub hl [0, 1, 2, 3] rfl) hI va_S.rf h
def ws_Rd_isEndMark : List Cond := .code y_Rd_isEndMark prog_7_method_8_code 2 (some .boolean) :: TB
def B_Rd_isEndMark_39 (s0 : S_Rd) (y0 : Int32) : Option Int32 :=
  (if y0 = 0 ∨ y0 = 1 then some y0 else none)
def B_Rd_isEndMark_38 (s0 : S_Rd) : Option Int32 :=
  (B_Rd_isEndMark_39 s0 (0 : Int32))
def B_Rd_isEndMark_34 (s0 : S_Rd) : Option Int32 :=
  (B_Rd_isEndMark_39 s0 (1 : Int32))
def B_Rd_isEndMark_31 (s0 : S_Rd) (y0 : Int32) (y1 : Int32) : Option Int32 :=
  (if y1 = y0 then (B_Rd_isEndMark_34 s0) else (B_Rd_isEndMark_38 s0))
def B_Rd_isEndMark_28 (s0 : S_Rd) (y0 : Int32) : Option Int32 :=
  (B_Rd_isEndMark_31 s0 (252 : Int32) y0)
def B_Rd_isEndMark_22 (s0 : S_Rd) (y0 : Int32) : Option Int32 :=
  (B_Rd_isEndMark_31 s0 (253 : Int32) y0)
def B_Rd_isEndMark_12 (s0 : S_Rd) (x1 : Int32) : Option Int32 :=
  (if ((Rd_level s0) - (Rd_level s0) / (2 : Int32) * (2 : Int32)) = 0 then (B_Rd_isEndMark_22 s0 x1) else (B_Rd_isEndMark_28 s0 x1))
def B_Rd_isEndMark_0 (s0 : S_Rd) (x1 : Int32) : Option Int32 :=
  (if ((Rd_level s0) < 0 ∨ 5 ≤ (Rd_level s0).toNatClampNeg) then none else (if ((Rd_isOpen s0) (Rd_level s0).toNatClampNeg) = 0 then (B_Rd_isEndMark_38 s0) else (B_Rd_isEndMark_12 s0 x1)))
def F_Rd_isEndMark (s0 : S_Rd) (x1 : Int32) : Option Int32 := B_Rd_isEndMark_0 s0 x1
set_option maxRecDepth 100000 in
set_option maxHeartbeats 4000000 in
theorem t_Rd_isEndMark_39 {p : Program} {l : Launch} {e : Env} {s : State} {m : MethodId} {args : Array Value} {below : List Frame} {meth : Method} {c : Code} {D : va_G} {A : Nat → Prop} {g : Nat → ClassId} {rest : va_W} {a0 : Nat → Nat} {a1 : Nat → Nat} {sr : Nat → Nat} {ls : Array Slot} {H : Heap} {locs : List Loc} {s0 : S_Rd} {y0 : Int32} {out : Int32} (X : Cx p s m args meth c prog_7_method_8_code 2 ws_Rd_isEndMark R_Rd (some .boolean) D g) (hl : lv_has ls 2 []) (hI : Iw D A (w_Rd g a0 (tw (a1 0) (sr 0)) s0 ++ (rest)) H) (hS : va_S A s.heap H locs) (h : B_Rd_isEndMark_39  s0 y0 = some out) : W p l e (headSpec ws_Rd_isEndMark { frames := 0, cells := 0, slots := 0, locals := 0 }).room s m args below meth c H locs 0 0 (MQ below (QcI D A g out (fun (_ : Unit) => w_Rd g a0 (tw (a1 0) (sr 0)) s0 ++ (rest))) args s 0 0 A) (F0 m 39 ls [.int y0]) := by
  have X1 := X
  obtain ⟨hx, hb, hml, hown, hts, hr, hlocks, hKK⟩ := X1
  have ht : ∀ w ∈ TB, w.before args s = true := fun w h => hts w (List.mem_cons_of_mem _ h)
  have hK := hKK.1
  unfold B_Rd_isEndMark_39 at h
  have hc1 : y0 = 0 ∨ y0 = 1 := by
    by_cases z : y0 = 0 ∨ y0 = 1
    · exact z
    · exact no_s (it_f h z)
  have h := it_t h hc1
  have h9 := Option.some.inj h
  subst h9
  exact W.zret (v := y0) hx hb hr (by rcases hc1 with z | z <;> rw [z] <;> rfl) (fun t ht hW => ⟨⟨_, (), rfl, rfl, ⟨by rw [ht]; exact hI, hKK.moved hW⟩⟩, hS.F ht⟩) hS.2.2 d_Rd_isEndMark_39
set_option maxRecDepth 100000 in
set_option maxHeartbeats 4000000 in
theorem t_Rd_isEndMark_38 {p : Program} {l : Launch} {e : Env} {s : State} {m : MethodId} {args : Array Value} {below : List Frame} {meth : Method} {c : Code} {D : va_G} {A : Nat → Prop} {g : Nat → ClassId} {rest : va_W} {a0 : Nat → Nat} {a1 : Nat → Nat} {sr : Nat → Nat} {ls : Array Slot} {H : Heap} {locs : List Loc} {s0 : S_Rd} {out : Int32} (X : Cx p s m args meth c prog_7_method_8_code 2 ws_Rd_isEndMark R_Rd (some .boolean) D g) (hl : lv_has ls 2 []) (hI : Iw D A (w_Rd g a0 (tw (a1 0) (sr 0)) s0 ++ (rest)) H) (hS : va_S A s.heap H locs) (h : B_Rd_isEndMark_38  s0 = some out) : W p l e (headSpec ws_Rd_isEndMark { frames := 0, cells := 0, slots := 0, locals := 0 }).room s m args below meth c H locs 0 0 (MQ below (QcI D A g out (fun (_ : Unit) => w_Rd g a0 (tw (a1 0) (sr 0)) s0 ++ (rest))) args s 0 0 A) (F0 m 38 ls []) := by
  have X1 := X
  obtain ⟨hx, hb, hml, hown, hts, hr, hlocks, hKK⟩ := X1
  have ht : ∀ w ∈ TB, w.before args s = true := fun w h => hts w (List.mem_cons_of_mem _ h)
  have hK := hKK.1
  unfold B_Rd_isEndMark_38 at h
  refine lv_iconst (v := 0) hx hb d_Rd_isEndMark_38 (by decide) ?_
  exact t_Rd_isEndMark_39 X (lv_sub hl [] rfl) hI hS h
set_option maxRecDepth 100000 in
set_option maxHeartbeats 4000000 in
theorem t_Rd_isEndMark_34 {p : Program} {l : Launch} {e : Env} {s : State} {m : MethodId} {args : Array Value} {below : List Frame} {meth : Method} {c : Code} {D : va_G} {A : Nat → Prop} {g : Nat → ClassId} {rest : va_W} {a0 : Nat → Nat} {a1 : Nat → Nat} {sr : Nat → Nat} {ls : Array Slot} {H : Heap} {locs : List Loc} {s0 : S_Rd} {out : Int32} (X : Cx p s m args meth c prog_7_method_8_code 2 ws_Rd_isEndMark R_Rd (some .boolean) D g) (hl : lv_has ls 2 []) (hI : Iw D A (w_Rd g a0 (tw (a1 0) (sr 0)) s0 ++ (rest)) H) (hS : va_S A s.heap H locs) (h : B_Rd_isEndMark_34  s0 = some out) : W p l e (headSpec ws_Rd_isEndMark { frames := 0, cells := 0, slots := 0, locals := 0 }).room s m args below meth c H locs 0 0 (MQ below (QcI D A g out (fun (_ : Unit) => w_Rd g a0 (tw (a1 0) (sr 0)) s0 ++ (rest))) args s 0 0 A) (F0 m 34 ls []) := by
  have X1 := X
  obtain ⟨hx, hb, hml, hown, hts, hr, hlocks, hKK⟩ := X1
  have ht : ∀ w ∈ TB, w.before args s = true := fun w h => hts w (List.mem_cons_of_mem _ h)
  have hK := hKK.1
  unfold B_Rd_isEndMark_34 at h
  refine lv_iconst (v := 1) hx hb d_Rd_isEndMark_34 (by decide) ?_
  refine lv_goto (tgt := 39) hx hb d_Rd_isEndMark_35 (by decide) ?_
  exact t_Rd_isEndMark_39 X (lv_sub hl [] rfl) hI hS h
set_option maxRecDepth 100000 in
set_option maxHeartbeats 4000000 in
theorem t_Rd_isEndMark_31 {p : Program} {l : Launch} {e : Env} {s : State} {m : MethodId} {args : Array Value} {below : List Frame} {meth : Method} {c : Code} {D : va_G} {A : Nat → Prop} {g : Nat → ClassId} {rest : va_W} {a0 : Nat → Nat} {a1 : Nat → Nat} {sr : Nat → Nat} {ls : Array Slot} {H : Heap} {locs : List Loc} {s0 : S_Rd} {y0 : Int32} {y1 : Int32} {out : Int32} (X : Cx p s m args meth c prog_7_method_8_code 2 ws_Rd_isEndMark R_Rd (some .boolean) D g) (hl : lv_has ls 2 []) (hI : Iw D A (w_Rd g a0 (tw (a1 0) (sr 0)) s0 ++ (rest)) H) (hS : va_S A s.heap H locs) (h : B_Rd_isEndMark_31  s0 y0 y1 = some out) : W p l e (headSpec ws_Rd_isEndMark { frames := 0, cells := 0, slots := 0, locals := 0 }).room s m args below meth c H locs 0 0 (MQ below (QcI D A g out (fun (_ : Unit) => w_Rd g a0 (tw (a1 0) (sr 0)) s0 ++ (rest))) args s 0 0 A) (F0 m 31 ls [.int y0, .int y1]) := by
  have X1 := X
  obtain ⟨hx, hb, hml, hown, hts, hr, hlocks, hKK⟩ := X1
  have ht : ∀ w ∈ TB, w.before args s = true := fun w h => hts w (List.mem_cons_of_mem _ h)
  have hK := hKK.1
  unfold B_Rd_isEndMark_31 at h
  refine lv_icmp_ne (tgt := 38) hx hb d_Rd_isEndMark_31 (by decide) (fun hc => ?_) (fun hc => ?_)
  · have h := it_f h hc
    exact t_Rd_isEndMark_38 X (lv_sub hl [] rfl) hI hS h
  · have h := it_t h hc
    exact t_Rd_isEndMark_34 X (lv_sub hl [] rfl) hI hS h
set_option maxRecDepth 100000 in
set_option maxHeartbeats 4000000 in
theorem t_Rd_isEndMark_28 {p : Program} {l : Launch} {e : Env} {s : State} {m : MethodId} {args : Array Value} {below : List Frame} {meth : Method} {c : Code} {D : va_G} {A : Nat → Prop} {g : Nat → ClassId} {rest : va_W} {a0 : Nat → Nat} {a1 : Nat → Nat} {sr : Nat → Nat} {ls : Array Slot} {H : Heap} {locs : List Loc} {s0 : S_Rd} {y0 : Int32} {out : Int32} (X : Cx p s m args meth c prog_7_method_8_code 2 ws_Rd_isEndMark R_Rd (some .boolean) D g) (hl : lv_has ls 2 []) (hI : Iw D A (w_Rd g a0 (tw (a1 0) (sr 0)) s0 ++ (rest)) H) (hS : va_S A s.heap H locs) (h : B_Rd_isEndMark_28  s0 y0 = some out) : W p l e (headSpec ws_Rd_isEndMark { frames := 0, cells := 0, slots := 0, locals := 0 }).room s m args below meth c H locs 0 0 (MQ below (QcI D A g out (fun (_ : Unit) => w_Rd g a0 (tw (a1 0) (sr 0)) s0 ++ (rest))) args s 0 0 A) (F0 m 28 ls [.int y0]) := by
  have X1 := X
  obtain ⟨hx, hb, hml, hown, hts, hr, hlocks, hKK⟩ := X1
  have ht : ∀ w ∈ TB, w.before args s = true := fun w h => hts w (List.mem_cons_of_mem _ h)
  have hK := hKK.1
  unfold B_Rd_isEndMark_28 at h
  refine lv_sipush (v := 252) hx hb d_Rd_isEndMark_28 (by decide) ?_
  exact t_Rd_isEndMark_31 X (lv_sub hl [] rfl) hI hS h
set_option maxRecDepth 100000 in
set_option maxHeartbeats 4000000 in
theorem t_Rd_isEndMark_22 {p : Program} {l : Launch} {e : Env} {s : State} {m : MethodId} {args : Array Value} {below : List Frame} {meth : Method} {c : Code} {D : va_G} {A : Nat → Prop} {g : Nat → ClassId} {rest : va_W} {a0 : Nat → Nat} {a1 : Nat → Nat} {sr : Nat → Nat} {ls : Array Slot} {H : Heap} {locs : List Loc} {s0 : S_Rd} {y0 : Int32} {out : Int32} (X : Cx p s m args meth c prog_7_method_8_code 2 ws_Rd_isEndMark R_Rd (some .boolean) D g) (hl : lv_has ls 2 []) (hI : Iw D A (w_Rd g a0 (tw (a1 0) (sr 0)) s0 ++ (rest)) H) (hS : va_S A s.heap H locs) (h : B_Rd_isEndMark_22  s0 y0 = some out) : W p l e (headSpec ws_Rd_isEndMark { frames := 0, cells := 0, slots := 0, locals := 0 }).room s m args below meth c H locs 0 0 (MQ below (QcI D A g out (fun (_ : Unit) => w_Rd g a0 (tw (a1 0) (sr 0)) s0 ++ (rest))) args s 0 0 A) (F0 m 22 ls [.int y0]) := by
  have X1 := X
  obtain ⟨hx, hb, hml, hown, hts, hr, hlocks, hKK⟩ := X1
  have ht : ∀ w ∈ TB, w.before args s = true := fun w h => hts w (List.mem_cons_of_mem _ h)
  have hK := hKK.1
  unfold B_Rd_isEndMark_22 at h
  refine lv_sipush (v := 253) hx hb d_Rd_isEndMark_22 (by decide) ?_
  refine lv_goto (tgt := 31) hx hb d_Rd_isEndMark_25 (by decide) ?_
  exact t_Rd_isEndMark_31 X (lv_sub hl [] rfl) hI hS h
set_option maxRecDepth 100000 in
set_option maxHeartbeats 4000000 in
theorem t_Rd_isEndMark_12 {p : Program} {l : Launch} {e : Env} {s : State} {m : MethodId} {args : Array Value} {below : List Frame} {meth : Method} {c : Code} {D : va_G} {A : Nat → Prop} {g : Nat → ClassId} {rest : va_W} {a0 : Nat → Nat} {a1 : Nat → Nat} {sr : Nat → Nat} {ls : Array Slot} {H : Heap} {locs : List Loc} {s0 : S_Rd} {x1 : Int32} {out : Int32} (X : Cx p s m args meth c prog_7_method_8_code 2 ws_Rd_isEndMark R_Rd (some .boolean) D g) (hl : lv_has ls 2 [(0, .ref (a0 0)), (1, .int x1)]) (hI : Iw D A (w_Rd g a0 (tw (a1 0) (sr 0)) s0 ++ (rest)) H) (hS : va_S A s.heap H locs) (h : B_Rd_isEndMark_12  s0 x1 = some out) : W p l e (headSpec ws_Rd_isEndMark { frames := 0, cells := 0, slots := 0, locals := 0 }).room s m args below meth c H locs 0 0 (MQ below (QcI D A g out (fun (_ : Unit) => w_Rd g a0 (tw (a1 0) (sr 0)) s0 ++ (rest))) args s 0 0 A) (F0 m 12 ls []) := by
  have X1 := X
  obtain ⟨hx, hb, hml, hown, hts, hr, hlocks, hKK⟩ := X1
  have ht : ∀ w ∈ TB, w.before args s = true := fun w h => hts w (List.mem_cons_of_mem _ h)
  have hK := hKK.1
  unfold B_Rd_isEndMark_12 at h
  refine lv_iload_n hx hb d_Rd_isEndMark_12 rfl (lv_at hl 1 rfl) ?_
  refine lv_aload_n hx hb d_Rd_isEndMark_13 rfl (lv_at hl 0 rfl) ?_
  refine va_get (D := D) (ci := 5) (v := .int (Rd_level s0)) (C := R_Rd) (T := T_Rd) (N := 11) hx hb ht in_Rd hown hK hI.1 0 rfl rfl 9 (by decide) (ht _ m_167) (fun _ h9 => h9) rfl d_Rd_isEndMark_14 ?_
  refine lv_iconst (v := 2) hx hb d_Rd_isEndMark_17 (by decide) ?_
  refine lv_irem hx hb d_Rd_isEndMark_18 (by decide) ?_
  refine lv_if_ne (tgt := 28) hx hb d_Rd_isEndMark_19 (by decide) (fun hc => ?_) (fun hc => ?_)
  · have h := it_f h hc
    exact t_Rd_isEndMark_28 X (lv_sub hl [] rfl) hI hS h
  · have h := it_t h hc
    exact t_Rd_isEndMark_22 X (lv_sub hl [] rfl) hI hS h
set_option maxRecDepth 100000 in
set_option maxHeartbeats 4000000 in
theorem t_Rd_isEndMark_0 {p : Program} {l : Launch} {e : Env} {s : State} {m : MethodId} {args : Array Value} {below : List Frame} {meth : Method} {c : Code} {D : va_G} {A : Nat → Prop} {g : Nat → ClassId} {rest : va_W} {a0 : Nat → Nat} {a1 : Nat → Nat} {sr : Nat → Nat} {ls : Array Slot} {H : Heap} {locs : List Loc} {s0 : S_Rd} {x1 : Int32} {out : Int32} (X : Cx p s m args meth c prog_7_method_8_code 2 ws_Rd_isEndMark R_Rd (some .boolean) D g) (hl : lv_has ls 2 [(0, .ref (a0 0)), (1, .int x1)]) (hI : Iw D A (w_Rd g a0 (tw (a1 0) (sr 0)) s0 ++ (rest)) H) (hS : va_S A s.heap H locs) (h : B_Rd_isEndMark_0  s0 x1 = some out) : W p l e (headSpec ws_Rd_isEndMark { frames := 0, cells := 0, slots := 0, locals := 0 }).room s m args below meth c H locs 0 0 (MQ below (QcI D A g out (fun (_ : Unit) => w_Rd g a0 (tw (a1 0) (sr 0)) s0 ++ (rest))) args s 0 0 A) (F0 m 0 ls []) := by
  have X1 := X
  obtain ⟨hx, hb, hml, hown, hts, hr, hlocks, hKK⟩ := X1
  have ht : ∀ w ∈ TB, w.before args s = true := fun w h => hts w (List.mem_cons_of_mem _ h)
  have hK := hKK.1
  unfold B_Rd_isEndMark_0 at h
  refine lv_aload_n hx hb d_Rd_isEndMark_0 rfl (lv_at hl 0 rfl) ?_
  refine va_get (D := D) (ci := 5) (v := .ref (a0 3)) (C := R_Rd) (T := T_Rd) (N := 11) hx hb ht in_Rd hown hK hI.1 0 rfl rfl 3 (by decide) (ht _ m_161) (fun _ h9 => h9) rfl d_Rd_isEndMark_1 ?_
  refine lv_aload_n hx hb d_Rd_isEndMark_4 rfl (lv_at hl 0 rfl) ?_
  refine va_get (D := D) (ci := 5) (v := .int (Rd_level s0)) (C := R_Rd) (T := T_Rd) (N := 11) hx hb ht in_Rd hown hK hI.1 0 rfl rfl 9 (by decide) (ht _ m_167) (fun _ h9 => h9) rfl d_Rd_isEndMark_5 ?_
  by_cases hc1 : ((Rd_level s0) < 0 ∨ 5 ≤ (Rd_level s0).toNatClampNeg)
  · exact no_s (it_t h hc1)
  have h := it_f h hc1
  refine va_zald hx hb hK hI.1 3 1 rfl rfl hc1 d_Rd_isEndMark_8 ?_
  refine lv_if_eq (tgt := 38) hx hb d_Rd_isEndMark_9 (by decide) (fun hc => ?_) (fun hc => ?_)
  · have h := it_t h hc
    exact t_Rd_isEndMark_38 X (lv_sub hl [] rfl) hI hS h
  · have h := it_f h hc
    exact t_Rd_isEndMark_12 X (lv_sub hl [0, 1] rfl) hI hS h
set_option maxRecDepth 100000 in
set_option maxHeartbeats 4000000 in
theorem c_Rd_isEndMark {l : Launch} {D : va_G} {A : Nat → Prop} {g : Nat → ClassId} {rest : va_W} {a0 : Nat → Nat} {a1 : Nat → Nat} {sr : Nat → Nat} {s0 : S_Rd} {x1 : Int32} {out : Int32} (h : F_Rd_isEndMark s0 x1 = some out) : Met l y_Rd_isEndMark ws_Rd_isEndMark { frames := 0, cells := 0, slots := 0, locals := 0 } (PcW D A g [.ref (a0 0), .int x1] (w_Rd g a0 (tw (a1 0) (sr 0)) s0 ++ (rest))) (QcI D A g out (fun (_ : Unit) => w_Rd g a0 (tw (a1 0) (sr 0)) s0 ++ (rest))) 0 0 A := by
  refine Met.ofW (cc := prog_7_method_8_code) (maxL := 2) (ret := (some .boolean)) (by decide) rfl ?_
  intro p e s m args below meth c s₁ B hml hv
  obtain ⟨rfl, hI, hK⟩ := hv
  have hl := lv_entry [.ref (a0 0), .int x1] (n := 2) (Nat.le_of_ble_eq_true rfl)
  rw [lg_entry_eq]
  generalize (lg_sl [.ref (a0 0), .int x1] ++ List.replicate (2 - (lg_sl [.ref (a0 0), .int x1]).length) Slot.unset).toArray = ls at hl ⊢
  have hl : lv_has ls 2 [(0, .ref (a0 0)), (1, .int x1)] := hl
  exact t_Rd_isEndMark_0 ⟨B.exec, B.bytes, hml, findClass_of_methodNamed B.named, atoms_spec (ws := ws_Rd_isEndMark) B.pre, B.returns, B.notSynchronized, hK⟩ (lv_sub hl [0, 1] rfl) hI va_S.rf h
def ws_Rd_endOf : List Cond := .code y_Rd_endOf prog_7_method_11_code 2 (some .int) :: TB
def B_Rd_endOf_25 (s0 : S_Rd) (y0 : Int32) : Option Int32 :=
  some y0
def B_Rd_endOf_19 (s0 : S_Rd) (x1 : Int32) : Option Int32 :=
  (B_Rd_endOf_25 s0 ((Rd_position s0) + x1))
def B_Rd_endOf_7 (s0 : S_Rd) : Option Int32 :=
  (if ((Rd_level s0) < 0 ∨ 5 ≤ (Rd_level s0).toNatClampNeg) then none else (B_Rd_endOf_25 s0 ((Rd_ends s0) (Rd_level s0).toNatClampNeg)))
def B_Rd_endOf_0 (s0 : S_Rd) (x1 : Int32) : Option Int32 :=
  (if x1 = (255 : Int32) then (B_Rd_endOf_7 s0) else (B_Rd_endOf_19 s0 x1))
def F_Rd_endOf (s0 : S_Rd) (x1 : Int32) : Option Int32 := B_Rd_endOf_0 s0 x1
set_option maxRecDepth 100000 in
set_option maxHeartbeats 4000000 in
theorem t_Rd_endOf_25 {p : Program} {l : Launch} {e : Env} {s : State} {m : MethodId} {args : Array Value} {below : List Frame} {meth : Method} {c : Code} {D : va_G} {A : Nat → Prop} {g : Nat → ClassId} {rest : va_W} {a0 : Nat → Nat} {a1 : Nat → Nat} {sr : Nat → Nat} {ls : Array Slot} {H : Heap} {locs : List Loc} {s0 : S_Rd} {y0 : Int32} {out : Int32} (X : Cx p s m args meth c prog_7_method_11_code 2 ws_Rd_endOf R_Rd (some .int) D g) (hl : lv_has ls 2 []) (hI : Iw D A (w_Rd g a0 (tw (a1 0) (sr 0)) s0 ++ (rest)) H) (hS : va_S A s.heap H locs) (h : B_Rd_endOf_25  s0 y0 = some out) : W p l e (headSpec ws_Rd_endOf { frames := 0, cells := 0, slots := 0, locals := 0 }).room s m args below meth c H locs 0 0 (MQ below (QcI D A g out (fun (_ : Unit) => w_Rd g a0 (tw (a1 0) (sr 0)) s0 ++ (rest))) args s 0 0 A) (F0 m 25 ls [.int y0]) := by
  have X1 := X
  obtain ⟨hx, hb, hml, hown, hts, hr, hlocks, hKK⟩ := X1
  have ht : ∀ w ∈ TB, w.before args s = true := fun w h => hts w (List.mem_cons_of_mem _ h)
  have hK := hKK.1
  unfold B_Rd_endOf_25 at h
  have h9 := Option.some.inj h
  subst h9
  exact W.iret (v := y0) hx hb hr (fun t ht hW => ⟨⟨_, (), rfl, rfl, ⟨by rw [ht]; exact hI, hKK.moved hW⟩⟩, hS.F ht⟩) hS.2.2 d_Rd_endOf_25
set_option maxRecDepth 100000 in
set_option maxHeartbeats 4000000 in
theorem t_Rd_endOf_19 {p : Program} {l : Launch} {e : Env} {s : State} {m : MethodId} {args : Array Value} {below : List Frame} {meth : Method} {c : Code} {D : va_G} {A : Nat → Prop} {g : Nat → ClassId} {rest : va_W} {a0 : Nat → Nat} {a1 : Nat → Nat} {sr : Nat → Nat} {ls : Array Slot} {H : Heap} {locs : List Loc} {s0 : S_Rd} {x1 : Int32} {out : Int32} (X : Cx p s m args meth c prog_7_method_11_code 2 ws_Rd_endOf R_Rd (some .int) D g) (hl : lv_has ls 2 [(0, .ref (a0 0)), (1, .int x1)]) (hI : Iw D A (w_Rd g a0 (tw (a1 0) (sr 0)) s0 ++ (rest)) H) (hS : va_S A s.heap H locs) (h : B_Rd_endOf_19  s0 x1 = some out) : W p l e (headSpec ws_Rd_endOf { frames := 0, cells := 0, slots := 0, locals := 0 }).room s m args below meth c H locs 0 0 (MQ below (QcI D A g out (fun (_ : Unit) => w_Rd g a0 (tw (a1 0) (sr 0)) s0 ++ (rest))) args s 0 0 A) (F0 m 19 ls []) := by
  have X1 := X
  obtain ⟨hx, hb, hml, hown, hts, hr, hlocks, hKK⟩ := X1
  have ht : ∀ w ∈ TB, w.before args s = true := fun w h => hts w (List.mem_cons_of_mem _ h)
  have hK := hKK.1
  unfold B_Rd_endOf_19 at h
  refine lv_aload_n hx hb d_Rd_endOf_19 rfl (lv_at hl 0 rfl) ?_
  refine va_get (D := D) (ci := 5) (v := .int (Rd_position s0)) (C := R_Rd) (T := T_Rd) (N := 11) hx hb ht in_Rd hown hK hI.1 0 rfl rfl 8 (by decide) (ht _ m_166) (fun _ h9 => h9) rfl d_Rd_endOf_20 ?_
  refine lv_iload_n hx hb d_Rd_endOf_23 rfl (lv_at hl 1 rfl) ?_
  refine lv_iadd hx hb d_Rd_endOf_24 ?_
  exact t_Rd_endOf_25 X (lv_sub hl [] rfl) hI hS h
set_option maxRecDepth 100000 in
set_option maxHeartbeats 4000000 in
theorem t_Rd_endOf_7 {p : Program} {l : Launch} {e : Env} {s : State} {m : MethodId} {args : Array Value} {below : List Frame} {meth : Method} {c : Code} {D : va_G} {A : Nat → Prop} {g : Nat → ClassId} {rest : va_W} {a0 : Nat → Nat} {a1 : Nat → Nat} {sr : Nat → Nat} {ls : Array Slot} {H : Heap} {locs : List Loc} {s0 : S_Rd} {out : Int32} (X : Cx p s m args meth c prog_7_method_11_code 2 ws_Rd_endOf R_Rd (some .int) D g) (hl : lv_has ls 2 [(0, .ref (a0 0))]) (hI : Iw D A (w_Rd g a0 (tw (a1 0) (sr 0)) s0 ++ (rest)) H) (hS : va_S A s.heap H locs) (h : B_Rd_endOf_7  s0 = some out) : W p l e (headSpec ws_Rd_endOf { frames := 0, cells := 0, slots := 0, locals := 0 }).room s m args below meth c H locs 0 0 (MQ below (QcI D A g out (fun (_ : Unit) => w_Rd g a0 (tw (a1 0) (sr 0)) s0 ++ (rest))) args s 0 0 A) (F0 m 7 ls []) := by
  have X1 := X
  obtain ⟨hx, hb, hml, hown, hts, hr, hlocks, hKK⟩ := X1
  have ht : ∀ w ∈ TB, w.before args s = true := fun w h => hts w (List.mem_cons_of_mem _ h)
  have hK := hKK.1
  unfold B_Rd_endOf_7 at h
  refine lv_aload_n hx hb d_Rd_endOf_7 rfl (lv_at hl 0 rfl) ?_
  refine va_get (D := D) (ci := 5) (v := .ref (a0 2)) (C := R_Rd) (T := T_Rd) (N := 11) hx hb ht in_Rd hown hK hI.1 0 rfl rfl 2 (by decide) (ht _ m_160) (fun _ h9 => h9) rfl d_Rd_endOf_8 ?_
  refine lv_aload_n hx hb d_Rd_endOf_11 rfl (lv_at hl 0 rfl) ?_
  refine va_get (D := D) (ci := 5) (v := .int (Rd_level s0)) (C := R_Rd) (T := T_Rd) (N := 11) hx hb ht in_Rd hown hK hI.1 0 rfl rfl 9 (by decide) (ht _ m_167) (fun _ h9 => h9) rfl d_Rd_endOf_12 ?_
  by_cases hc1 : ((Rd_level s0) < 0 ∨ 5 ≤ (Rd_level s0).toNatClampNeg)
  · exact no_s (it_t h hc1)
  have h := it_f h hc1
  refine va_iald hx hb hK hI.1 2 0 rfl rfl hc1 d_Rd_endOf_15 ?_
  refine lv_goto (tgt := 25) hx hb d_Rd_endOf_16 (by decide) ?_
  exact t_Rd_endOf_25 X (lv_sub hl [] rfl) hI hS h
set_option maxRecDepth 100000 in
set_option maxHeartbeats 4000000 in
theorem t_Rd_endOf_0 {p : Program} {l : Launch} {e : Env} {s : State} {m : MethodId} {args : Array Value} {below : List Frame} {meth : Method} {c : Code} {D : va_G} {A : Nat → Prop} {g : Nat → ClassId} {rest : va_W} {a0 : Nat → Nat} {a1 : Nat → Nat} {sr : Nat → Nat} {ls : Array Slot} {H : Heap} {locs : List Loc} {s0 : S_Rd} {x1 : Int32} {out : Int32} (X : Cx p s m args meth c prog_7_method_11_code 2 ws_Rd_endOf R_Rd (some .int) D g) (hl : lv_has ls 2 [(0, .ref (a0 0)), (1, .int x1)]) (hI : Iw D A (w_Rd g a0 (tw (a1 0) (sr 0)) s0 ++ (rest)) H) (hS : va_S A s.heap H locs) (h : B_Rd_endOf_0  s0 x1 = some out) : W p l e (headSpec ws_Rd_endOf { frames := 0, cells := 0, slots := 0, locals := 0 }).room s m args below meth c H locs 0 0 (MQ below (QcI D A g out (fun (_ : Unit) => w_Rd g a0 (tw (a1 0) (sr 0)) s0 ++ (rest))) args s 0 0 A) (F0 m 0 ls []) := by
  have X1 := X
  obtain ⟨hx, hb, hml, hown, hts, hr, hlocks, hKK⟩ := X1
  have ht : ∀ w ∈ TB, w.before args s = true := fun w h => hts w (List.mem_cons_of_mem _ h)
  have hK := hKK.1
  unfold B_Rd_endOf_0 at h
  refine lv_iload_n hx hb d_Rd_endOf_0 rfl (lv_at hl 1 rfl) ?_
  refine lv_sipush (v := 255) hx hb d_Rd_endOf_1 (by decide) ?_
  refine lv_icmp_ne (tgt := 19) hx hb d_Rd_endOf_4 (by decide) (fun hc => ?_) (fun hc => ?_)
  · have h := it_f h hc
    exact t_Rd_endOf_19 X (lv_sub hl [0, 1] rfl) hI hS h
  · have h := it_t h hc
    exact t_Rd_endOf_7 X (lv_sub hl [0] rfl) hI hS h
set_option maxRecDepth 100000 in
set_option maxHeartbeats 4000000 in
theorem c_Rd_endOf {l : Launch} {D : va_G} {A : Nat → Prop} {g : Nat → ClassId} {rest : va_W} {a0 : Nat → Nat} {a1 : Nat → Nat} {sr : Nat → Nat} {s0 : S_Rd} {x1 : Int32} {out : Int32} (h : F_Rd_endOf s0 x1 = some out) : Met l y_Rd_endOf ws_Rd_endOf { frames := 0, cells := 0, slots := 0, locals := 0 } (PcW D A g [.ref (a0 0), .int x1] (w_Rd g a0 (tw (a1 0) (sr 0)) s0 ++ (rest))) (QcI D A g out (fun (_ : Unit) => w_Rd g a0 (tw (a1 0) (sr 0)) s0 ++ (rest))) 0 0 A := by
  refine Met.ofW (cc := prog_7_method_11_code) (maxL := 2) (ret := (some .int)) (by decide) rfl ?_
  intro p e s m args below meth c s₁ B hml hv
  obtain ⟨rfl, hI, hK⟩ := hv
  have hl := lv_entry [.ref (a0 0), .int x1] (n := 2) (Nat.le_of_ble_eq_true rfl)
  rw [lg_entry_eq]
  generalize (lg_sl [.ref (a0 0), .int x1] ++ List.replicate (2 - (lg_sl [.ref (a0 0), .int x1]).length) Slot.unset).toArray = ls at hl ⊢
  have hl : lv_has ls 2 [(0, .ref (a0 0)), (1, .int x1)] := hl
  exact t_Rd_endOf_0 ⟨B.exec, B.bytes, hml, findClass_of_methodNamed B.named, atoms_spec (ws := ws_Rd_endOf) B.pre, B.returns, B.notSynchronized, hK⟩ (lv_sub hl [0, 1] rfl) hI va_S.rf h
def ws_Rd_readKind : List Cond := .code y_Rd_readKind prog_7_method_12_code 2 (some .boolean) :: TB
def B_Rd_readKind_68 (s1 : S_Bs) (s0 : S_Rd) : Option (Int32 × S_Rd) :=
  some ((1 : Int32), (Rd_set_position s0 ((Rd_position s0) + (1 : Int32))))
def B_Rd_readKind_57 (s1 : S_Bs) (s0 : S_Rd) : Option (Int32 × S_Rd) :=
  ((F_Rd_fail s0 (3 : Int32) (Rd_position s0)).bind fun o1 => some ((0 : Int32), o1))
def B_Rd_readKind_42 (s1 : S_Bs) (s0 : S_Rd) (x1 : Int32) : Option (Int32 × S_Rd) :=
  ((F_Bs_get s1 (Rd_position s0)).bind fun o1 => (if o1 = x1 then (B_Rd_readKind_68 s1 s0) else (B_Rd_readKind_57 s1 s0)))
def B_Rd_readKind_26 (s1 : S_Bs) (s0 : S_Rd) : Option (Int32 × S_Rd) :=
  (if ((Rd_level s0) < 0 ∨ 5 ≤ (Rd_level s0).toNatClampNeg) then none else ((F_Rd_fail s0 (1 : Int32) ((Rd_ends s0) (Rd_level s0).toNatClampNeg)).bind fun o2 => some ((0 : Int32), o2)))
def B_Rd_readKind_10 (s1 : S_Bs) (s0 : S_Rd) (x1 : Int32) : Option (Int32 × S_Rd) :=
  (if ((Rd_level s0) < 0 ∨ 5 ≤ (Rd_level s0).toNatClampNeg) then none else (if (Rd_position s0) < ((Rd_ends s0) (Rd_level s0).toNatClampNeg) then (B_Rd_readKind_42 s1 s0 x1) else (B_Rd_readKind_26 s1 s0)))
def B_Rd_readKind_8 (s1 : S_Bs) (s0 : S_Rd) : Option (Int32 × S_Rd) :=
  some ((1 : Int32), s0)
def B_Rd_readKind_0 (s1 : S_Bs) (s0 : S_Rd) (x1 : Int32) : Option (Int32 × S_Rd) :=
  (if (Rd_syntax s0) = (1 : Int32) then (B_Rd_readKind_8 s1 s0) else (B_Rd_readKind_10 s1 s0 x1))
def F_Rd_readKind (s0 : S_Rd) (s1 : S_Bs) (x1 : Int32) : Option (Int32 × S_Rd) := B_Rd_readKind_0 s1 s0 x1
set_option maxRecDepth 100000 in
set_option maxHeartbeats 4000000 in
theorem t_Rd_readKind_68 {p : Program} {l : Launch} {e : Env} {s : State} {m : MethodId} {args : Array Value} {below : List Frame} {meth : Method} {c : Code} {D : va_G} {A : Nat → Prop} {g : Nat → ClassId} {rest : va_W} {a0 : Nat → Nat} {sr : Nat → Nat} {a2 : Nat → Nat} {ls : Array Slot} {H : Heap} {locs : List Loc} {s1 : S_Bs} {s0 : S_Rd} {out : Int32 × S_Rd} (X : Cx p s m args meth c prog_7_method_12_code 2 ws_Rd_readKind R_Rd (some .boolean) D g) (hl : lv_has ls 2 [(0, .ref (a0 0))]) (hI : Iw D A (w_Rd g a0 (tw (a2 0) (sr 0)) s0 ++ (w_Bs g sr s1 ++ (rest))) H) (hS : va_S A s.heap H locs) (h : B_Rd_readKind_68  s1 s0 = some out) : W p l e (headSpec ws_Rd_readKind { frames := 1, cells := 0, slots := 0, locals := 22 }).room s m args below meth c H locs 0 0 (MQ below (QcI D A g out.1 (fun (_ : Unit) => w_Rd g a0 (tw (a2 0) (sr 0)) out.2 ++ (w_Bs g sr s1 ++ (rest)))) args s 0 0 A) (F0 m 68 ls []) := by
  have X1 := X
  obtain ⟨hx, hb, hml, hown, hts, hr, hlocks, hKK⟩ := X1
  have ht : ∀ w ∈ TB, w.before args s = true := fun w h => hts w (List.mem_cons_of_mem _ h)
  have hK := hKK.1
  unfold B_Rd_readKind_68 at h
  refine lv_aload_n hx hb d_Rd_readKind_68 rfl (lv_at hl 0 rfl) ?_
  refine lv_dup hx hb d_Rd_readKind_69 rfl ?_
  refine va_get (D := D) (ci := 5) (v := .int (Rd_position s0)) (C := R_Rd) (T := T_Rd) (N := 11) hx hb ht in_Rd hown hK hI.1 0 rfl rfl 8 (by decide) (ht _ m_166) (fun _ h9 => h9) rfl d_Rd_readKind_70 ?_
  refine lv_iconst (v := 1) hx hb d_Rd_readKind_73 (by decide) ?_
  refine lv_iadd hx hb d_Rd_readKind_74 ?_
  refine va_put (D := D) (ci := 5) (v := .int ((Rd_position s0) + (1 : Int32))) (ty := .int) (C := R_Rd) (T := T_Rd) (N := 11) hx hb ht in_Rd ty_Rd tyok_Rd nm_Rd hown hK hI.1 hI.2 hS 0 rfl rfl 8 (by decide) (ht _ m_166) (fun _ h9 => h9) rfl (by decide +kernel) rfl rfl (Nat.le_of_ble_eq_true rfl) d_Rd_readKind_75 (fun H locs hP hD hS => ?_)
  have hI : Iw D A (w_Rd g a0 (tw (a2 0) (sr 0)) (Rd_set_position s0 ((Rd_position s0) + (1 : Int32))) ++ (w_Bs g sr s1 ++ (rest))) H := ⟨hP, hD⟩
  refine lv_iconst (v := 1) hx hb d_Rd_readKind_78 (by decide) ?_
  have h9 := Option.some.inj h
  subst h9
  exact W.zret (v := (1 : Int32)) hx hb hr rfl (fun t ht hW => ⟨⟨_, (), rfl, rfl, ⟨by rw [ht]; exact hI, hKK.moved hW⟩⟩, hS.F ht⟩) hS.2.2 d_Rd_readKind_79
set_option maxRecDepth 100000 in
set_option maxHeartbeats 4000000 in
theorem t_Rd_readKind_57 {p : Program} {l : Launch} {e : Env} {s : State} {m : MethodId} {args : Array Value} {below : List Frame} {meth : Method} {c : Code} {D : va_G} {A : Nat → Prop} {g : Nat → ClassId} {rest : va_W} {a0 : Nat → Nat} {sr : Nat → Nat} {a2 : Nat → Nat} {ls : Array Slot} {H : Heap} {locs : List Loc} {s1 : S_Bs} {s0 : S_Rd} {out : Int32 × S_Rd} (X : Cx p s m args meth c prog_7_method_12_code 2 ws_Rd_readKind R_Rd (some .boolean) D g) (hl : lv_has ls 2 [(0, .ref (a0 0))]) (hI : Iw D A (w_Rd g a0 (tw (a2 0) (sr 0)) s0 ++ (w_Bs g sr s1 ++ (rest))) H) (hS : va_S A s.heap H locs) (h : B_Rd_readKind_57  s1 s0 = some out) : W p l e (headSpec ws_Rd_readKind { frames := 1, cells := 0, slots := 0, locals := 22 }).room s m args below meth c H locs 0 0 (MQ below (QcI D A g out.1 (fun (_ : Unit) => w_Rd g a0 (tw (a2 0) (sr 0)) out.2 ++ (w_Bs g sr s1 ++ (rest)))) args s 0 0 A) (F0 m 57 ls []) := by
  have X1 := X
  obtain ⟨hx, hb, hml, hown, hts, hr, hlocks, hKK⟩ := X1
  have ht : ∀ w ∈ TB, w.before args s = true := fun w h => hts w (List.mem_cons_of_mem _ h)
  have hK := hKK.1
  unfold B_Rd_readKind_57 at h
  refine lv_aload_n hx hb d_Rd_readKind_57 rfl (lv_at hl 0 rfl) ?_
  refine lv_iconst (v := 3) hx hb d_Rd_readKind_58 (by decide) ?_
  refine lv_aload_n hx hb d_Rd_readKind_59 rfl (lv_at hl 0 rfl) ?_
  refine va_get (D := D) (ci := 5) (v := .int (Rd_position s0)) (C := R_Rd) (T := T_Rd) (N := 11) hx hb ht in_Rd hown hK hI.1 0 rfl rfl 8 (by decide) (ht _ m_166) (fun _ h9 => h9) rfl d_Rd_readKind_60 ?_
  obtain ⟨o1, ho2, h⟩ := bd_s h
  refine cl_v (W1 := fun (_ : Unit) => w_Rd g a0 (tw (a2 0) (sr 0)) o1 ++ (w_Bs g sr s1 ++ (rest))) (va_runV (As := [.int (3 : Int32), .int (Rd_position s0)]) (rest := []) ⟨hx, hb, hml, hown, ht⟩ (c_Rd_fail (l := l) (D := D) (A := A) (g := g) (rest := w_Bs g sr s1 ++ (rest)) (a0 := a0) (a1 := a2) (sr := sr) ho2) (cwV 2 ht (gd_V m_433 m_435 mp_16 m_8 m_436) rfl rfl rfl (by decide +kernel) ⟨(Nat.le_of_ble_eq_true rfl), (Nat.le_of_ble_eq_true rfl)⟩) (prV (ci := 5) (q0 := 0) hKK hI (List.Perm.refl _) rfl rfl rfl) rfl rfl hl.1 rfl (lv_room (Nat.le_of_ble_eq_true rfl)) d_Rd_readKind_63 ⟨(Nat.le_of_ble_eq_true rfl), (Nat.le_of_ble_eq_true rfl)⟩) hS (fun _ => ((List.Perm.refl _)).symm) (fun _ H locs hI hS => ?_)
  have hI : Iw D A (w_Rd g a0 (tw (a2 0) (sr 0)) o1 ++ (w_Bs g sr s1 ++ (rest))) H := hI
  refine lv_iconst (v := 0) hx hb d_Rd_readKind_66 (by decide) ?_
  have h9 := Option.some.inj h
  subst h9
  exact W.zret (v := (0 : Int32)) hx hb hr rfl (fun t ht hW => ⟨⟨_, (), rfl, rfl, ⟨by rw [ht]; exact hI, hKK.moved hW⟩⟩, hS.F ht⟩) hS.2.2 d_Rd_readKind_67
set_option maxRecDepth 100000 in
set_option maxHeartbeats 4000000 in
theorem t_Rd_readKind_42 {p : Program} {l : Launch} {e : Env} {s : State} {m : MethodId} {args : Array Value} {below : List Frame} {meth : Method} {c : Code} {D : va_G} {A : Nat → Prop} {g : Nat → ClassId} {rest : va_W} {a0 : Nat → Nat} {sr : Nat → Nat} {a2 : Nat → Nat} {ls : Array Slot} {H : Heap} {locs : List Loc} {s1 : S_Bs} {s0 : S_Rd} {x1 : Int32} {out : Int32 × S_Rd} (X : Cx p s m args meth c prog_7_method_12_code 2 ws_Rd_readKind R_Rd (some .boolean) D g) (hl : lv_has ls 2 [(0, .ref (a0 0)), (1, .int x1)]) (hI : Iw D A (w_Rd g a0 (tw (a2 0) (sr 0)) s0 ++ (w_Bs g sr s1 ++ (rest))) H) (hS : va_S A s.heap H locs) (h : B_Rd_readKind_42  s1 s0 x1 = some out) : W p l e (headSpec ws_Rd_readKind { frames := 1, cells := 0, slots := 0, locals := 22 }).room s m args below meth c H locs 0 0 (MQ below (QcI D A g out.1 (fun (_ : Unit) => w_Rd g a0 (tw (a2 0) (sr 0)) out.2 ++ (w_Bs g sr s1 ++ (rest)))) args s 0 0 A) (F0 m 42 ls []) := by
  have X1 := X
  obtain ⟨hx, hb, hml, hown, hts, hr, hlocks, hKK⟩ := X1
  have ht : ∀ w ∈ TB, w.before args s = true := fun w h => hts w (List.mem_cons_of_mem _ h)
  have hK := hKK.1
  unfold B_Rd_readKind_42 at h
  refine lv_aload_n hx hb d_Rd_readKind_42 rfl (lv_at hl 0 rfl) ?_
  refine va_get (D := D) (ci := 5) (v := .ref (sr 0)) (C := R_Rd) (T := T_Rd) (N := 11) hx hb ht in_Rd hown hK hI.1 0 rfl rfl 6 (by decide) (ht _ m_164) (fun _ h9 => h9) rfl d_Rd_readKind_43 ?_
  refine lv_aload_n hx hb d_Rd_readKind_46 rfl (lv_at hl 0 rfl) ?_
  refine va_get (D := D) (ci := 5) (v := .int (Rd_position s0)) (C := R_Rd) (T := T_Rd) (N := 11) hx hb ht in_Rd hown hK hI.1 0 rfl rfl 8 (by decide) (ht _ m_166) (fun _ h9 => h9) rfl d_Rd_readKind_47 ?_
  obtain ⟨o1, ho2, h⟩ := bd_s h
  refine cl_i (W1 := fun (_ : Unit) => w_Rd g a0 (tw (a2 0) (sr 0)) s0 ++ (w_Bs g sr s1 ++ (rest))) (va_runV (As := [.int (Rd_position s0)]) (rest := []) ⟨hx, hb, hml, hown, ht⟩ (c_Bs_get (l := l) (D := D) (A := A) (g := g) (rest := w_Rd g a0 (tw (a2 0) (sr 0)) s0 ++ (rest)) (a0 := sr) ho2) (cwV 1 ht (gd_V m_445 m_307 m_308 m_2 m_309) rfl rfl rfl (by decide +kernel) ⟨(Nat.le_of_ble_eq_true rfl), (Nat.le_of_ble_eq_true rfl)⟩) (prV (ci := 0) (q0 := 0) hKK hI (mv_1) rfl rfl rfl) rfl rfl hl.1 rfl (lv_room (Nat.le_of_ble_eq_true rfl)) d_Rd_readKind_50 ⟨(Nat.le_of_ble_eq_true rfl), (Nat.le_of_ble_eq_true rfl)⟩) hS (fun _ => ((mv_1)).symm) (fun _ H locs hI hS => ?_)
  have hI : Iw D A (w_Rd g a0 (tw (a2 0) (sr 0)) s0 ++ (w_Bs g sr s1 ++ (rest))) H := hI
  refine lv_iload_n hx hb d_Rd_readKind_53 rfl (lv_at hl 1 rfl) ?_
  refine lv_icmp_eq (tgt := 68) hx hb d_Rd_readKind_54 (by decide) (fun hc => ?_) (fun hc => ?_)
  · have h := it_t h hc
    exact t_Rd_readKind_68 X (lv_sub hl [0] rfl) hI hS h
  · have h := it_f h hc
    exact t_Rd_readKind_57 X (lv_sub hl [0] rfl) hI hS h
set_option maxRecDepth 100000 in
set_option maxHeartbeats 4000000 in
theorem t_Rd_readKind_26 {p : Program} {l : Launch} {e : Env} {s : State} {m : MethodId} {args : Array Value} {below : List Frame} {meth : Method} {c : Code} {D : va_G} {A : Nat → Prop} {g : Nat → ClassId} {rest : va_W} {a0 : Nat → Nat} {sr : Nat → Nat} {a2 : Nat → Nat} {ls : Array Slot} {H : Heap} {locs : List Loc} {s1 : S_Bs} {s0 : S_Rd} {out : Int32 × S_Rd} (X : Cx p s m args meth c prog_7_method_12_code 2 ws_Rd_readKind R_Rd (some .boolean) D g) (hl : lv_has ls 2 [(0, .ref (a0 0))]) (hI : Iw D A (w_Rd g a0 (tw (a2 0) (sr 0)) s0 ++ (w_Bs g sr s1 ++ (rest))) H) (hS : va_S A s.heap H locs) (h : B_Rd_readKind_26  s1 s0 = some out) : W p l e (headSpec ws_Rd_readKind { frames := 1, cells := 0, slots := 0, locals := 22 }).room s m args below meth c H locs 0 0 (MQ below (QcI D A g out.1 (fun (_ : Unit) => w_Rd g a0 (tw (a2 0) (sr 0)) out.2 ++ (w_Bs g sr s1 ++ (rest)))) args s 0 0 A) (F0 m 26 ls []) := by
  have X1 := X
  obtain ⟨hx, hb, hml, hown, hts, hr, hlocks, hKK⟩ := X1
  have ht : ∀ w ∈ TB, w.before args s = true := fun w h => hts w (List.mem_cons_of_mem _ h)
  have hK := hKK.1
  unfold B_Rd_readKind_26 at h
  refine lv_aload_n hx hb d_Rd_readKind_26 rfl (lv_at hl 0 rfl) ?_
  refine lv_iconst (v := 1) hx hb d_Rd_readKind_27 (by decide) ?_
  refine lv_aload_n hx hb d_Rd_readKind_28 rfl (lv_at hl 0 rfl) ?_
  refine va_get (D := D) (ci := 5) (v := .ref (a0 2)) (C := R_Rd) (T := T_Rd) (N := 11) hx hb ht in_Rd hown hK hI.1 0 rfl rfl 2 (by decide) (ht _ m_160) (fun _ h9 => h9) rfl d_Rd_readKind_29 ?_
  refine lv_aload_n hx hb d_Rd_readKind_32 rfl (lv_at hl 0 rfl) ?_
  refine va_get (D := D) (ci := 5) (v := .int (Rd_level s0)) (C := R_Rd) (T := T_Rd) (N := 11) hx hb ht in_Rd hown hK hI.1 0 rfl rfl 9 (by decide) (ht _ m_167) (fun _ h9 => h9) rfl d_Rd_readKind_33 ?_
  by_cases hc1 : ((Rd_level s0) < 0 ∨ 5 ≤ (Rd_level s0).toNatClampNeg)
  · exact no_s (it_t h hc1)
  have h := it_f h hc1
  refine va_iald hx hb hK hI.1 2 0 rfl rfl hc1 d_Rd_readKind_36 ?_
  obtain ⟨o2, ho3, h⟩ := bd_s h
  refine cl_v (W1 := fun (_ : Unit) => w_Rd g a0 (tw (a2 0) (sr 0)) o2 ++ (w_Bs g sr s1 ++ (rest))) (va_runV (As := [.int (1 : Int32), .int ((Rd_ends s0) (Rd_level s0).toNatClampNeg)]) (rest := []) ⟨hx, hb, hml, hown, ht⟩ (c_Rd_fail (l := l) (D := D) (A := A) (g := g) (rest := w_Bs g sr s1 ++ (rest)) (a0 := a0) (a1 := a2) (sr := sr) ho3) (cwV 2 ht (gd_V m_433 m_435 mp_16 m_8 m_436) rfl rfl rfl (by decide +kernel) ⟨(Nat.le_of_ble_eq_true rfl), (Nat.le_of_ble_eq_true rfl)⟩) (prV (ci := 5) (q0 := 0) hKK hI (List.Perm.refl _) rfl rfl rfl) rfl rfl hl.1 rfl (lv_room (Nat.le_of_ble_eq_true rfl)) d_Rd_readKind_37 ⟨(Nat.le_of_ble_eq_true rfl), (Nat.le_of_ble_eq_true rfl)⟩) hS (fun _ => ((List.Perm.refl _)).symm) (fun _ H locs hI hS => ?_)
  have hI : Iw D A (w_Rd g a0 (tw (a2 0) (sr 0)) o2 ++ (w_Bs g sr s1 ++ (rest))) H := hI
  refine lv_iconst (v := 0) hx hb d_Rd_readKind_40 (by decide) ?_
  have h9 := Option.some.inj h
  subst h9
  exact W.zret (v := (0 : Int32)) hx hb hr rfl (fun t ht hW => ⟨⟨_, (), rfl, rfl, ⟨by rw [ht]; exact hI, hKK.moved hW⟩⟩, hS.F ht⟩) hS.2.2 d_Rd_readKind_41
set_option maxRecDepth 100000 in
set_option maxHeartbeats 4000000 in
theorem t_Rd_readKind_10 {p : Program} {l : Launch} {e : Env} {s : State} {m : MethodId} {args : Array Value} {below : List Frame} {meth : Method} {c : Code} {D : va_G} {A : Nat → Prop} {g : Nat → ClassId} {rest : va_W} {a0 : Nat → Nat} {sr : Nat → Nat} {a2 : Nat → Nat} {ls : Array Slot} {H : Heap} {locs : List Loc} {s1 : S_Bs} {s0 : S_Rd} {x1 : Int32} {out : Int32 × S_Rd} (X : Cx p s m args meth c prog_7_method_12_code 2 ws_Rd_readKind R_Rd (some .boolean) D g) (hl : lv_has ls 2 [(0, .ref (a0 0)), (1, .int x1)]) (hI : Iw D A (w_Rd g a0 (tw (a2 0) (sr 0)) s0 ++ (w_Bs g sr s1 ++ (rest))) H) (hS : va_S A s.heap H locs) (h : B_Rd_readKind_10  s1 s0 x1 = some out) : W p l e (headSpec ws_Rd_readKind { frames := 1, cells := 0, slots := 0, locals := 22 }).room s m args below meth c H locs 0 0 (MQ below (QcI D A g out.1 (fun (_ : Unit) => w_Rd g a0 (tw (a2 0) (sr 0)) out.2 ++ (w_Bs g sr s1 ++ (rest)))) args s 0 0 A) (F0 m 10 ls []) := by
  have X1 := X
  obtain ⟨hx, hb, hml, hown, hts, hr, hlocks, hKK⟩ := X1
  have ht : ∀ w ∈ TB, w.before args s = true := fun w h => hts w (List.mem_cons_of_mem _ h)
  have hK := hKK.1
  unfold B_Rd_readKind_10 at h
  refine lv_aload_n hx hb d_Rd_readKind_10 rfl (lv_at hl 0 rfl) ?_
  refine va_get (D := D) (ci := 5) (v := .int (Rd_position s0)) (C := R_Rd) (T := T_Rd) (N := 11) hx hb ht in_Rd hown hK hI.1 0 rfl rfl 8 (by decide) (ht _ m_166) (fun _ h9 => h9) rfl d_Rd_readKind_11 ?_
  refine lv_aload_n hx hb d_Rd_readKind_14 rfl (lv_at hl 0 rfl) ?_
  refine va_get (D := D) (ci := 5) (v := .ref (a0 2)) (C := R_Rd) (T := T_Rd) (N := 11) hx hb ht in_Rd hown hK hI.1 0 rfl rfl 2 (by decide) (ht _ m_160) (fun _ h9 => h9) rfl d_Rd_readKind_15 ?_
  refine lv_aload_n hx hb d_Rd_readKind_18 rfl (lv_at hl 0 rfl) ?_
  refine va_get (D := D) (ci := 5) (v := .int (Rd_level s0)) (C := R_Rd) (T := T_Rd) (N := 11) hx hb ht in_Rd hown hK hI.1 0 rfl rfl 9 (by decide) (ht _ m_167) (fun _ h9 => h9) rfl d_Rd_readKind_19 ?_
  by_cases hc1 : ((Rd_level s0) < 0 ∨ 5 ≤ (Rd_level s0).toNatClampNeg)
  · exact no_s (it_t h hc1)
  have h := it_f h hc1
  refine va_iald hx hb hK hI.1 2 0 rfl rfl hc1 d_Rd_readKind_22 ?_
  refine lv_icmp_lt (tgt := 42) hx hb d_Rd_readKind_23 (by decide) (fun hc => ?_) (fun hc => ?_)
  · have h := it_t h hc
    exact t_Rd_readKind_42 X (lv_sub hl [0, 1] rfl) hI hS h
  · have h := it_f h hc
    exact t_Rd_readKind_26 X (lv_sub hl [0] rfl) hI hS h
set_option maxRecDepth 100000 in
set_option maxHeartbeats 4000000 in
theorem t_Rd_readKind_8 {p : Program} {l : Launch} {e : Env} {s : State} {m : MethodId} {args : Array Value} {below : List Frame} {meth : Method} {c : Code} {D : va_G} {A : Nat → Prop} {g : Nat → ClassId} {rest : va_W} {a0 : Nat → Nat} {sr : Nat → Nat} {a2 : Nat → Nat} {ls : Array Slot} {H : Heap} {locs : List Loc} {s1 : S_Bs} {s0 : S_Rd} {out : Int32 × S_Rd} (X : Cx p s m args meth c prog_7_method_12_code 2 ws_Rd_readKind R_Rd (some .boolean) D g) (hl : lv_has ls 2 []) (hI : Iw D A (w_Rd g a0 (tw (a2 0) (sr 0)) s0 ++ (w_Bs g sr s1 ++ (rest))) H) (hS : va_S A s.heap H locs) (h : B_Rd_readKind_8  s1 s0 = some out) : W p l e (headSpec ws_Rd_readKind { frames := 1, cells := 0, slots := 0, locals := 22 }).room s m args below meth c H locs 0 0 (MQ below (QcI D A g out.1 (fun (_ : Unit) => w_Rd g a0 (tw (a2 0) (sr 0)) out.2 ++ (w_Bs g sr s1 ++ (rest)))) args s 0 0 A) (F0 m 8 ls []) := by
  have X1 := X
  obtain ⟨hx, hb, hml, hown, hts, hr, hlocks, hKK⟩ := X1
  have ht : ∀ w ∈ TB, w.before args s = true := fun w h => hts w (List.mem_cons_of_mem _ h)
  have hK := hKK.1
  unfold B_Rd_readKind_8 at h
  refine lv_iconst (v := 1) hx hb d_Rd_readKind_8 (by decide) ?_
  have h9 := Option.some.inj h
  subst h9
  exact W.zret (v := (1 : Int32)) hx hb hr rfl (fun t ht hW => ⟨⟨_, (), rfl, rfl, ⟨by rw [ht]; exact hI, hKK.moved hW⟩⟩, hS.F ht⟩) hS.2.2 d_Rd_readKind_9
set_option maxRecDepth 100000 in
set_option maxHeartbeats 4000000 in
theorem t_Rd_readKind_0 {p : Program} {l : Launch} {e : Env} {s : State} {m : MethodId} {args : Array Value} {below : List Frame} {meth : Method} {c : Code} {D : va_G} {A : Nat → Prop} {g : Nat → ClassId} {rest : va_W} {a0 : Nat → Nat} {sr : Nat → Nat} {a2 : Nat → Nat} {ls : Array Slot} {H : Heap} {locs : List Loc} {s1 : S_Bs} {s0 : S_Rd} {x1 : Int32} {out : Int32 × S_Rd} (X : Cx p s m args meth c prog_7_method_12_code 2 ws_Rd_readKind R_Rd (some .boolean) D g) (hl : lv_has ls 2 [(0, .ref (a0 0)), (1, .int x1)]) (hI : Iw D A (w_Rd g a0 (tw (a2 0) (sr 0)) s0 ++ (w_Bs g sr s1 ++ (rest))) H) (hS : va_S A s.heap H locs) (h : B_Rd_readKind_0  s1 s0 x1 = some out) : W p l e (headSpec ws_Rd_readKind { frames := 1, cells := 0, slots := 0, locals := 22 }).room s m args below meth c H locs 0 0 (MQ below (QcI D A g out.1 (fun (_ : Unit) => w_Rd g a0 (tw (a2 0) (sr 0)) out.2 ++ (w_Bs g sr s1 ++ (rest)))) args s 0 0 A) (F0 m 0 ls []) := by
  have X1 := X
  obtain ⟨hx, hb, hml, hown, hts, hr, hlocks, hKK⟩ := X1
  have ht : ∀ w ∈ TB, w.before args s = true := fun w h => hts w (List.mem_cons_of_mem _ h)
  have hK := hKK.1
  unfold B_Rd_readKind_0 at h
  refine lv_aload_n hx hb d_Rd_readKind_0 rfl (lv_at hl 0 rfl) ?_
  refine va_get (D := D) (ci := 5) (v := .int (Rd_syntax s0)) (C := R_Rd) (T := T_Rd) (N := 11) hx hb ht in_Rd hown hK hI.1 0 rfl rfl 7 (by decide) (ht _ m_165) (fun _ h9 => h9) rfl d_Rd_readKind_1 ?_
  refine lv_iconst (v := 1) hx hb d_Rd_readKind_4 (by decide) ?_
  refine lv_icmp_ne (tgt := 10) hx hb d_Rd_readKind_5 (by decide) (fun hc => ?_) (fun hc => ?_)
  · have h := it_f h hc
    exact t_Rd_readKind_10 X (lv_sub hl [0, 1] rfl) hI hS h
  · have h := it_t h hc
    exact t_Rd_readKind_8 X (lv_sub hl [] rfl) hI hS h
set_option maxRecDepth 100000 in
set_option maxHeartbeats 4000000 in
theorem c_Rd_readKind {l : Launch} {D : va_G} {A : Nat → Prop} {g : Nat → ClassId} {rest : va_W} {a0 : Nat → Nat} {sr : Nat → Nat} {a2 : Nat → Nat} {s0 : S_Rd} {s1 : S_Bs} {x1 : Int32} {out : Int32 × S_Rd} (h : F_Rd_readKind s0 s1 x1 = some out) : Met l y_Rd_readKind ws_Rd_readKind { frames := 1, cells := 0, slots := 0, locals := 22 } (PcW D A g [.ref (a0 0), .int x1] (w_Rd g a0 (tw (a2 0) (sr 0)) s0 ++ (w_Bs g sr s1 ++ (rest)))) (QcI D A g out.1 (fun (_ : Unit) => w_Rd g a0 (tw (a2 0) (sr 0)) out.2 ++ (w_Bs g sr s1 ++ (rest)))) 0 0 A := by
  refine Met.ofW (cc := prog_7_method_12_code) (maxL := 2) (ret := (some .boolean)) (by decide) rfl ?_
  intro p e s m args below meth c s₁ B hml hv
  obtain ⟨rfl, hI, hK⟩ := hv
  have hl := lv_entry [.ref (a0 0), .int x1] (n := 2) (Nat.le_of_ble_eq_true rfl)
  rw [lg_entry_eq]
  generalize (lg_sl [.ref (a0 0), .int x1] ++ List.replicate (2 - (lg_sl [.ref (a0 0), .int x1]).length) Slot.unset).toArray = ls at hl ⊢
  have hl : lv_has ls 2 [(0, .ref (a0 0)), (1, .int x1)] := hl
  exact t_Rd_readKind_0 ⟨B.exec, B.bytes, hml, findClass_of_methodNamed B.named, atoms_spec (ws := ws_Rd_readKind) B.pre, B.returns, B.notSynchronized, hK⟩ (lv_sub hl [0, 1] rfl) hI va_S.rf h
def ws_Rd_isLength : List Cond := .code y_Rd_isLength prog_7_method_14_code 2 (some .boolean) :: TB
def B_Rd_isLength_63 (y0 : Int32) : Option Int32 :=
  (if y0 = 0 ∨ y0 = 1 then some y0 else none)
def B_Rd_isLength_58 : Option Int32 :=
  (B_Rd_isLength_63 (1 : Int32))
def B_Rd_isLength_62 : Option Int32 :=
  (B_Rd_isLength_63 (0 : Int32))
def B_Rd_isLength_51 (x1 : Int32) : Option Int32 :=
  (if x1 = (255 : Int32) then (B_Rd_isLength_58 ) else (B_Rd_isLength_62 ))
def B_Rd_isLength_44 (x1 : Int32) : Option Int32 :=
  (if x1 ≤ (240 : Int32) then (B_Rd_isLength_58 ) else (B_Rd_isLength_51 x1))
def B_Rd_isLength_43 (y0 : Int32) : Option Int32 :=
  (if y0 = 0 ∨ y0 = 1 then some y0 else none)
def B_Rd_isLength_42 : Option Int32 :=
  (B_Rd_isLength_43 (0 : Int32))
def B_Rd_isLength_38 : Option Int32 :=
  (B_Rd_isLength_43 (1 : Int32))
def B_Rd_isLength_32 (x1 : Int32) : Option Int32 :=
  (if (x1 - x1 / (2 : Int32) * (2 : Int32)) = 0 then (B_Rd_isLength_38 ) else (B_Rd_isLength_42 ))
def B_Rd_isLength_26 (x1 : Int32) : Option Int32 :=
  (if (16 : Int32) < x1 then (B_Rd_isLength_42 ) else (B_Rd_isLength_32 x1))
def B_Rd_isLength_21 (x0 : Int32) (x1 : Int32) : Option Int32 :=
  (if x0 = (2 : Int32) then (B_Rd_isLength_26 x1) else (B_Rd_isLength_44 x1))
def B_Rd_isLength_20 (y0 : Int32) : Option Int32 :=
  (if y0 = 0 ∨ y0 = 1 then some y0 else none)
def B_Rd_isLength_19 : Option Int32 :=
  (B_Rd_isLength_20 (0 : Int32))
def B_Rd_isLength_15 : Option Int32 :=
  (B_Rd_isLength_20 (1 : Int32))
def B_Rd_isLength_10 (x1 : Int32) : Option Int32 :=
  (if (4 : Int32) < x1 then (B_Rd_isLength_19 ) else (B_Rd_isLength_15 ))
def B_Rd_isLength_5 (x1 : Int32) : Option Int32 :=
  (if x1 < (1 : Int32) then (B_Rd_isLength_19 ) else (B_Rd_isLength_10 x1))
def B_Rd_isLength_0 (x0 : Int32) (x1 : Int32) : Option Int32 :=
  (if x0 = (1 : Int32) then (B_Rd_isLength_5 x1) else (B_Rd_isLength_21 x0 x1))
def F_Rd_isLength (x0 : Int32) (x1 : Int32) : Option Int32 := B_Rd_isLength_0 x0 x1
set_option maxRecDepth 100000 in
set_option maxHeartbeats 4000000 in
theorem t_Rd_isLength_63 {p : Program} {l : Launch} {e : Env} {s : State} {m : MethodId} {args : Array Value} {below : List Frame} {meth : Method} {c : Code} {D : va_G} {A : Nat → Prop} {g : Nat → ClassId} {rest : va_W} {ls : Array Slot} {H : Heap} {locs : List Loc} {y0 : Int32} {out : Int32} (X : Cx p s m args meth c prog_7_method_14_code 2 ws_Rd_isLength R_Rd (some .boolean) D g) (hl : lv_has ls 2 []) (hI : Iw D A (rest) H) (hS : va_S A s.heap H locs) (h : B_Rd_isLength_63  y0 = some out) : W p l e (headSpec ws_Rd_isLength { frames := 0, cells := 0, slots := 0, locals := 0 }).room s m args below meth c H locs 0 0 (MQ below (QcI D A g out (fun (_ : Unit) => rest)) args s 0 0 A) (F0 m 63 ls [.int y0]) := by
  have X1 := X
  obtain ⟨hx, hb, hml, hown, hts, hr, hlocks, hKK⟩ := X1
  have ht : ∀ w ∈ TB, w.before args s = true := fun w h => hts w (List.mem_cons_of_mem _ h)
  have hK := hKK.1
  unfold B_Rd_isLength_63 at h
  have hc1 : y0 = 0 ∨ y0 = 1 := by
    by_cases z : y0 = 0 ∨ y0 = 1
    · exact z
    · exact no_s (it_f h z)
  have h := it_t h hc1
  have h9 := Option.some.inj h
  subst h9
  exact W.zret (v := y0) hx hb hr (by rcases hc1 with z | z <;> rw [z] <;> rfl) (fun t ht hW => ⟨⟨_, (), rfl, rfl, ⟨by rw [ht]; exact hI, hKK.moved hW⟩⟩, hS.F ht⟩) hS.2.2 d_Rd_isLength_63
set_option maxRecDepth 100000 in
set_option maxHeartbeats 4000000 in
theorem t_Rd_isLength_58 {p : Program} {l : Launch} {e : Env} {s : State} {m : MethodId} {args : Array Value} {below : List Frame} {meth : Method} {c : Code} {D : va_G} {A : Nat → Prop} {g : Nat → ClassId} {rest : va_W} {ls : Array Slot} {H : Heap} {locs : List Loc} {out : Int32} (X : Cx p s m args meth c prog_7_method_14_code 2 ws_Rd_isLength R_Rd (some .boolean) D g) (hl : lv_has ls 2 []) (hI : Iw D A (rest) H) (hS : va_S A s.heap H locs) (h : B_Rd_isLength_58   = some out) : W p l e (headSpec ws_Rd_isLength { frames := 0, cells := 0, slots := 0, locals := 0 }).room s m args below meth c H locs 0 0 (MQ below (QcI D A g out (fun (_ : Unit) => rest)) args s 0 0 A) (F0 m 58 ls []) := by
  have X1 := X
  obtain ⟨hx, hb, hml, hown, hts, hr, hlocks, hKK⟩ := X1
  have ht : ∀ w ∈ TB, w.before args s = true := fun w h => hts w (List.mem_cons_of_mem _ h)
  have hK := hKK.1
  unfold B_Rd_isLength_58 at h
  refine lv_iconst (v := 1) hx hb d_Rd_isLength_58 (by decide) ?_
  refine lv_goto (tgt := 63) hx hb d_Rd_isLength_59 (by decide) ?_
  exact t_Rd_isLength_63 X (lv_sub hl [] rfl) hI hS h
set_option maxRecDepth 100000 in
set_option maxHeartbeats 4000000 in
theorem t_Rd_isLength_62 {p : Program} {l : Launch} {e : Env} {s : State} {m : MethodId} {args : Array Value} {below : List Frame} {meth : Method} {c : Code} {D : va_G} {A : Nat → Prop} {g : Nat → ClassId} {rest : va_W} {ls : Array Slot} {H : Heap} {locs : List Loc} {out : Int32} (X : Cx p s m args meth c prog_7_method_14_code 2 ws_Rd_isLength R_Rd (some .boolean) D g) (hl : lv_has ls 2 []) (hI : Iw D A (rest) H) (hS : va_S A s.heap H locs) (h : B_Rd_isLength_62   = some out) : W p l e (headSpec ws_Rd_isLength { frames := 0, cells := 0, slots := 0, locals := 0 }).room s m args below meth c H locs 0 0 (MQ below (QcI D A g out (fun (_ : Unit) => rest)) args s 0 0 A) (F0 m 62 ls []) := by
  have X1 := X
  obtain ⟨hx, hb, hml, hown, hts, hr, hlocks, hKK⟩ := X1
  have ht : ∀ w ∈ TB, w.before args s = true := fun w h => hts w (List.mem_cons_of_mem _ h)
  have hK := hKK.1
  unfold B_Rd_isLength_62 at h
  refine lv_iconst (v := 0) hx hb d_Rd_isLength_62 (by decide) ?_
  exact t_Rd_isLength_63 X (lv_sub hl [] rfl) hI hS h
set_option maxRecDepth 100000 in
set_option maxHeartbeats 4000000 in
theorem t_Rd_isLength_51 {p : Program} {l : Launch} {e : Env} {s : State} {m : MethodId} {args : Array Value} {below : List Frame} {meth : Method} {c : Code} {D : va_G} {A : Nat → Prop} {g : Nat → ClassId} {rest : va_W} {ls : Array Slot} {H : Heap} {locs : List Loc} {x1 : Int32} {out : Int32} (X : Cx p s m args meth c prog_7_method_14_code 2 ws_Rd_isLength R_Rd (some .boolean) D g) (hl : lv_has ls 2 [(1, .int x1)]) (hI : Iw D A (rest) H) (hS : va_S A s.heap H locs) (h : B_Rd_isLength_51  x1 = some out) : W p l e (headSpec ws_Rd_isLength { frames := 0, cells := 0, slots := 0, locals := 0 }).room s m args below meth c H locs 0 0 (MQ below (QcI D A g out (fun (_ : Unit) => rest)) args s 0 0 A) (F0 m 51 ls []) := by
  have X1 := X
  obtain ⟨hx, hb, hml, hown, hts, hr, hlocks, hKK⟩ := X1
  have ht : ∀ w ∈ TB, w.before args s = true := fun w h => hts w (List.mem_cons_of_mem _ h)
  have hK := hKK.1
  unfold B_Rd_isLength_51 at h
  refine lv_iload_n hx hb d_Rd_isLength_51 rfl (lv_at hl 0 rfl) ?_
  refine lv_sipush (v := 255) hx hb d_Rd_isLength_52 (by decide) ?_
  refine lv_icmp_ne (tgt := 62) hx hb d_Rd_isLength_55 (by decide) (fun hc => ?_) (fun hc => ?_)
  · have h := it_f h hc
    exact t_Rd_isLength_62 X (lv_sub hl [] rfl) hI hS h
  · have h := it_t h hc
    exact t_Rd_isLength_58 X (lv_sub hl [] rfl) hI hS h
set_option maxRecDepth 100000 in
set_option maxHeartbeats 4000000 in
theorem t_Rd_isLength_44 {p : Program} {l : Launch} {e : Env} {s : State} {m : MethodId} {args : Array Value} {below : List Frame} {meth : Method} {c : Code} {D : va_G} {A : Nat → Prop} {g : Nat → ClassId} {rest : va_W} {ls : Array Slot} {H : Heap} {locs : List Loc} {x1 : Int32} {out : Int32} (X : Cx p s m args meth c prog_7_method_14_code 2 ws_Rd_isLength R_Rd (some .boolean) D g) (hl : lv_has ls 2 [(1, .int x1)]) (hI : Iw D A (rest) H) (hS : va_S A s.heap H locs) (h : B_Rd_isLength_44  x1 = some out) : W p l e (headSpec ws_Rd_isLength { frames := 0, cells := 0, slots := 0, locals := 0 }).room s m args below meth c H locs 0 0 (MQ below (QcI D A g out (fun (_ : Unit) => rest)) args s 0 0 A) (F0 m 44 ls []) := by
  have X1 := X
  obtain ⟨hx, hb, hml, hown, hts, hr, hlocks, hKK⟩ := X1
  have ht : ∀ w ∈ TB, w.before args s = true := fun w h => hts w (List.mem_cons_of_mem _ h)
  have hK := hKK.1
  unfold B_Rd_isLength_44 at h
  refine lv_iload_n hx hb d_Rd_isLength_44 rfl (lv_at hl 0 rfl) ?_
  refine lv_sipush (v := 240) hx hb d_Rd_isLength_45 (by decide) ?_
  refine lv_icmp_le (tgt := 58) hx hb d_Rd_isLength_48 (by decide) (fun hc => ?_) (fun hc => ?_)
  · have h := it_t h hc
    exact t_Rd_isLength_58 X (lv_sub hl [] rfl) hI hS h
  · have h := it_f h hc
    exact t_Rd_isLength_51 X (lv_sub hl [0] rfl) hI hS h
set_option maxRecDepth 100000 in
set_option maxHeartbeats 4000000 in
theorem t_Rd_isLength_43 {p : Program} {l : Launch} {e : Env} {s : State} {m : MethodId} {args : Array Value} {below : List Frame} {meth : Method} {c : Code} {D : va_G} {A : Nat → Prop} {g : Nat → ClassId} {rest : va_W} {ls : Array Slot} {H : Heap} {locs : List Loc} {y0 : Int32} {out : Int32} (X : Cx p s m args meth c prog_7_method_14_code 2 ws_Rd_isLength R_Rd (some .boolean) D g) (hl : lv_has ls 2 []) (hI : Iw D A (rest) H) (hS : va_S A s.heap H locs) (h : B_Rd_isLength_43  y0 = some out) : W p l e (headSpec ws_Rd_isLength { frames := 0, cells := 0, slots := 0, locals := 0 }).room s m args below meth c H locs 0 0 (MQ below (QcI D A g out (fun (_ : Unit) => rest)) args s 0 0 A) (F0 m 43 ls [.int y0]) := by
  have X1 := X
  obtain ⟨hx, hb, hml, hown, hts, hr, hlocks, hKK⟩ := X1
  have ht : ∀ w ∈ TB, w.before args s = true := fun w h => hts w (List.mem_cons_of_mem _ h)
  have hK := hKK.1
  unfold B_Rd_isLength_43 at h
  have hc1 : y0 = 0 ∨ y0 = 1 := by
    by_cases z : y0 = 0 ∨ y0 = 1
    · exact z
    · exact no_s (it_f h z)
  have h := it_t h hc1
  have h9 := Option.some.inj h
  subst h9
  exact W.zret (v := y0) hx hb hr (by rcases hc1 with z | z <;> rw [z] <;> rfl) (fun t ht hW => ⟨⟨_, (), rfl, rfl, ⟨by rw [ht]; exact hI, hKK.moved hW⟩⟩, hS.F ht⟩) hS.2.2 d_Rd_isLength_43
set_option maxRecDepth 100000 in
set_option maxHeartbeats 4000000 in
theorem t_Rd_isLength_42 {p : Program} {l : Launch} {e : Env} {s : State} {m : MethodId} {args : Array Value} {below : List Frame} {meth : Method} {c : Code} {D : va_G} {A : Nat → Prop} {g : Nat → ClassId} {rest : va_W} {ls : Array Slot} {H : Heap} {locs : List Loc} {out : Int32} (X : Cx p s m args meth c prog_7_method_14_code 2 ws_Rd_isLength R_Rd (some .boolean) D g) (hl : lv_has ls 2 []) (hI : Iw D A (rest) H) (hS : va_S A s.heap H locs) (h : B_Rd_isLength_42   = some out) : W p l e (headSpec ws_Rd_isLength { frames := 0, cells := 0, slots := 0, locals := 0 }).room s m args below meth c H locs 0 0 (MQ below (QcI D A g out (fun (_ : Unit) => rest)) args s 0 0 A) (F0 m 42 ls []) := by
  have X1 := X
  obtain ⟨hx, hb, hml, hown, hts, hr, hlocks, hKK⟩ := X1
  have ht : ∀ w ∈ TB, w.before args s = true := fun w h => hts w (List.mem_cons_of_mem _ h)
  have hK := hKK.1
  unfold B_Rd_isLength_42 at h
  refine lv_iconst (v := 0) hx hb d_Rd_isLength_42 (by decide) ?_
  exact t_Rd_isLength_43 X (lv_sub hl [] rfl) hI hS h
set_option maxRecDepth 100000 in
set_option maxHeartbeats 4000000 in
theorem t_Rd_isLength_38 {p : Program} {l : Launch} {e : Env} {s : State} {m : MethodId} {args : Array Value} {below : List Frame} {meth : Method} {c : Code} {D : va_G} {A : Nat → Prop} {g : Nat → ClassId} {rest : va_W} {ls : Array Slot} {H : Heap} {locs : List Loc} {out : Int32} (X : Cx p s m args meth c prog_7_method_14_code 2 ws_Rd_isLength R_Rd (some .boolean) D g) (hl : lv_has ls 2 []) (hI : Iw D A (rest) H) (hS : va_S A s.heap H locs) (h : B_Rd_isLength_38   = some out) : W p l e (headSpec ws_Rd_isLength { frames := 0, cells := 0, slots := 0, locals := 0 }).room s m args below meth c H locs 0 0 (MQ below (QcI D A g out (fun (_ : Unit) => rest)) args s 0 0 A) (F0 m 38 ls []) := by
  have X1 := X
  obtain ⟨hx, hb, hml, hown, hts, hr, hlocks, hKK⟩ := X1
  have ht : ∀ w ∈ TB, w.before args s = true := fun w h => hts w (List.mem_cons_of_mem _ h)
  have hK := hKK.1
  unfold B_Rd_isLength_38 at h
  refine lv_iconst (v := 1) hx hb d_Rd_isLength_38 (by decide) ?_
  refine lv_goto (tgt := 43) hx hb d_Rd_isLength_39 (by decide) ?_
  exact t_Rd_isLength_43 X (lv_sub hl [] rfl) hI hS h
set_option maxRecDepth 100000 in
set_option maxHeartbeats 4000000 in
theorem t_Rd_isLength_32 {p : Program} {l : Launch} {e : Env} {s : State} {m : MethodId} {args : Array Value} {below : List Frame} {meth : Method} {c : Code} {D : va_G} {A : Nat → Prop} {g : Nat → ClassId} {rest : va_W} {ls : Array Slot} {H : Heap} {locs : List Loc} {x1 : Int32} {out : Int32} (X : Cx p s m args meth c prog_7_method_14_code 2 ws_Rd_isLength R_Rd (some .boolean) D g) (hl : lv_has ls 2 [(1, .int x1)]) (hI : Iw D A (rest) H) (hS : va_S A s.heap H locs) (h : B_Rd_isLength_32  x1 = some out) : W p l e (headSpec ws_Rd_isLength { frames := 0, cells := 0, slots := 0, locals := 0 }).room s m args below meth c H locs 0 0 (MQ below (QcI D A g out (fun (_ : Unit) => rest)) args s 0 0 A) (F0 m 32 ls []) := by
  have X1 := X
  obtain ⟨hx, hb, hml, hown, hts, hr, hlocks, hKK⟩ := X1
  have ht : ∀ w ∈ TB, w.before args s = true := fun w h => hts w (List.mem_cons_of_mem _ h)
  have hK := hKK.1
  unfold B_Rd_isLength_32 at h
  refine lv_iload_n hx hb d_Rd_isLength_32 rfl (lv_at hl 0 rfl) ?_
  refine lv_iconst (v := 2) hx hb d_Rd_isLength_33 (by decide) ?_
  refine lv_irem hx hb d_Rd_isLength_34 (by decide) ?_
  refine lv_if_ne (tgt := 42) hx hb d_Rd_isLength_35 (by decide) (fun hc => ?_) (fun hc => ?_)
  · have h := it_f h hc
    exact t_Rd_isLength_42 X (lv_sub hl [] rfl) hI hS h
  · have h := it_t h hc
    exact t_Rd_isLength_38 X (lv_sub hl [] rfl) hI hS h
set_option maxRecDepth 100000 in
set_option maxHeartbeats 4000000 in
theorem t_Rd_isLength_26 {p : Program} {l : Launch} {e : Env} {s : State} {m : MethodId} {args : Array Value} {below : List Frame} {meth : Method} {c : Code} {D : va_G} {A : Nat → Prop} {g : Nat → ClassId} {rest : va_W} {ls : Array Slot} {H : Heap} {locs : List Loc} {x1 : Int32} {out : Int32} (X : Cx p s m args meth c prog_7_method_14_code 2 ws_Rd_isLength R_Rd (some .boolean) D g) (hl : lv_has ls 2 [(1, .int x1)]) (hI : Iw D A (rest) H) (hS : va_S A s.heap H locs) (h : B_Rd_isLength_26  x1 = some out) : W p l e (headSpec ws_Rd_isLength { frames := 0, cells := 0, slots := 0, locals := 0 }).room s m args below meth c H locs 0 0 (MQ below (QcI D A g out (fun (_ : Unit) => rest)) args s 0 0 A) (F0 m 26 ls []) := by
  have X1 := X
  obtain ⟨hx, hb, hml, hown, hts, hr, hlocks, hKK⟩ := X1
  have ht : ∀ w ∈ TB, w.before args s = true := fun w h => hts w (List.mem_cons_of_mem _ h)
  have hK := hKK.1
  unfold B_Rd_isLength_26 at h
  refine lv_iload_n hx hb d_Rd_isLength_26 rfl (lv_at hl 0 rfl) ?_
  refine lv_bipush (v := 16) hx hb d_Rd_isLength_27 (by decide) ?_
  refine lv_icmp_gt (tgt := 42) hx hb d_Rd_isLength_29 (by decide) (fun hc => ?_) (fun hc => ?_)
  · have h := it_t h hc
    exact t_Rd_isLength_42 X (lv_sub hl [] rfl) hI hS h
  · have h := it_f h hc
    exact t_Rd_isLength_32 X (lv_sub hl [0] rfl) hI hS h
set_option maxRecDepth 100000 in
set_option maxHeartbeats 4000000 in
theorem t_Rd_isLength_21 {p : Program} {l : Launch} {e : Env} {s : State} {m : MethodId} {args : Array Value} {below : List Frame} {meth : Method} {c : Code} {D : va_G} {A : Nat → Prop} {g : Nat → ClassId} {rest : va_W} {ls : Array Slot} {H : Heap} {locs : List Loc} {x0 : Int32} {x1 : Int32} {out : Int32} (X : Cx p s m args meth c prog_7_method_14_code 2 ws_Rd_isLength R_Rd (some .boolean) D g) (hl : lv_has ls 2 [(0, .int x0), (1, .int x1)]) (hI : Iw D A (rest) H) (hS : va_S A s.heap H locs) (h : B_Rd_isLength_21  x0 x1 = some out) : W p l e (headSpec ws_Rd_isLength { frames := 0, cells := 0, slots := 0, locals := 0 }).room s m args below meth c H locs 0 0 (MQ below (QcI D A g out (fun (_ : Unit) => rest)) args s 0 0 A) (F0 m 21 ls []) := by
  have X1 := X
  obtain ⟨hx, hb, hml, hown, hts, hr, hlocks, hKK⟩ := X1
  have ht : ∀ w ∈ TB, w.before args s = true := fun w h => hts w (List.mem_cons_of_mem _ h)
  have hK := hKK.1
  unfold B_Rd_isLength_21 at h
  refine lv_iload_n hx hb d_Rd_isLength_21 rfl (lv_at hl 0 rfl) ?_
  refine lv_iconst (v := 2) hx hb d_Rd_isLength_22 (by decide) ?_
  refine lv_icmp_ne (tgt := 44) hx hb d_Rd_isLength_23 (by decide) (fun hc => ?_) (fun hc => ?_)
  · have h := it_f h hc
    exact t_Rd_isLength_44 X (lv_sub hl [1] rfl) hI hS h
  · have h := it_t h hc
    exact t_Rd_isLength_26 X (lv_sub hl [1] rfl) hI hS h
set_option maxRecDepth 100000 in
set_option maxHeartbeats 4000000 in
theorem t_Rd_isLength_20 {p : Program} {l : Launch} {e : Env} {s : State} {m : MethodId} {args : Array Value} {below : List Frame} {meth : Method} {c : Code} {D : va_G} {A : Nat → Prop} {g : Nat → ClassId} {rest : va_W} {ls : Array Slot} {H : Heap} {locs : List Loc} {y0 : Int32} {out : Int32} (X : Cx p s m args meth c prog_7_method_14_code 2 ws_Rd_isLength R_Rd (some .boolean) D g) (hl : lv_has ls 2 []) (hI : Iw D A (rest) H) (hS : va_S A s.heap H locs) (h : B_Rd_isLength_20  y0 = some out) : W p l e (headSpec ws_Rd_isLength { frames := 0, cells := 0, slots := 0, locals := 0 }).room s m args below meth c H locs 0 0 (MQ below (QcI D A g out (fun (_ : Unit) => rest)) args s 0 0 A) (F0 m 20 ls [.int y0]) := by
  have X1 := X
  obtain ⟨hx, hb, hml, hown, hts, hr, hlocks, hKK⟩ := X1
  have ht : ∀ w ∈ TB, w.before args s = true := fun w h => hts w (List.mem_cons_of_mem _ h)
  have hK := hKK.1
  unfold B_Rd_isLength_20 at h
  have hc1 : y0 = 0 ∨ y0 = 1 := by
    by_cases z : y0 = 0 ∨ y0 = 1
    · exact z
    · exact no_s (it_f h z)
  have h := it_t h hc1
  have h9 := Option.some.inj h
  subst h9
  exact W.zret (v := y0) hx hb hr (by rcases hc1 with z | z <;> rw [z] <;> rfl) (fun t ht hW => ⟨⟨_, (), rfl, rfl, ⟨by rw [ht]; exact hI, hKK.moved hW⟩⟩, hS.F ht⟩) hS.2.2 d_Rd_isLength_20
set_option maxRecDepth 100000 in
set_option maxHeartbeats 4000000 in
theorem t_Rd_isLength_19 {p : Program} {l : Launch} {e : Env} {s : State} {m : MethodId} {args : Array Value} {below : List Frame} {meth : Method} {c : Code} {D : va_G} {A : Nat → Prop} {g : Nat → ClassId} {rest : va_W} {ls : Array Slot} {H : Heap} {locs : List Loc} {out : Int32} (X : Cx p s m args meth c prog_7_method_14_code 2 ws_Rd_isLength R_Rd (some .boolean) D g) (hl : lv_has ls 2 []) (hI : Iw D A (rest) H) (hS : va_S A s.heap H locs) (h : B_Rd_isLength_19   = some out) : W p l e (headSpec ws_Rd_isLength { frames := 0, cells := 0, slots := 0, locals := 0 }).room s m args below meth c H locs 0 0 (MQ below (QcI D A g out (fun (_ : Unit) => rest)) args s 0 0 A) (F0 m 19 ls []) := by
  have X1 := X
  obtain ⟨hx, hb, hml, hown, hts, hr, hlocks, hKK⟩ := X1
  have ht : ∀ w ∈ TB, w.before args s = true := fun w h => hts w (List.mem_cons_of_mem _ h)
  have hK := hKK.1
  unfold B_Rd_isLength_19 at h
  refine lv_iconst (v := 0) hx hb d_Rd_isLength_19 (by decide) ?_
  exact t_Rd_isLength_20 X (lv_sub hl [] rfl) hI hS h
set_option maxRecDepth 100000 in
set_option maxHeartbeats 4000000 in
theorem t_Rd_isLength_15 {p : Program} {l : Launch} {e : Env} {s : State} {m : MethodId} {args : Array Value} {below : List Frame} {meth : Method} {c : Code} {D : va_G} {A : Nat → Prop} {g : Nat → ClassId} {rest : va_W} {ls : Array Slot} {H : Heap} {locs : List Loc} {out : Int32} (X : Cx p s m args meth c prog_7_method_14_code 2 ws_Rd_isLength R_Rd (some .boolean) D g) (hl : lv_has ls 2 []) (hI : Iw D A (rest) H) (hS : va_S A s.heap H locs) (h : B_Rd_isLength_15   = some out) : W p l e (headSpec ws_Rd_isLength { frames := 0, cells := 0, slots := 0, locals := 0 }).room s m args below meth c H locs 0 0 (MQ below (QcI D A g out (fun (_ : Unit) => rest)) args s 0 0 A) (F0 m 15 ls []) := by
  have X1 := X
  obtain ⟨hx, hb, hml, hown, hts, hr, hlocks, hKK⟩ := X1
  have ht : ∀ w ∈ TB, w.before args s = true := fun w h => hts w (List.mem_cons_of_mem _ h)
  have hK := hKK.1
  unfold B_Rd_isLength_15 at h
  refine lv_iconst (v := 1) hx hb d_Rd_isLength_15 (by decide) ?_
  refine lv_goto (tgt := 20) hx hb d_Rd_isLength_16 (by decide) ?_
  exact t_Rd_isLength_20 X (lv_sub hl [] rfl) hI hS h
set_option maxRecDepth 100000 in
set_option maxHeartbeats 4000000 in
theorem t_Rd_isLength_10 {p : Program} {l : Launch} {e : Env} {s : State} {m : MethodId} {args : Array Value} {below : List Frame} {meth : Method} {c : Code} {D : va_G} {A : Nat → Prop} {g : Nat → ClassId} {rest : va_W} {ls : Array Slot} {H : Heap} {locs : List Loc} {x1 : Int32} {out : Int32} (X : Cx p s m args meth c prog_7_method_14_code 2 ws_Rd_isLength R_Rd (some .boolean) D g) (hl : lv_has ls 2 [(1, .int x1)]) (hI : Iw D A (rest) H) (hS : va_S A s.heap H locs) (h : B_Rd_isLength_10  x1 = some out) : W p l e (headSpec ws_Rd_isLength { frames := 0, cells := 0, slots := 0, locals := 0 }).room s m args below meth c H locs 0 0 (MQ below (QcI D A g out (fun (_ : Unit) => rest)) args s 0 0 A) (F0 m 10 ls []) := by
  have X1 := X
  obtain ⟨hx, hb, hml, hown, hts, hr, hlocks, hKK⟩ := X1
  have ht : ∀ w ∈ TB, w.before args s = true := fun w h => hts w (List.mem_cons_of_mem _ h)
  have hK := hKK.1
  unfold B_Rd_isLength_10 at h
  refine lv_iload_n hx hb d_Rd_isLength_10 rfl (lv_at hl 0 rfl) ?_
  refine lv_iconst (v := 4) hx hb d_Rd_isLength_11 (by decide) ?_
  refine lv_icmp_gt (tgt := 19) hx hb d_Rd_isLength_12 (by decide) (fun hc => ?_) (fun hc => ?_)
  · have h := it_t h hc
    exact t_Rd_isLength_19 X (lv_sub hl [] rfl) hI hS h
  · have h := it_f h hc
    exact t_Rd_isLength_15 X (lv_sub hl [] rfl) hI hS h
set_option maxRecDepth 100000 in
set_option maxHeartbeats 4000000 in
theorem t_Rd_isLength_5 {p : Program} {l : Launch} {e : Env} {s : State} {m : MethodId} {args : Array Value} {below : List Frame} {meth : Method} {c : Code} {D : va_G} {A : Nat → Prop} {g : Nat → ClassId} {rest : va_W} {ls : Array Slot} {H : Heap} {locs : List Loc} {x1 : Int32} {out : Int32} (X : Cx p s m args meth c prog_7_method_14_code 2 ws_Rd_isLength R_Rd (some .boolean) D g) (hl : lv_has ls 2 [(1, .int x1)]) (hI : Iw D A (rest) H) (hS : va_S A s.heap H locs) (h : B_Rd_isLength_5  x1 = some out) : W p l e (headSpec ws_Rd_isLength { frames := 0, cells := 0, slots := 0, locals := 0 }).room s m args below meth c H locs 0 0 (MQ below (QcI D A g out (fun (_ : Unit) => rest)) args s 0 0 A) (F0 m 5 ls []) := by
  have X1 := X
  obtain ⟨hx, hb, hml, hown, hts, hr, hlocks, hKK⟩ := X1
  have ht : ∀ w ∈ TB, w.before args s = true := fun w h => hts w (List.mem_cons_of_mem _ h)
  have hK := hKK.1
  unfold B_Rd_isLength_5 at h
  refine lv_iload_n hx hb d_Rd_isLength_5 rfl (lv_at hl 0 rfl) ?_
  refine lv_iconst (v := 1) hx hb d_Rd_isLength_6 (by decide) ?_
  refine lv_icmp_lt (tgt := 19) hx hb d_Rd_isLength_7 (by decide) (fun hc => ?_) (fun hc => ?_)
  · have h := it_t h hc
    exact t_Rd_isLength_19 X (lv_sub hl [] rfl) hI hS h
  · have h := it_f h hc
    exact t_Rd_isLength_10 X (lv_sub hl [0] rfl) hI hS h
set_option maxRecDepth 100000 in
set_option maxHeartbeats 4000000 in
theorem t_Rd_isLength_0 {p : Program} {l : Launch} {e : Env} {s : State} {m : MethodId} {args : Array Value} {below : List Frame} {meth : Method} {c : Code} {D : va_G} {A : Nat → Prop} {g : Nat → ClassId} {rest : va_W} {ls : Array Slot} {H : Heap} {locs : List Loc} {x0 : Int32} {x1 : Int32} {out : Int32} (X : Cx p s m args meth c prog_7_method_14_code 2 ws_Rd_isLength R_Rd (some .boolean) D g) (hl : lv_has ls 2 [(0, .int x0), (1, .int x1)]) (hI : Iw D A (rest) H) (hS : va_S A s.heap H locs) (h : B_Rd_isLength_0  x0 x1 = some out) : W p l e (headSpec ws_Rd_isLength { frames := 0, cells := 0, slots := 0, locals := 0 }).room s m args below meth c H locs 0 0 (MQ below (QcI D A g out (fun (_ : Unit) => rest)) args s 0 0 A) (F0 m 0 ls []) := by
  have X1 := X
  obtain ⟨hx, hb, hml, hown, hts, hr, hlocks, hKK⟩ := X1
  have ht : ∀ w ∈ TB, w.before args s = true := fun w h => hts w (List.mem_cons_of_mem _ h)
  have hK := hKK.1
  unfold B_Rd_isLength_0 at h
  refine lv_iload_n hx hb d_Rd_isLength_0 rfl (lv_at hl 0 rfl) ?_
  refine lv_iconst (v := 1) hx hb d_Rd_isLength_1 (by decide) ?_
  refine lv_icmp_ne (tgt := 21) hx hb d_Rd_isLength_2 (by decide) (fun hc => ?_) (fun hc => ?_)
  · have h := it_f h hc
    exact t_Rd_isLength_21 X (lv_sub hl [0, 1] rfl) hI hS h
  · have h := it_t h hc
    exact t_Rd_isLength_5 X (lv_sub hl [1] rfl) hI hS h
set_option maxRecDepth 100000 in
set_option maxHeartbeats 4000000 in
theorem c_Rd_isLength {l : Launch} {D : va_G} {A : Nat → Prop} {g : Nat → ClassId} {rest : va_W} {x0 : Int32} {x1 : Int32} {out : Int32} (h : F_Rd_isLength x0 x1 = some out) : Met l y_Rd_isLength ws_Rd_isLength { frames := 0, cells := 0, slots := 0, locals := 0 } (PcW D A g [.int x0, .int x1] (rest)) (QcI D A g out (fun (_ : Unit) => rest)) 0 0 A := by
  refine Met.ofW (cc := prog_7_method_14_code) (maxL := 2) (ret := (some .boolean)) (by decide) rfl ?_
  intro p e s m args below meth c s₁ B hml hv
  obtain ⟨rfl, hI, hK⟩ := hv
  have hl := lv_entry [.int x0, .int x1] (n := 2) (Nat.le_of_ble_eq_true rfl)
  rw [lg_entry_eq]
  generalize (lg_sl [.int x0, .int x1] ++ List.replicate (2 - (lg_sl [.int x0, .int x1]).length) Slot.unset).toArray = ls at hl ⊢
  have hl : lv_has ls 2 [(0, .int x0), (1, .int x1)] := hl
  exact t_Rd_isLength_0 ⟨B.exec, B.bytes, hml, findClass_of_methodNamed B.named, atoms_spec (ws := ws_Rd_isLength) B.pre, B.returns, B.notSynchronized, hK⟩ (lv_sub hl [0, 1] rfl) hI va_S.rf h
def ws_Rd_readLength : List Cond := .code y_Rd_readLength prog_7_method_13_code 4 (some .int) :: TB
def B_Rd_readLength_89 (s1 : S_Bs) (s0 : S_Rd) : Option (Int32 × S_Rd) :=
  ((F_Rd_fail s0 (4 : Int32) (Rd_position s0)).bind fun o1 => some (((-1) : Int32), o1))
def B_Rd_readLength_100 (s1 : S_Bs) (s0 : S_Rd) (x2 : Int32) : Option (Int32 × S_Rd) :=
  some (x2, (Rd_set_position s0 ((Rd_position s0) + (1 : Int32))))
def B_Rd_readLength_81 (s1 : S_Bs) (s0 : S_Rd) (x1 : Int32) (x2 : Int32) : Option (Int32 × S_Rd) :=
  ((F_Rd_isLength x1 x2).bind fun o1 => (if o1 = 0 then (B_Rd_readLength_89 s1 s0) else (B_Rd_readLength_100 s1 s0 x2)))
def B_Rd_readLength_76 (s1 : S_Bs) (s0 : S_Rd) (x1 : Int32) (x2 : Int32) (y0 : Int32) : Option (Int32 × S_Rd) :=
  (if y0 = 0 then (B_Rd_readLength_81 s1 s0 x1 x2) else (B_Rd_readLength_89 s1 s0))
def B_Rd_readLength_75 (s1 : S_Bs) (s0 : S_Rd) (x1 : Int32) (x2 : Int32) : Option (Int32 × S_Rd) :=
  (B_Rd_readLength_76 s1 s0 x1 x2 (0 : Int32))
def B_Rd_readLength_71 (s1 : S_Bs) (s0 : S_Rd) (x1 : Int32) (x2 : Int32) : Option (Int32 × S_Rd) :=
  (B_Rd_readLength_76 s1 s0 x1 x2 (1 : Int32))
def B_Rd_readLength_51 (s1 : S_Bs) (s0 : S_Rd) (x1 : Int32) (x2 : Int32) : Option (Int32 × S_Rd) :=
  (if ((Rd_level s0) < 0 ∨ 5 ≤ (Rd_level s0).toNatClampNeg) then none else (if (((Rd_position s0) + (1 : Int32)) + x2) ≤ ((Rd_ends s0) (Rd_level s0).toNatClampNeg) then (B_Rd_readLength_75 s1 s0 x1 x2) else (B_Rd_readLength_71 s1 s0 x1 x2)))
def B_Rd_readLength_32 (s1 : S_Bs) (s0 : S_Rd) (x1 : Int32) : Option (Int32 × S_Rd) :=
  ((F_Bs_get s1 (Rd_position s0)).bind fun o1 => (if o1 = (255 : Int32) then (B_Rd_readLength_75 s1 s0 x1 o1) else (B_Rd_readLength_51 s1 s0 x1 o1)))
def B_Rd_readLength_16 (s1 : S_Bs) (s0 : S_Rd) : Option (Int32 × S_Rd) :=
  (if ((Rd_level s0) < 0 ∨ 5 ≤ (Rd_level s0).toNatClampNeg) then none else ((F_Rd_fail s0 (1 : Int32) ((Rd_ends s0) (Rd_level s0).toNatClampNeg)).bind fun o2 => some (((-1) : Int32), o2)))
def B_Rd_readLength_0 (s1 : S_Bs) (s0 : S_Rd) (x1 : Int32) : Option (Int32 × S_Rd) :=
  (if ((Rd_level s0) < 0 ∨ 5 ≤ (Rd_level s0).toNatClampNeg) then none else (if (Rd_position s0) < ((Rd_ends s0) (Rd_level s0).toNatClampNeg) then (B_Rd_readLength_32 s1 s0 x1) else (B_Rd_readLength_16 s1 s0)))
def F_Rd_readLength (s0 : S_Rd) (s1 : S_Bs) (x1 : Int32) : Option (Int32 × S_Rd) := B_Rd_readLength_0 s1 s0 x1
set_option maxRecDepth 100000 in
set_option maxHeartbeats 4000000 in
theorem t_Rd_readLength_89 {p : Program} {l : Launch} {e : Env} {s : State} {m : MethodId} {args : Array Value} {below : List Frame} {meth : Method} {c : Code} {D : va_G} {A : Nat → Prop} {g : Nat → ClassId} {rest : va_W} {a0 : Nat → Nat} {sr : Nat → Nat} {a2 : Nat → Nat} {ls : Array Slot} {H : Heap} {locs : List Loc} {s1 : S_Bs} {s0 : S_Rd} {out : Int32 × S_Rd} (X : Cx p s m args meth c prog_7_method_13_code 4 ws_Rd_readLength R_Rd (some .int) D g) (hl : lv_has ls 4 [(0, .ref (a0 0))]) (hI : Iw D A (w_Rd g a0 (tw (a2 0) (sr 0)) s0 ++ (w_Bs g sr s1 ++ (rest))) H) (hS : va_S A s.heap H locs) (h : B_Rd_readLength_89  s1 s0 = some out) : W p l e (headSpec ws_Rd_readLength { frames := 1, cells := 0, slots := 0, locals := 22 }).room s m args below meth c H locs 0 0 (MQ below (QcI D A g out.1 (fun (_ : Unit) => w_Rd g a0 (tw (a2 0) (sr 0)) out.2 ++ (w_Bs g sr s1 ++ (rest)))) args s 0 0 A) (F0 m 89 ls []) := by
  have X1 := X
  obtain ⟨hx, hb, hml, hown, hts, hr, hlocks, hKK⟩ := X1
  have ht : ∀ w ∈ TB, w.before args s = true := fun w h => hts w (List.mem_cons_of_mem _ h)
  have hK := hKK.1
  unfold B_Rd_readLength_89 at h
  refine lv_aload_n hx hb d_Rd_readLength_89 rfl (lv_at hl 0 rfl) ?_
  refine lv_iconst (v := 4) hx hb d_Rd_readLength_90 (by decide) ?_
  refine lv_aload_n hx hb d_Rd_readLength_91 rfl (lv_at hl 0 rfl) ?_
  refine va_get (D := D) (ci := 5) (v := .int (Rd_position s0)) (C := R_Rd) (T := T_Rd) (N := 11) hx hb ht in_Rd hown hK hI.1 0 rfl rfl 8 (by decide) (ht _ m_166) (fun _ h9 => h9) rfl d_Rd_readLength_92 ?_
  obtain ⟨o1, ho2, h⟩ := bd_s h
  refine cl_v (W1 := fun (_ : Unit) => w_Rd g a0 (tw (a2 0) (sr 0)) o1 ++ (w_Bs g sr s1 ++ (rest))) (va_runV (As := [.int (4 : Int32), .int (Rd_position s0)]) (rest := []) ⟨hx, hb, hml, hown, ht⟩ (c_Rd_fail (l := l) (D := D) (A := A) (g := g) (rest := w_Bs g sr s1 ++ (rest)) (a0 := a0) (a1 := a2) (sr := sr) ho2) (cwV 2 ht (gd_V m_433 m_435 mp_16 m_8 m_436) rfl rfl rfl (by decide +kernel) ⟨(Nat.le_of_ble_eq_true rfl), (Nat.le_of_ble_eq_true rfl)⟩) (prV (ci := 5) (q0 := 0) hKK hI (List.Perm.refl _) rfl rfl rfl) rfl rfl hl.1 rfl (lv_room (Nat.le_of_ble_eq_true rfl)) d_Rd_readLength_95 ⟨(Nat.le_of_ble_eq_true rfl), (Nat.le_of_ble_eq_true rfl)⟩) hS (fun _ => ((List.Perm.refl _)).symm) (fun _ H locs hI hS => ?_)
  have hI : Iw D A (w_Rd g a0 (tw (a2 0) (sr 0)) o1 ++ (w_Bs g sr s1 ++ (rest))) H := hI
  refine lv_iconst (v := (-1)) hx hb d_Rd_readLength_98 (by decide) ?_
  have h9 := Option.some.inj h
  subst h9
  exact W.iret (v := ((-1) : Int32)) hx hb hr (fun t ht hW => ⟨⟨_, (), rfl, rfl, ⟨by rw [ht]; exact hI, hKK.moved hW⟩⟩, hS.F ht⟩) hS.2.2 d_Rd_readLength_99
set_option maxRecDepth 100000 in
set_option maxHeartbeats 4000000 in
theorem t_Rd_readLength_100 {p : Program} {l : Launch} {e : Env} {s : State} {m : MethodId} {args : Array Value} {below : List Frame} {meth : Method} {c : Code} {D : va_G} {A : Nat → Prop} {g : Nat → ClassId} {rest : va_W} {a0 : Nat → Nat} {sr : Nat → Nat} {a2 : Nat → Nat} {ls : Array Slot} {H : Heap} {locs : List Loc} {s1 : S_Bs} {s0 : S_Rd} {x2 : Int32} {out : Int32 × S_Rd} (X : Cx p s m args meth c prog_7_method_13_code 4 ws_Rd_readLength R_Rd (some .int) D g) (hl : lv_has ls 4 [(0, .ref (a0 0)), (2, .int x2)]) (hI : Iw D A (w_Rd g a0 (tw (a2 0) (sr 0)) s0 ++ (w_Bs g sr s1 ++ (rest))) H) (hS : va_S A s.heap H locs) (h : B_Rd_readLength_100  s1 s0 x2 = some out) : W p l e (headSpec ws_Rd_readLength { frames := 1, cells := 0, slots := 0, locals := 22 }).room s m args below meth c H locs 0 0 (MQ below (QcI D A g out.1 (fun (_ : Unit) => w_Rd g a0 (tw (a2 0) (sr 0)) out.2 ++ (w_Bs g sr s1 ++ (rest)))) args s 0 0 A) (F0 m 100 ls []) := by
  have X1 := X
  obtain ⟨hx, hb, hml, hown, hts, hr, hlocks, hKK⟩ := X1
  have ht : ∀ w ∈ TB, w.before args s = true := fun w h => hts w (List.mem_cons_of_mem _ h)
  have hK := hKK.1
  unfold B_Rd_readLength_100 at h
  refine lv_aload_n hx hb d_Rd_readLength_100 rfl (lv_at hl 0 rfl) ?_
  refine lv_dup hx hb d_Rd_readLength_101 rfl ?_
  refine va_get (D := D) (ci := 5) (v := .int (Rd_position s0)) (C := R_Rd) (T := T_Rd) (N := 11) hx hb ht in_Rd hown hK hI.1 0 rfl rfl 8 (by decide) (ht _ m_166) (fun _ h9 => h9) rfl d_Rd_readLength_102 ?_
  refine lv_iconst (v := 1) hx hb d_Rd_readLength_105 (by decide) ?_
  refine lv_iadd hx hb d_Rd_readLength_106 ?_
  refine va_put (D := D) (ci := 5) (v := .int ((Rd_position s0) + (1 : Int32))) (ty := .int) (C := R_Rd) (T := T_Rd) (N := 11) hx hb ht in_Rd ty_Rd tyok_Rd nm_Rd hown hK hI.1 hI.2 hS 0 rfl rfl 8 (by decide) (ht _ m_166) (fun _ h9 => h9) rfl (by decide +kernel) rfl rfl (Nat.le_of_ble_eq_true rfl) d_Rd_readLength_107 (fun H locs hP hD hS => ?_)
  have hI : Iw D A (w_Rd g a0 (tw (a2 0) (sr 0)) (Rd_set_position s0 ((Rd_position s0) + (1 : Int32))) ++ (w_Bs g sr s1 ++ (rest))) H := ⟨hP, hD⟩
  refine lv_iload_n hx hb d_Rd_readLength_110 rfl (lv_at hl 1 rfl) ?_
  have h9 := Option.some.inj h
  subst h9
  exact W.iret (v := x2) hx hb hr (fun t ht hW => ⟨⟨_, (), rfl, rfl, ⟨by rw [ht]; exact hI, hKK.moved hW⟩⟩, hS.F ht⟩) hS.2.2 d_Rd_readLength_111
set_option maxRecDepth 100000 in
set_option maxHeartbeats 4000000 in
theorem t_Rd_readLength_81 {p : Program} {l : Launch} {e : Env} {s : State} {m : MethodId} {args : Array Value} {below : List Frame} {meth : Method} {c : Code} {D : va_G} {A : Nat → Prop} {g : Nat → ClassId} {rest : va_W} {a0 : Nat → Nat} {sr : Nat → Nat} {a2 : Nat → Nat} {ls : Array Slot} {H : Heap} {locs : List Loc} {s1 : S_Bs} {s0 : S_Rd} {x1 : Int32} {x2 : Int32} {out : Int32 × S_Rd} (X : Cx p s m args meth c prog_7_method_13_code 4 ws_Rd_readLength R_Rd (some .int) D g) (hl : lv_has ls 4 [(0, .ref (a0 0)), (1, .int x1), (2, .int x2)]) (hI : Iw D A (w_Rd g a0 (tw (a2 0) (sr 0)) s0 ++ (w_Bs g sr s1 ++ (rest))) H) (hS : va_S A s.heap H locs) (h : B_Rd_readLength_81  s1 s0 x1 x2 = some out) : W p l e (headSpec ws_Rd_readLength { frames := 1, cells := 0, slots := 0, locals := 22 }).room s m args below meth c H locs 0 0 (MQ below (QcI D A g out.1 (fun (_ : Unit) => w_Rd g a0 (tw (a2 0) (sr 0)) out.2 ++ (w_Bs g sr s1 ++ (rest)))) args s 0 0 A) (F0 m 81 ls []) := by
  have X1 := X
  obtain ⟨hx, hb, hml, hown, hts, hr, hlocks, hKK⟩ := X1
  have ht : ∀ w ∈ TB, w.before args s = true := fun w h => hts w (List.mem_cons_of_mem _ h)
  have hK := hKK.1
  unfold B_Rd_readLength_81 at h
  refine lv_iload_n hx hb d_Rd_readLength_81 rfl (lv_at hl 1 rfl) ?_
  refine lv_iload_n hx hb d_Rd_readLength_82 rfl (lv_at hl 2 rfl) ?_
  obtain ⟨o1, ho2, h⟩ := bd_s h
  refine cl_i (W1 := fun (_ : Unit) => w_Rd g a0 (tw (a2 0) (sr 0)) s0 ++ (w_Bs g sr s1 ++ (rest))) (va_runS (As := [.int x1, .int x2]) (rest := []) ⟨hx, hb, hml, hown, ht⟩ (c_Rd_isLength (l := l) (D := D) (A := A) (g := g) (rest := w_Rd g a0 (tw (a2 0) (sr 0)) s0 ++ (w_Bs g sr s1 ++ (rest)))  ho2) (va_cwS 2 ht (gd_S m_465 m_466 m_8 m_467) rfl rfl rfl (by decide +kernel) ⟨(Nat.le_of_ble_eq_true rfl), (Nat.le_of_ble_eq_true rfl)⟩) (prS hKK hI (List.Perm.refl _)) rfl rfl hl.1 rfl (lv_room (Nat.le_of_ble_eq_true rfl)) d_Rd_readLength_83 ⟨(Nat.le_of_ble_eq_true rfl), (Nat.le_of_ble_eq_true rfl)⟩) hS (fun _ => ((List.Perm.refl _)).symm) (fun _ H locs hI hS => ?_)
  have hI : Iw D A (w_Rd g a0 (tw (a2 0) (sr 0)) s0 ++ (w_Bs g sr s1 ++ (rest))) H := hI
  refine lv_if_ne (tgt := 100) hx hb d_Rd_readLength_86 (by decide) (fun hc => ?_) (fun hc => ?_)
  · have h := it_f h hc
    exact t_Rd_readLength_100 X (lv_sub hl [0, 2] rfl) hI hS h
  · have h := it_t h hc
    exact t_Rd_readLength_89 X (lv_sub hl [0] rfl) hI hS h
set_option maxRecDepth 100000 in
set_option maxHeartbeats 4000000 in
theorem t_Rd_readLength_76 {p : Program} {l : Launch} {e : Env} {s : State} {m : MethodId} {args : Array Value} {below : List Frame} {meth : Method} {c : Code} {D : va_G} {A : Nat → Prop} {g : Nat → ClassId} {rest : va_W} {a0 : Nat → Nat} {sr : Nat → Nat} {a2 : Nat → Nat} {ls : Array Slot} {H : Heap} {locs : List Loc} {s1 : S_Bs} {s0 : S_Rd} {x1 : Int32} {x2 : Int32} {y0 : Int32} {out : Int32 × S_Rd} (X : Cx p s m args meth c prog_7_method_13_code 4 ws_Rd_readLength R_Rd (some .int) D g) (hl : lv_has ls 4 [(0, .ref (a0 0)), (1, .int x1), (2, .int x2)]) (hI : Iw D A (w_Rd g a0 (tw (a2 0) (sr 0)) s0 ++ (w_Bs g sr s1 ++ (rest))) H) (hS : va_S A s.heap H locs) (h : B_Rd_readLength_76  s1 s0 x1 x2 y0 = some out) : W p l e (headSpec ws_Rd_readLength { frames := 1, cells := 0, slots := 0, locals := 22 }).room s m args below meth c H locs 0 0 (MQ below (QcI D A g out.1 (fun (_ : Unit) => w_Rd g a0 (tw (a2 0) (sr 0)) out.2 ++ (w_Bs g sr s1 ++ (rest)))) args s 0 0 A) (F0 m 76 ls [.int y0]) := by
  have X1 := X
  obtain ⟨hx, hb, hml, hown, hts, hr, hlocks, hKK⟩ := X1
  have ht : ∀ w ∈ TB, w.before args s = true := fun w h => hts w (List.mem_cons_of_mem _ h)
  have hK := hKK.1
  unfold B_Rd_readLength_76 at h
  refine lv_istore_n hx hb d_Rd_readLength_76 rfl hl (Nat.le_of_ble_eq_true rfl) rfl (fun ls hl => ?_)
  have hl : lv_has ls 4 [(3, .int y0), (0, .ref (a0 0)), (1, .int x1), (2, .int x2)] := hl
  refine lv_iload_n hx hb d_Rd_readLength_77 rfl (lv_at hl 0 rfl) ?_
  refine lv_if_ne (tgt := 89) hx hb d_Rd_readLength_78 (by decide) (fun hc => ?_) (fun hc => ?_)
  · have h := it_f h hc
    exact t_Rd_readLength_89 X (lv_sub hl [1] rfl) hI hS h
  · have h := it_t h hc
    exact t_Rd_readLength_81 X (lv_sub hl [1, 2, 3] rfl) hI hS h
set_option maxRecDepth 100000 in
set_option maxHeartbeats 4000000 in
theorem t_Rd_readLength_75 {p : Program} {l : Launch} {e : Env} {s : State} {m : MethodId} {args : Array Value} {below : List Frame} {meth : Method} {c : Code} {D : va_G} {A : Nat → Prop} {g : Nat → ClassId} {rest : va_W} {a0 : Nat → Nat} {sr : Nat → Nat} {a2 : Nat → Nat} {ls : Array Slot} {H : Heap} {locs : List Loc} {s1 : S_Bs} {s0 : S_Rd} {x1 : Int32} {x2 : Int32} {out : Int32 × S_Rd} (X : Cx p s m args meth c prog_7_method_13_code 4 ws_Rd_readLength R_Rd (some .int) D g) (hl : lv_has ls 4 [(0, .ref (a0 0)), (1, .int x1), (2, .int x2)]) (hI : Iw D A (w_Rd g a0 (tw (a2 0) (sr 0)) s0 ++ (w_Bs g sr s1 ++ (rest))) H) (hS : va_S A s.heap H locs) (h : B_Rd_readLength_75  s1 s0 x1 x2 = some out) : W p l e (headSpec ws_Rd_readLength { frames := 1, cells := 0, slots := 0, locals := 22 }).room s m args below meth c H locs 0 0 (MQ below (QcI D A g out.1 (fun (_ : Unit) => w_Rd g a0 (tw (a2 0) (sr 0)) out.2 ++ (w_Bs g sr s1 ++ (rest)))) args s 0 0 A) (F0 m 75 ls []) := by
  have X1 := X
  obtain ⟨hx, hb, hml, hown, hts, hr, hlocks, hKK⟩ := X1
  have ht : ∀ w ∈ TB, w.before args s = true := fun w h => hts w (List.mem_cons_of_mem _ h)
  have hK := hKK.1
  unfold B_Rd_readLength_75 at h
  refine lv_iconst (v := 0) hx hb d_Rd_readLength_75 (by decide) ?_
  exact t_Rd_readLength_76 X (lv_sub hl [0, 1, 2] rfl) hI hS h
set_option maxRecDepth 100000 in
set_option maxHeartbeats 4000000 in
theorem t_Rd_readLength_71 {p : Program} {l : Launch} {e : Env} {s : State} {m : MethodId} {args : Array Value} {below : List Frame} {meth : Method} {c : Code} {D : va_G} {A : Nat → Prop} {g : Nat → ClassId} {rest : va_W} {a0 : Nat → Nat} {sr : Nat → Nat} {a2 : Nat → Nat} {ls : Array Slot} {H : Heap} {locs : List Loc} {s1 : S_Bs} {s0 : S_Rd} {x1 : Int32} {x2 : Int32} {out : Int32 × S_Rd} (X : Cx p s m args meth c prog_7_method_13_code 4 ws_Rd_readLength R_Rd (some .int) D g) (hl : lv_has ls 4 [(0, .ref (a0 0)), (1, .int x1), (2, .int x2)]) (hI : Iw D A (w_Rd g a0 (tw (a2 0) (sr 0)) s0 ++ (w_Bs g sr s1 ++ (rest))) H) (hS : va_S A s.heap H locs) (h : B_Rd_readLength_71  s1 s0 x1 x2 = some out) : W p l e (headSpec ws_Rd_readLength { frames := 1, cells := 0, slots := 0, locals := 22 }).room s m args below meth c H locs 0 0 (MQ below (QcI D A g out.1 (fun (_ : Unit) => w_Rd g a0 (tw (a2 0) (sr 0)) out.2 ++ (w_Bs g sr s1 ++ (rest)))) args s 0 0 A) (F0 m 71 ls []) := by
  have X1 := X
  obtain ⟨hx, hb, hml, hown, hts, hr, hlocks, hKK⟩ := X1
  have ht : ∀ w ∈ TB, w.before args s = true := fun w h => hts w (List.mem_cons_of_mem _ h)
  have hK := hKK.1
  unfold B_Rd_readLength_71 at h
  refine lv_iconst (v := 1) hx hb d_Rd_readLength_71 (by decide) ?_
  refine lv_goto (tgt := 76) hx hb d_Rd_readLength_72 (by decide) ?_
  exact t_Rd_readLength_76 X (lv_sub hl [0, 1, 2] rfl) hI hS h
set_option maxRecDepth 100000 in
set_option maxHeartbeats 4000000 in
theorem t_Rd_readLength_51 {p : Program} {l : Launch} {e : Env} {s : State} {m : MethodId} {args : Array Value} {below : List Frame} {meth : Method} {c : Code} {D : va_G} {A : Nat → Prop} {g : Nat → ClassId} {rest : va_W} {a0 : Nat → Nat} {sr : Nat → Nat} {a2 : Nat → Nat} {ls : Array Slot} {H : Heap} {locs : List Loc} {s1 : S_Bs} {s0 : S_Rd} {x1 : Int32} {x2 : Int32} {out : Int32 × S_Rd} (X : Cx p s m args meth c prog_7_method_13_code 4 ws_Rd_readLength R_Rd (some .int) D g) (hl : lv_has ls 4 [(0, .ref (a0 0)), (1, .int x1), (2, .int x2)]) (hI : Iw D A (w_Rd g a0 (tw (a2 0) (sr 0)) s0 ++ (w_Bs g sr s1 ++ (rest))) H) (hS : va_S A s.heap H locs) (h : B_Rd_readLength_51  s1 s0 x1 x2 = some out) : W p l e (headSpec ws_Rd_readLength { frames := 1, cells := 0, slots := 0, locals := 22 }).room s m args below meth c H locs 0 0 (MQ below (QcI D A g out.1 (fun (_ : Unit) => w_Rd g a0 (tw (a2 0) (sr 0)) out.2 ++ (w_Bs g sr s1 ++ (rest)))) args s 0 0 A) (F0 m 51 ls []) := by
  have X1 := X
  obtain ⟨hx, hb, hml, hown, hts, hr, hlocks, hKK⟩ := X1
  have ht : ∀ w ∈ TB, w.before args s = true := fun w h => hts w (List.mem_cons_of_mem _ h)
  have hK := hKK.1
  unfold B_Rd_readLength_51 at h
  refine lv_aload_n hx hb d_Rd_readLength_51 rfl (lv_at hl 0 rfl) ?_
  refine va_get (D := D) (ci := 5) (v := .int (Rd_position s0)) (C := R_Rd) (T := T_Rd) (N := 11) hx hb ht in_Rd hown hK hI.1 0 rfl rfl 8 (by decide) (ht _ m_166) (fun _ h9 => h9) rfl d_Rd_readLength_52 ?_
  refine lv_iconst (v := 1) hx hb d_Rd_readLength_55 (by decide) ?_
  refine lv_iadd hx hb d_Rd_readLength_56 ?_
  refine lv_iload_n hx hb d_Rd_readLength_57 rfl (lv_at hl 2 rfl) ?_
  refine lv_iadd hx hb d_Rd_readLength_58 ?_
  refine lv_aload_n hx hb d_Rd_readLength_59 rfl (lv_at hl 0 rfl) ?_
  refine va_get (D := D) (ci := 5) (v := .ref (a0 2)) (C := R_Rd) (T := T_Rd) (N := 11) hx hb ht in_Rd hown hK hI.1 0 rfl rfl 2 (by decide) (ht _ m_160) (fun _ h9 => h9) rfl d_Rd_readLength_60 ?_
  refine lv_aload_n hx hb d_Rd_readLength_63 rfl (lv_at hl 0 rfl) ?_
  refine va_get (D := D) (ci := 5) (v := .int (Rd_level s0)) (C := R_Rd) (T := T_Rd) (N := 11) hx hb ht in_Rd hown hK hI.1 0 rfl rfl 9 (by decide) (ht _ m_167) (fun _ h9 => h9) rfl d_Rd_readLength_64 ?_
  by_cases hc1 : ((Rd_level s0) < 0 ∨ 5 ≤ (Rd_level s0).toNatClampNeg)
  · exact no_s (it_t h hc1)
  have h := it_f h hc1
  refine va_iald hx hb hK hI.1 2 0 rfl rfl hc1 d_Rd_readLength_67 ?_
  refine lv_icmp_le (tgt := 75) hx hb d_Rd_readLength_68 (by decide) (fun hc => ?_) (fun hc => ?_)
  · have h := it_t h hc
    exact t_Rd_readLength_75 X (lv_sub hl [0, 1, 2] rfl) hI hS h
  · have h := it_f h hc
    exact t_Rd_readLength_71 X (lv_sub hl [0, 1, 2] rfl) hI hS h
set_option maxRecDepth 100000 in
set_option maxHeartbeats 4000000 in
theorem t_Rd_readLength_32 {p : Program} {l : Launch} {e : Env} {s : State} {m : MethodId} {args : Array Value} {below : List Frame} {meth : Method} {c : Code} {D : va_G} {A : Nat → Prop} {g : Nat → ClassId} {rest : va_W} {a0 : Nat → Nat} {sr : Nat → Nat} {a2 : Nat → Nat} {ls : Array Slot} {H : Heap} {locs : List Loc} {s1 : S_Bs} {s0 : S_Rd} {x1 : Int32} {out : Int32 × S_Rd} (X : Cx p s m args meth c prog_7_method_13_code 4 ws_Rd_readLength R_Rd (some .int) D g) (hl : lv_has ls 4 [(0, .ref (a0 0)), (1, .int x1)]) (hI : Iw D A (w_Rd g a0 (tw (a2 0) (sr 0)) s0 ++ (w_Bs g sr s1 ++ (rest))) H) (hS : va_S A s.heap H locs) (h : B_Rd_readLength_32  s1 s0 x1 = some out) : W p l e (headSpec ws_Rd_readLength { frames := 1, cells := 0, slots := 0, locals := 22 }).room s m args below meth c H locs 0 0 (MQ below (QcI D A g out.1 (fun (_ : Unit) => w_Rd g a0 (tw (a2 0) (sr 0)) out.2 ++ (w_Bs g sr s1 ++ (rest)))) args s 0 0 A) (F0 m 32 ls []) := by
  have X1 := X
  obtain ⟨hx, hb, hml, hown, hts, hr, hlocks, hKK⟩ := X1
  have ht : ∀ w ∈ TB, w.before args s = true := fun w h => hts w (List.mem_cons_of_mem _ h)
  have hK := hKK.1
  unfold B_Rd_readLength_32 at h
  refine lv_aload_n hx hb d_Rd_readLength_32 rfl (lv_at hl 0 rfl) ?_
  refine va_get (D := D) (ci := 5) (v := .ref (sr 0)) (C := R_Rd) (T := T_Rd) (N := 11) hx hb ht in_Rd hown hK hI.1 0 rfl rfl 6 (by decide) (ht _ m_164) (fun _ h9 => h9) rfl d_Rd_readLength_33 ?_
  refine lv_aload_n hx hb d_Rd_readLength_36 rfl (lv_at hl 0 rfl) ?_
  refine va_get (D := D) (ci := 5) (v := .int (Rd_position s0)) (C := R_Rd) (T := T_Rd) (N := 11) hx hb ht in_Rd hown hK hI.1 0 rfl rfl 8 (by decide) (ht _ m_166) (fun _ h9 => h9) rfl d_Rd_readLength_37 ?_
  obtain ⟨o1, ho2, h⟩ := bd_s h
  refine cl_i (W1 := fun (_ : Unit) => w_Rd g a0 (tw (a2 0) (sr 0)) s0 ++ (w_Bs g sr s1 ++ (rest))) (va_runV (As := [.int (Rd_position s0)]) (rest := []) ⟨hx, hb, hml, hown, ht⟩ (c_Bs_get (l := l) (D := D) (A := A) (g := g) (rest := w_Rd g a0 (tw (a2 0) (sr 0)) s0 ++ (rest)) (a0 := sr) ho2) (cwV 1 ht (gd_V m_445 m_307 m_308 m_2 m_309) rfl rfl rfl (by decide +kernel) ⟨(Nat.le_of_ble_eq_true rfl), (Nat.le_of_ble_eq_true rfl)⟩) (prV (ci := 0) (q0 := 0) hKK hI (mv_1) rfl rfl rfl) rfl rfl hl.1 rfl (lv_room (Nat.le_of_ble_eq_true rfl)) d_Rd_readLength_40 ⟨(Nat.le_of_ble_eq_true rfl), (Nat.le_of_ble_eq_true rfl)⟩) hS (fun _ => ((mv_1)).symm) (fun _ H locs hI hS => ?_)
  have hI : Iw D A (w_Rd g a0 (tw (a2 0) (sr 0)) s0 ++ (w_Bs g sr s1 ++ (rest))) H := hI
  refine lv_istore_n hx hb d_Rd_readLength_43 rfl hl (Nat.le_of_ble_eq_true rfl) rfl (fun ls hl => ?_)
  have hl : lv_has ls 4 [(2, .int o1), (0, .ref (a0 0)), (1, .int x1)] := hl
  refine lv_iload_n hx hb d_Rd_readLength_44 rfl (lv_at hl 0 rfl) ?_
  refine lv_sipush (v := 255) hx hb d_Rd_readLength_45 (by decide) ?_
  refine lv_icmp_eq (tgt := 75) hx hb d_Rd_readLength_48 (by decide) (fun hc => ?_) (fun hc => ?_)
  · have h := it_t h hc
    exact t_Rd_readLength_75 X (lv_sub hl [1, 2, 0] rfl) hI hS h
  · have h := it_f h hc
    exact t_Rd_readLength_51 X (lv_sub hl [1, 2, 0] rfl) hI hS h
set_option maxRecDepth 100000 in
set_option maxHeartbeats 4000000 in
theorem t_Rd_readLength_16 {p : Program} {l : Launch} {e : Env} {s : State} {m : MethodId} {args : Array Value} {below : List Frame} {meth : Method} {c : Code} {D : va_G} {A : Nat → Prop} {g : Nat → ClassId} {rest : va_W} {a0 : Nat → Nat} {sr : Nat → Nat} {a2 : Nat → Nat} {ls : Array Slot} {H : Heap} {locs : List Loc} {s1 : S_Bs} {s0 : S_Rd} {out : Int32 × S_Rd} (X : Cx p s m args meth c prog_7_method_13_code 4 ws_Rd_readLength R_Rd (some .int) D g) (hl : lv_has ls 4 [(0, .ref (a0 0))]) (hI : Iw D A (w_Rd g a0 (tw (a2 0) (sr 0)) s0 ++ (w_Bs g sr s1 ++ (rest))) H) (hS : va_S A s.heap H locs) (h : B_Rd_readLength_16  s1 s0 = some out) : W p l e (headSpec ws_Rd_readLength { frames := 1, cells := 0, slots := 0, locals := 22 }).room s m args below meth c H locs 0 0 (MQ below (QcI D A g out.1 (fun (_ : Unit) => w_Rd g a0 (tw (a2 0) (sr 0)) out.2 ++ (w_Bs g sr s1 ++ (rest)))) args s 0 0 A) (F0 m 16 ls []) := by
  have X1 := X
  obtain ⟨hx, hb, hml, hown, hts, hr, hlocks, hKK⟩ := X1
  have ht : ∀ w ∈ TB, w.before args s = true := fun w h => hts w (List.mem_cons_of_mem _ h)
  have hK := hKK.1
  unfold B_Rd_readLength_16 at h
  refine lv_aload_n hx hb d_Rd_readLength_16 rfl (lv_at hl 0 rfl) ?_
  refine lv_iconst (v := 1) hx hb d_Rd_readLength_17 (by decide) ?_
  refine lv_aload_n hx hb d_Rd_readLength_18 rfl (lv_at hl 0 rfl) ?_
  refine va_get (D := D) (ci := 5) (v := .ref (a0 2)) (C := R_Rd) (T := T_Rd) (N := 11) hx hb ht in_Rd hown hK hI.1 0 rfl rfl 2 (by decide) (ht _ m_160) (fun _ h9 => h9) rfl d_Rd_readLength_19 ?_
  refine lv_aload_n hx hb d_Rd_readLength_22 rfl (lv_at hl 0 rfl) ?_
  refine va_get (D := D) (ci := 5) (v := .int (Rd_level s0)) (C := R_Rd) (T := T_Rd) (N := 11) hx hb ht in_Rd hown hK hI.1 0 rfl rfl 9 (by decide) (ht _ m_167) (fun _ h9 => h9) rfl d_Rd_readLength_23 ?_
  by_cases hc1 : ((Rd_level s0) < 0 ∨ 5 ≤ (Rd_level s0).toNatClampNeg)
  · exact no_s (it_t h hc1)
  have h := it_f h hc1
  refine va_iald hx hb hK hI.1 2 0 rfl rfl hc1 d_Rd_readLength_26 ?_
  obtain ⟨o2, ho3, h⟩ := bd_s h
  refine cl_v (W1 := fun (_ : Unit) => w_Rd g a0 (tw (a2 0) (sr 0)) o2 ++ (w_Bs g sr s1 ++ (rest))) (va_runV (As := [.int (1 : Int32), .int ((Rd_ends s0) (Rd_level s0).toNatClampNeg)]) (rest := []) ⟨hx, hb, hml, hown, ht⟩ (c_Rd_fail (l := l) (D := D) (A := A) (g := g) (rest := w_Bs g sr s1 ++ (rest)) (a0 := a0) (a1 := a2) (sr := sr) ho3) (cwV 2 ht (gd_V m_433 m_435 mp_16 m_8 m_436) rfl rfl rfl (by decide +kernel) ⟨(Nat.le_of_ble_eq_true rfl), (Nat.le_of_ble_eq_true rfl)⟩) (prV (ci := 5) (q0 := 0) hKK hI (List.Perm.refl _) rfl rfl rfl) rfl rfl hl.1 rfl (lv_room (Nat.le_of_ble_eq_true rfl)) d_Rd_readLength_27 ⟨(Nat.le_of_ble_eq_true rfl), (Nat.le_of_ble_eq_true rfl)⟩) hS (fun _ => ((List.Perm.refl _)).symm) (fun _ H locs hI hS => ?_)
  have hI : Iw D A (w_Rd g a0 (tw (a2 0) (sr 0)) o2 ++ (w_Bs g sr s1 ++ (rest))) H := hI
  refine lv_iconst (v := (-1)) hx hb d_Rd_readLength_30 (by decide) ?_
  have h9 := Option.some.inj h
  subst h9
  exact W.iret (v := ((-1) : Int32)) hx hb hr (fun t ht hW => ⟨⟨_, (), rfl, rfl, ⟨by rw [ht]; exact hI, hKK.moved hW⟩⟩, hS.F ht⟩) hS.2.2 d_Rd_readLength_31
set_option maxRecDepth 100000 in
set_option maxHeartbeats 4000000 in
theorem t_Rd_readLength_0 {p : Program} {l : Launch} {e : Env} {s : State} {m : MethodId} {args : Array Value} {below : List Frame} {meth : Method} {c : Code} {D : va_G} {A : Nat → Prop} {g : Nat → ClassId} {rest : va_W} {a0 : Nat → Nat} {sr : Nat → Nat} {a2 : Nat → Nat} {ls : Array Slot} {H : Heap} {locs : List Loc} {s1 : S_Bs} {s0 : S_Rd} {x1 : Int32} {out : Int32 × S_Rd} (X : Cx p s m args meth c prog_7_method_13_code 4 ws_Rd_readLength R_Rd (some .int) D g) (hl : lv_has ls 4 [(0, .ref (a0 0)), (1, .int x1)]) (hI : Iw D A (w_Rd g a0 (tw (a2 0) (sr 0)) s0 ++ (w_Bs g sr s1 ++ (rest))) H) (hS : va_S A s.heap H locs) (h : B_Rd_readLength_0  s1 s0 x1 = some out) : W p l e (headSpec ws_Rd_readLength { frames := 1, cells := 0, slots := 0, locals := 22 }).room s m args below meth c H locs 0 0 (MQ below (QcI D A g out.1 (fun (_ : Unit) => w_Rd g a0 (tw (a2 0) (sr 0)) out.2 ++ (w_Bs g sr s1 ++ (rest)))) args s 0 0 A) (F0 m 0 ls []) := by
  have X1 := X
  obtain ⟨hx, hb, hml, hown, hts, hr, hlocks, hKK⟩ := X1
  have ht : ∀ w ∈ TB, w.before args s = true := fun w h => hts w (List.mem_cons_of_mem _ h)
  have hK := hKK.1
  unfold B_Rd_readLength_0 at h
  refine lv_aload_n hx hb d_Rd_readLength_0 rfl (lv_at hl 0 rfl) ?_
  refine va_get (D := D) (ci := 5) (v := .int (Rd_position s0)) (C := R_Rd) (T := T_Rd) (N := 11) hx hb ht in_Rd hown hK hI.1 0 rfl rfl 8 (by decide) (ht _ m_166) (fun _ h9 => h9) rfl d_Rd_readLength_1 ?_
  refine lv_aload_n hx hb d_Rd_readLength_4 rfl (lv_at hl 0 rfl) ?_
  refine va_get (D := D) (ci := 5) (v := .ref (a0 2)) (C := R_Rd) (T := T_Rd) (N := 11) hx hb ht in_Rd hown hK hI.1 0 rfl rfl 2 (by decide) (ht _ m_160) (fun _ h9 => h9) rfl d_Rd_readLength_5 ?_
  refine lv_aload_n hx hb d_Rd_readLength_8 rfl (lv_at hl 0 rfl) ?_
  refine va_get (D := D) (ci := 5) (v := .int (Rd_level s0)) (C := R_Rd) (T := T_Rd) (N := 11) hx hb ht in_Rd hown hK hI.1 0 rfl rfl 9 (by decide) (ht _ m_167) (fun _ h9 => h9) rfl d_Rd_readLength_9 ?_
  by_cases hc1 : ((Rd_level s0) < 0 ∨ 5 ≤ (Rd_level s0).toNatClampNeg)
  · exact no_s (it_t h hc1)
  have h := it_f h hc1
  refine va_iald hx hb hK hI.1 2 0 rfl rfl hc1 d_Rd_readLength_12 ?_
  refine lv_icmp_lt (tgt := 32) hx hb d_Rd_readLength_13 (by decide) (fun hc => ?_) (fun hc => ?_)
  · have h := it_t h hc
    exact t_Rd_readLength_32 X (lv_sub hl [0, 1] rfl) hI hS h
  · have h := it_f h hc
    exact t_Rd_readLength_16 X (lv_sub hl [0] rfl) hI hS h
set_option maxRecDepth 100000 in
set_option maxHeartbeats 4000000 in
theorem c_Rd_readLength {l : Launch} {D : va_G} {A : Nat → Prop} {g : Nat → ClassId} {rest : va_W} {a0 : Nat → Nat} {sr : Nat → Nat} {a2 : Nat → Nat} {s0 : S_Rd} {s1 : S_Bs} {x1 : Int32} {out : Int32 × S_Rd} (h : F_Rd_readLength s0 s1 x1 = some out) : Met l y_Rd_readLength ws_Rd_readLength { frames := 1, cells := 0, slots := 0, locals := 22 } (PcW D A g [.ref (a0 0), .int x1] (w_Rd g a0 (tw (a2 0) (sr 0)) s0 ++ (w_Bs g sr s1 ++ (rest)))) (QcI D A g out.1 (fun (_ : Unit) => w_Rd g a0 (tw (a2 0) (sr 0)) out.2 ++ (w_Bs g sr s1 ++ (rest)))) 0 0 A := by
  refine Met.ofW (cc := prog_7_method_13_code) (maxL := 4) (ret := (some .int)) (by decide) rfl ?_
  intro p e s m args below meth c s₁ B hml hv
  obtain ⟨rfl, hI, hK⟩ := hv
  have hl := lv_entry [.ref (a0 0), .int x1] (n := 4) (Nat.le_of_ble_eq_true rfl)
  rw [lg_entry_eq]
  generalize (lg_sl [.ref (a0 0), .int x1] ++ List.replicate (4 - (lg_sl [.ref (a0 0), .int x1]).length) Slot.unset).toArray = ls at hl ⊢
  have hl : lv_has ls 4 [(0, .ref (a0 0)), (1, .int x1)] := hl
  exact t_Rd_readLength_0 ⟨B.exec, B.bytes, hml, findClass_of_methodNamed B.named, atoms_spec (ws := ws_Rd_readLength) B.pre, B.returns, B.notSynchronized, hK⟩ (lv_sub hl [0, 1] rfl) hI va_S.rf h
def ws_Rd_readNumber : List Cond := .code y_Rd_readNumber prog_7_method_15_code 6 none :: TB
def B_Rd_readNumber_40 (s1 : S_Bs) (s0 : S_Rd) (s2 : S_Tr) (x1 : Int32) (x2 : Int32) (x3 : Int32) : Option (S_Rd × S_Tr) :=
  ((F_Tr_numberLength ((x3 <<< (((32 : Int32) - ((8 : Int32) * x2)) &&& 31)) >>> (((32 : Int32) - ((8 : Int32) * x2)) &&& 31))).bind fun o1 => ((F_Tr_add s2 x1 ((x3 <<< (((32 : Int32) - ((8 : Int32) * x2)) &&& 31)) >>> (((32 : Int32) - ((8 : Int32) * x2)) &&& 31)) o1).bind fun o3 => some ((Rd_set_position s0 ((Rd_position s0) + x2)), o3.2)))
def B_Rd_readNumber_11 (k5 : S_Rd × S_Tr × Int32 × Int32 × Int32 × Int32 → Option (S_Rd × S_Tr)) (s1 : S_Bs) (s0 : S_Rd) (s2 : S_Tr) (x1 : Int32) (x2 : Int32) (x3 : Int32) (x4 : Int32) : Option (S_Rd × S_Tr) :=
  ((F_Bs_get s1 ((Rd_position s0) + x4)).bind fun o1 => (k5 (s0, s2, x1, x2, (x3 ||| (o1 <<< (((8 : Int32) * x4) &&& 31))), (x4 + 1))))
def B_Rd_readNumber_5 (k5 : S_Rd × S_Tr × Int32 × Int32 × Int32 × Int32 → Option (S_Rd × S_Tr)) (s1 : S_Bs) (s0 : S_Rd) (s2 : S_Tr) (x1 : Int32) (x2 : Int32) (x3 : Int32) (x4 : Int32) : Option (S_Rd × S_Tr) :=
  (if x2 ≤ x4 then (B_Rd_readNumber_40 s1 s0 s2 x1 x2 x3) else (B_Rd_readNumber_11 k5 s1 s0 s2 x1 x2 x3 x4))
def L_Rd_readNumber_5 (s1 : S_Bs) (v : S_Rd × S_Tr × Int32 × Int32 × Int32 × Int32) : Option (S_Rd × S_Tr) := lp (fun k5 v => B_Rd_readNumber_5  k5 s1 v.1 v.2.1 v.2.2.1 v.2.2.2.1 v.2.2.2.2.1 v.2.2.2.2.2) FU v
def B_Rd_readNumber_0 (s1 : S_Bs) (s0 : S_Rd) (s2 : S_Tr) (x1 : Int32) (x2 : Int32) : Option (S_Rd × S_Tr) :=
  (L_Rd_readNumber_5 s1 (s0, s2, x1, x2, (0 : Int32), (0 : Int32)))
def F_Rd_readNumber (s0 : S_Rd) (s1 : S_Bs) (s2 : S_Tr) (x1 : Int32) (x2 : Int32) : Option (S_Rd × S_Tr) := B_Rd_readNumber_0 s1 s0 s2 x1 x2
set_option maxRecDepth 100000 in
set_option maxHeartbeats 4000000 in
theorem t_Rd_readNumber_40 {p : Program} {l : Launch} {e : Env} {s : State} {m : MethodId} {args : Array Value} {below : List Frame} {meth : Method} {c : Code} {D : va_G} {A : Nat → Prop} {g : Nat → ClassId} {rest : va_W} {a0 : Nat → Nat} {sr : Nat → Nat} {a2 : Nat → Nat} {ls : Array Slot} {H : Heap} {locs : List Loc} {s1 : S_Bs} {s0 : S_Rd} {s2 : S_Tr} {x1 : Int32} {x2 : Int32} {x3 : Int32} {out : S_Rd × S_Tr} (X : Cx p s m args meth c prog_7_method_15_code 6 ws_Rd_readNumber R_Rd none D g) (hl : lv_has ls 6 [(0, .ref (a0 0)), (1, .int x1), (2, .int x2), (3, .int x3)]) (hI : Iw D A (w_Rd g a0 (tw (a2 0) (sr 0)) s0 ++ (w_Bs g sr s1 ++ (w_Tr g a2 s2 ++ (rest)))) H) (hS : va_S A s.heap H locs) (h : B_Rd_readNumber_40  s1 s0 s2 x1 x2 x3 = some out) : W p l e (headSpec ws_Rd_readNumber { frames := 1, cells := 0, slots := 0, locals := 24 }).room s m args below meth c H locs 0 0 (MQ below (QcV D A g (fun (_ : Unit) => w_Rd g a0 (tw (a2 0) (sr 0)) out.1 ++ (w_Bs g sr s1 ++ (w_Tr g a2 out.2 ++ (rest))))) args s 0 0 A) (F0 m 40 ls []) := by
  have X1 := X
  obtain ⟨hx, hb, hml, hown, hts, hr, hlocks, hKK⟩ := X1
  have ht : ∀ w ∈ TB, w.before args s = true := fun w h => hts w (List.mem_cons_of_mem _ h)
  have hK := hKK.1
  unfold B_Rd_readNumber_40 at h
  refine lv_bipush (v := 32) hx hb d_Rd_readNumber_40 (by decide) ?_
  refine lv_bipush (v := 8) hx hb d_Rd_readNumber_42 (by decide) ?_
  refine lv_iload_n hx hb d_Rd_readNumber_44 rfl (lv_at hl 2 rfl) ?_
  refine lv_imul hx hb d_Rd_readNumber_45 ?_
  refine lv_isub hx hb d_Rd_readNumber_46 ?_
  refine lv_istore hx hb d_Rd_readNumber_47 hl (Nat.le_of_ble_eq_true rfl) rfl (fun ls hl => ?_)
  have hl : lv_has ls 6 [(4, .int ((32 : Int32) - ((8 : Int32) * x2))), (0, .ref (a0 0)), (1, .int x1), (2, .int x2), (3, .int x3)] := hl
  refine lv_iload_n hx hb d_Rd_readNumber_49 rfl (lv_at hl 4 rfl) ?_
  refine lv_iload hx hb d_Rd_readNumber_50 (lv_at hl 0 rfl) ?_
  refine lv_ishl hx hb d_Rd_readNumber_52 ?_
  refine lv_iload hx hb d_Rd_readNumber_53 (lv_at hl 0 rfl) ?_
  refine lv_ishr hx hb d_Rd_readNumber_55 ?_
  refine lv_istore hx hb d_Rd_readNumber_56 hl (Nat.le_of_ble_eq_true rfl) rfl (fun ls hl => ?_)
  have hl : lv_has ls 6 [(5, .int ((x3 <<< (((32 : Int32) - ((8 : Int32) * x2)) &&& 31)) >>> (((32 : Int32) - ((8 : Int32) * x2)) &&& 31))), (4, .int ((32 : Int32) - ((8 : Int32) * x2))), (0, .ref (a0 0)), (1, .int x1), (2, .int x2), (3, .int x3)] := hl
  refine lv_aload_n hx hb d_Rd_readNumber_58 rfl (lv_at hl 2 rfl) ?_
  refine va_get (D := D) (ci := 5) (v := .ref (a2 0)) (C := R_Rd) (T := T_Rd) (N := 11) hx hb ht in_Rd hown hK hI.1 0 rfl rfl 0 (by decide) (ht _ m_158) (fun _ h9 => h9) rfl d_Rd_readNumber_59 ?_
  refine lv_iload_n hx hb d_Rd_readNumber_62 rfl (lv_at hl 3 rfl) ?_
  refine lv_iload hx hb d_Rd_readNumber_63 (lv_at hl 0 rfl) ?_
  refine lv_iload hx hb d_Rd_readNumber_65 (lv_at hl 0 rfl) ?_
  obtain ⟨o1, ho2, h⟩ := bd_s h
  refine cl_i (W1 := fun (_ : Unit) => w_Rd g a0 (tw (a2 0) (sr 0)) s0 ++ (w_Bs g sr s1 ++ (w_Tr g a2 s2 ++ (rest)))) (va_runS (As := [.int ((x3 <<< (((32 : Int32) - ((8 : Int32) * x2)) &&& 31)) >>> (((32 : Int32) - ((8 : Int32) * x2)) &&& 31))]) (rest := [.int ((x3 <<< (((32 : Int32) - ((8 : Int32) * x2)) &&& 31)) >>> (((32 : Int32) - ((8 : Int32) * x2)) &&& 31)), .int x1, .ref (a2 0)]) ⟨hx, hb, hml, hown, ht⟩ (c_Tr_numberLength (l := l) (D := D) (A := A) (g := g) (rest := w_Rd g a0 (tw (a2 0) (sr 0)) s0 ++ (w_Bs g sr s1 ++ (w_Tr g a2 s2 ++ (rest))))  ho2) (va_cwS 1 ht (gd_S m_472 m_473 m_9 m_474) rfl rfl rfl (by decide +kernel) ⟨(Nat.le_of_ble_eq_true rfl), (Nat.le_of_ble_eq_true rfl)⟩) (prS hKK hI (List.Perm.refl _)) rfl rfl hl.1 rfl (lv_room (Nat.le_of_ble_eq_true rfl)) d_Rd_readNumber_67 ⟨(Nat.le_of_ble_eq_true rfl), (Nat.le_of_ble_eq_true rfl)⟩) hS (fun _ => ((List.Perm.refl _)).symm) (fun _ H locs hI hS => ?_)
  have hI : Iw D A (w_Rd g a0 (tw (a2 0) (sr 0)) s0 ++ (w_Bs g sr s1 ++ (w_Tr g a2 s2 ++ (rest)))) H := hI
  obtain ⟨o3, ho4, h⟩ := bd_s h
  refine cl_i (W1 := fun (_ : Unit) => w_Rd g a0 (tw (a2 0) (sr 0)) s0 ++ (w_Bs g sr s1 ++ (w_Tr g a2 o3.2 ++ (rest)))) (va_runV (As := [.int x1, .int ((x3 <<< (((32 : Int32) - ((8 : Int32) * x2)) &&& 31)) >>> (((32 : Int32) - ((8 : Int32) * x2)) &&& 31)), .int o1]) (rest := []) ⟨hx, hb, hml, hown, ht⟩ (c_Tr_add (l := l) (D := D) (A := A) (g := g) (rest := w_Rd g a0 (tw (a2 0) (sr 0)) s0 ++ (w_Bs g sr s1 ++ (rest))) (a0 := a2) ho4) (cwV 3 ht (gd_V m_425 m_426 m_427 m_9 m_428) rfl rfl rfl (by decide +kernel) ⟨(Nat.le_of_ble_eq_true rfl), (Nat.le_of_ble_eq_true rfl)⟩) (prV (ci := 7) (q0 := 0) hKK hI (mv_2) rfl rfl rfl) rfl rfl hl.1 rfl (lv_room (Nat.le_of_ble_eq_true rfl)) d_Rd_readNumber_70 ⟨(Nat.le_of_ble_eq_true rfl), (Nat.le_of_ble_eq_true rfl)⟩) hS (fun _ => ((mv_2)).symm) (fun _ H locs hI hS => ?_)
  have hI : Iw D A (w_Rd g a0 (tw (a2 0) (sr 0)) s0 ++ (w_Bs g sr s1 ++ (w_Tr g a2 o3.2 ++ (rest)))) H := hI
  refine lv_pop hx hb d_Rd_readNumber_73 rfl ?_
  refine lv_aload_n hx hb d_Rd_readNumber_74 rfl (lv_at hl 2 rfl) ?_
  refine lv_dup hx hb d_Rd_readNumber_75 rfl ?_
  refine va_get (D := D) (ci := 5) (v := .int (Rd_position s0)) (C := R_Rd) (T := T_Rd) (N := 11) hx hb ht in_Rd hown hK hI.1 0 rfl rfl 8 (by decide) (ht _ m_166) (fun _ h9 => h9) rfl d_Rd_readNumber_76 ?_
  refine lv_iload_n hx hb d_Rd_readNumber_79 rfl (lv_at hl 4 rfl) ?_
  refine lv_iadd hx hb d_Rd_readNumber_80 ?_
  refine va_put (D := D) (ci := 5) (v := .int ((Rd_position s0) + x2)) (ty := .int) (C := R_Rd) (T := T_Rd) (N := 11) hx hb ht in_Rd ty_Rd tyok_Rd nm_Rd hown hK hI.1 hI.2 hS 0 rfl rfl 8 (by decide) (ht _ m_166) (fun _ h9 => h9) rfl (by decide +kernel) rfl rfl (Nat.le_of_ble_eq_true rfl) d_Rd_readNumber_81 (fun H locs hP hD hS => ?_)
  have hI : Iw D A (w_Rd g a0 (tw (a2 0) (sr 0)) (Rd_set_position s0 ((Rd_position s0) + x2)) ++ (w_Bs g sr s1 ++ (w_Tr g a2 o3.2 ++ (rest)))) H := ⟨hP, hD⟩
  have h9 := Option.some.inj h
  subst h9
  exact W.vret hx hb hr (fun t ht hW => ⟨⟨(), rfl, trivial, ⟨by rw [ht]; exact hI, hKK.moved hW⟩⟩, hS.F ht⟩) hS.2.2 d_Rd_readNumber_84
set_option maxRecDepth 100000 in
set_option maxHeartbeats 4000000 in
theorem t_Rd_readNumber_11 {p : Program} {l : Launch} {e : Env} {s : State} {m : MethodId} {args : Array Value} {below : List Frame} {meth : Method} {c : Code} {D : va_G} {A : Nat → Prop} {g : Nat → ClassId} {rest : va_W} {a0 : Nat → Nat} {sr : Nat → Nat} {a2 : Nat → Nat} {ls : Array Slot} {H : Heap} {locs : List Loc} {k5 : S_Rd × S_Tr × Int32 × Int32 × Int32 × Int32 → Option (S_Rd × S_Tr)} {s1 : S_Bs} {s0 : S_Rd} {s2 : S_Tr} {x1 : Int32} {x2 : Int32} {x3 : Int32} {x4 : Int32} {out : S_Rd × S_Tr} (X : Cx p s m args meth c prog_7_method_15_code 6 ws_Rd_readNumber R_Rd none D g) (hk5 : ∀ (v : S_Rd × S_Tr × Int32 × Int32 × Int32 × Int32) (ls : Array Slot) (H : Heap) (locs : List Loc), lv_has ls 6 [(0, .ref (a0 0)), (1, .int v.2.2.1), (2, .int v.2.2.2.1), (3, .int v.2.2.2.2.1), (4, .int v.2.2.2.2.2)] → Iw D A (w_Rd g a0 (tw (a2 0) (sr 0)) v.1 ++ (w_Bs g sr s1 ++ (w_Tr g a2 v.2.1 ++ (rest)))) H → va_S A s.heap H locs → k5 v = some out → W p l e (headSpec ws_Rd_readNumber { frames := 1, cells := 0, slots := 0, locals := 24 }).room s m args below meth c H locs 0 0 (MQ below (QcV D A g (fun (_ : Unit) => w_Rd g a0 (tw (a2 0) (sr 0)) out.1 ++ (w_Bs g sr s1 ++ (w_Tr g a2 out.2 ++ (rest))))) args s 0 0 A) (F0 m 5 ls [])) (hl : lv_has ls 6 [(0, .ref (a0 0)), (1, .int x1), (2, .int x2), (3, .int x3), (4, .int x4)]) (hI : Iw D A (w_Rd g a0 (tw (a2 0) (sr 0)) s0 ++ (w_Bs g sr s1 ++ (w_Tr g a2 s2 ++ (rest)))) H) (hS : va_S A s.heap H locs) (h : B_Rd_readNumber_11 k5 s1 s0 s2 x1 x2 x3 x4 = some out) : W p l e (headSpec ws_Rd_readNumber { frames := 1, cells := 0, slots := 0, locals := 24 }).room s m args below meth c H locs 0 0 (MQ below (QcV D A g (fun (_ : Unit) => w_Rd g a0 (tw (a2 0) (sr 0)) out.1 ++ (w_Bs g sr s1 ++ (w_Tr g a2 out.2 ++ (rest))))) args s 0 0 A) (F0 m 11 ls []) := by
  have X1 := X
  obtain ⟨hx, hb, hml, hown, hts, hr, hlocks, hKK⟩ := X1
  have ht : ∀ w ∈ TB, w.before args s = true := fun w h => hts w (List.mem_cons_of_mem _ h)
  have hK := hKK.1
  unfold B_Rd_readNumber_11 at h
  refine lv_iload_n hx hb d_Rd_readNumber_11 rfl (lv_at hl 3 rfl) ?_
  refine lv_aload_n hx hb d_Rd_readNumber_12 rfl (lv_at hl 0 rfl) ?_
  refine va_get (D := D) (ci := 5) (v := .ref (sr 0)) (C := R_Rd) (T := T_Rd) (N := 11) hx hb ht in_Rd hown hK hI.1 0 rfl rfl 6 (by decide) (ht _ m_164) (fun _ h9 => h9) rfl d_Rd_readNumber_13 ?_
  refine lv_aload_n hx hb d_Rd_readNumber_16 rfl (lv_at hl 0 rfl) ?_
  refine va_get (D := D) (ci := 5) (v := .int (Rd_position s0)) (C := R_Rd) (T := T_Rd) (N := 11) hx hb ht in_Rd hown hK hI.1 0 rfl rfl 8 (by decide) (ht _ m_166) (fun _ h9 => h9) rfl d_Rd_readNumber_17 ?_
  refine lv_iload hx hb d_Rd_readNumber_20 (lv_at hl 4 rfl) ?_
  refine lv_iadd hx hb d_Rd_readNumber_22 ?_
  obtain ⟨o1, ho2, h⟩ := bd_s h
  refine cl_i (W1 := fun (_ : Unit) => w_Rd g a0 (tw (a2 0) (sr 0)) s0 ++ (w_Bs g sr s1 ++ (w_Tr g a2 s2 ++ (rest)))) (va_runV (As := [.int ((Rd_position s0) + x4)]) (rest := [.int x3]) ⟨hx, hb, hml, hown, ht⟩ (c_Bs_get (l := l) (D := D) (A := A) (g := g) (rest := w_Rd g a0 (tw (a2 0) (sr 0)) s0 ++ (w_Tr g a2 s2 ++ (rest))) (a0 := sr) ho2) (cwV 1 ht (gd_V m_445 m_307 m_308 m_2 m_309) rfl rfl rfl (by decide +kernel) ⟨(Nat.le_of_ble_eq_true rfl), (Nat.le_of_ble_eq_true rfl)⟩) (prV (ci := 0) (q0 := 0) hKK hI (mv_1) rfl rfl rfl) rfl rfl hl.1 rfl (lv_room (Nat.le_of_ble_eq_true rfl)) d_Rd_readNumber_23 ⟨(Nat.le_of_ble_eq_true rfl), (Nat.le_of_ble_eq_true rfl)⟩) hS (fun _ => ((mv_1)).symm) (fun _ H locs hI hS => ?_)
  have hI : Iw D A (w_Rd g a0 (tw (a2 0) (sr 0)) s0 ++ (w_Bs g sr s1 ++ (w_Tr g a2 s2 ++ (rest)))) H := hI
  refine lv_bipush (v := 8) hx hb d_Rd_readNumber_26 (by decide) ?_
  refine lv_iload hx hb d_Rd_readNumber_28 (lv_at hl 4 rfl) ?_
  refine lv_imul hx hb d_Rd_readNumber_30 ?_
  refine lv_ishl hx hb d_Rd_readNumber_31 ?_
  refine lv_ior hx hb d_Rd_readNumber_32 ?_
  refine lv_istore_n hx hb d_Rd_readNumber_33 rfl hl (Nat.le_of_ble_eq_true rfl) rfl (fun ls hl => ?_)
  have hl : lv_has ls 6 [(3, .int (x3 ||| (o1 <<< (((8 : Int32) * x4) &&& 31)))), (0, .ref (a0 0)), (1, .int x1), (2, .int x2), (4, .int x4)] := hl
  refine lv_iinc (k := 4) (v := (x4 + 1)) hx hb d_Rd_readNumber_34 hl rfl (congrArg (fun z => x4 + z) (by decide)) (Nat.le_of_ble_eq_true rfl) rfl (fun ls hl => ?_)
  have hl : lv_has ls 6 [(4, .int (x4 + 1)), (3, .int (x3 ||| (o1 <<< (((8 : Int32) * x4) &&& 31)))), (0, .ref (a0 0)), (1, .int x1), (2, .int x2)] := hl
  refine lv_goto (tgt := 5) hx hb d_Rd_readNumber_37 (by decide) ?_
  exact hk5 (s0, s2, x1, x2, (x3 ||| (o1 <<< (((8 : Int32) * x4) &&& 31))), (x4 + 1)) _ _ _ (lv_sub hl [2, 3, 4, 1, 0] rfl) hI hS h
set_option maxRecDepth 100000 in
set_option maxHeartbeats 4000000 in
theorem t_Rd_readNumber_5 {p : Program} {l : Launch} {e : Env} {s : State} {m : MethodId} {args : Array Value} {below : List Frame} {meth : Method} {c : Code} {D : va_G} {A : Nat → Prop} {g : Nat → ClassId} {rest : va_W} {a0 : Nat → Nat} {sr : Nat → Nat} {a2 : Nat → Nat} {ls : Array Slot} {H : Heap} {locs : List Loc} {k5 : S_Rd × S_Tr × Int32 × Int32 × Int32 × Int32 → Option (S_Rd × S_Tr)} {s1 : S_Bs} {s0 : S_Rd} {s2 : S_Tr} {x1 : Int32} {x2 : Int32} {x3 : Int32} {x4 : Int32} {out : S_Rd × S_Tr} (X : Cx p s m args meth c prog_7_method_15_code 6 ws_Rd_readNumber R_Rd none D g) (hk5 : ∀ (v : S_Rd × S_Tr × Int32 × Int32 × Int32 × Int32) (ls : Array Slot) (H : Heap) (locs : List Loc), lv_has ls 6 [(0, .ref (a0 0)), (1, .int v.2.2.1), (2, .int v.2.2.2.1), (3, .int v.2.2.2.2.1), (4, .int v.2.2.2.2.2)] → Iw D A (w_Rd g a0 (tw (a2 0) (sr 0)) v.1 ++ (w_Bs g sr s1 ++ (w_Tr g a2 v.2.1 ++ (rest)))) H → va_S A s.heap H locs → k5 v = some out → W p l e (headSpec ws_Rd_readNumber { frames := 1, cells := 0, slots := 0, locals := 24 }).room s m args below meth c H locs 0 0 (MQ below (QcV D A g (fun (_ : Unit) => w_Rd g a0 (tw (a2 0) (sr 0)) out.1 ++ (w_Bs g sr s1 ++ (w_Tr g a2 out.2 ++ (rest))))) args s 0 0 A) (F0 m 5 ls [])) (hl : lv_has ls 6 [(0, .ref (a0 0)), (1, .int x1), (2, .int x2), (3, .int x3), (4, .int x4)]) (hI : Iw D A (w_Rd g a0 (tw (a2 0) (sr 0)) s0 ++ (w_Bs g sr s1 ++ (w_Tr g a2 s2 ++ (rest)))) H) (hS : va_S A s.heap H locs) (h : B_Rd_readNumber_5 k5 s1 s0 s2 x1 x2 x3 x4 = some out) : W p l e (headSpec ws_Rd_readNumber { frames := 1, cells := 0, slots := 0, locals := 24 }).room s m args below meth c H locs 0 0 (MQ below (QcV D A g (fun (_ : Unit) => w_Rd g a0 (tw (a2 0) (sr 0)) out.1 ++ (w_Bs g sr s1 ++ (w_Tr g a2 out.2 ++ (rest))))) args s 0 0 A) (F0 m 5 ls []) := by
  have X1 := X
  obtain ⟨hx, hb, hml, hown, hts, hr, hlocks, hKK⟩ := X1
  have ht : ∀ w ∈ TB, w.before args s = true := fun w h => hts w (List.mem_cons_of_mem _ h)
  have hK := hKK.1
  unfold B_Rd_readNumber_5 at h
  refine lv_iload hx hb d_Rd_readNumber_5 (lv_at hl 4 rfl) ?_
  refine lv_iload_n hx hb d_Rd_readNumber_7 rfl (lv_at hl 2 rfl) ?_
  refine lv_icmp_ge (tgt := 40) hx hb d_Rd_readNumber_8 (by decide) (fun hc => ?_) (fun hc => ?_)
  · have h := it_t h hc
    exact t_Rd_readNumber_40 X (lv_sub hl [0, 1, 2, 3] rfl) hI hS h
  · have h := it_f h hc
    exact t_Rd_readNumber_11 X hk5 (lv_sub hl [0, 1, 2, 3, 4] rfl) hI hS h
set_option maxRecDepth 100000 in
set_option maxHeartbeats 4000000 in
theorem T_Rd_readNumber_5 {p : Program} {l : Launch} {e : Env} {s : State} {m : MethodId} {args : Array Value} {below : List Frame} {meth : Method} {c : Code} {D : va_G} {A : Nat → Prop} {g : Nat → ClassId} {rest : va_W} {a0 : Nat → Nat} {sr : Nat → Nat} {a2 : Nat → Nat} {ls : Array Slot} {H : Heap} {locs : List Loc} {s1 : S_Bs} {s0 : S_Rd} {s2 : S_Tr} {x1 : Int32} {x2 : Int32} {x3 : Int32} {x4 : Int32} {out : S_Rd × S_Tr} (X : Cx p s m args meth c prog_7_method_15_code 6 ws_Rd_readNumber R_Rd none D g) (hl : lv_has ls 6 [(0, .ref (a0 0)), (1, .int x1), (2, .int x2), (3, .int x3), (4, .int x4)]) (hI : Iw D A (w_Rd g a0 (tw (a2 0) (sr 0)) s0 ++ (w_Bs g sr s1 ++ (w_Tr g a2 s2 ++ (rest)))) H) (hS : va_S A s.heap H locs) (h : L_Rd_readNumber_5  s1 (s0, s2, x1, x2, x3, x4) = some out) : W p l e (headSpec ws_Rd_readNumber { frames := 1, cells := 0, slots := 0, locals := 24 }).room s m args below meth c H locs 0 0 (MQ below (QcV D A g (fun (_ : Unit) => w_Rd g a0 (tw (a2 0) (sr 0)) out.1 ++ (w_Bs g sr s1 ++ (w_Tr g a2 out.2 ++ (rest))))) args s 0 0 A) (F0 m 5 ls []) := by
  unfold L_Rd_readNumber_5 at h
  exact lp_ind (P := fun v => ∀ (ls : Array Slot) (H : Heap) (locs : List Loc), lv_has ls 6 [(0, .ref (a0 0)), (1, .int v.2.2.1), (2, .int v.2.2.2.1), (3, .int v.2.2.2.2.1), (4, .int v.2.2.2.2.2)] → Iw D A (w_Rd g a0 (tw (a2 0) (sr 0)) v.1 ++ (w_Bs g sr s1 ++ (w_Tr g a2 v.2.1 ++ (rest)))) H → va_S A s.heap H locs → W p l e (headSpec ws_Rd_readNumber { frames := 1, cells := 0, slots := 0, locals := 24 }).room s m args below meth c H locs 0 0 (MQ below (QcV D A g (fun (_ : Unit) => w_Rd g a0 (tw (a2 0) (sr 0)) out.1 ++ (w_Bs g sr s1 ++ (w_Tr g a2 out.2 ++ (rest))))) args s 0 0 A) (F0 m 5 ls [])) (fun k v ih hb ls H locs  hl hI hS => t_Rd_readNumber_5 X  (fun v' ls H locs  hl hI hS h' => ih v' h' ls H locs  hl hI hS) hl hI hS hb) FU _ h ls H locs  hl hI hS
set_option maxRecDepth 100000 in
set_option maxHeartbeats 4000000 in
theorem t_Rd_readNumber_0 {p : Program} {l : Launch} {e : Env} {s : State} {m : MethodId} {args : Array Value} {below : List Frame} {meth : Method} {c : Code} {D : va_G} {A : Nat → Prop} {g : Nat → ClassId} {rest : va_W} {a0 : Nat → Nat} {sr : Nat → Nat} {a2 : Nat → Nat} {ls : Array Slot} {H : Heap} {locs : List Loc} {s1 : S_Bs} {s0 : S_Rd} {s2 : S_Tr} {x1 : Int32} {x2 : Int32} {out : S_Rd × S_Tr} (X : Cx p s m args meth c prog_7_method_15_code 6 ws_Rd_readNumber R_Rd none D g) (hl : lv_has ls 6 [(0, .ref (a0 0)), (1, .int x1), (2, .int x2)]) (hI : Iw D A (w_Rd g a0 (tw (a2 0) (sr 0)) s0 ++ (w_Bs g sr s1 ++ (w_Tr g a2 s2 ++ (rest)))) H) (hS : va_S A s.heap H locs) (h : B_Rd_readNumber_0  s1 s0 s2 x1 x2 = some out) : W p l e (headSpec ws_Rd_readNumber { frames := 1, cells := 0, slots := 0, locals := 24 }).room s m args below meth c H locs 0 0 (MQ below (QcV D A g (fun (_ : Unit) => w_Rd g a0 (tw (a2 0) (sr 0)) out.1 ++ (w_Bs g sr s1 ++ (w_Tr g a2 out.2 ++ (rest))))) args s 0 0 A) (F0 m 0 ls []) := by
  have X1 := X
  obtain ⟨hx, hb, hml, hown, hts, hr, hlocks, hKK⟩ := X1
  have ht : ∀ w ∈ TB, w.before args s = true := fun w h => hts w (List.mem_cons_of_mem _ h)
  have hK := hKK.1
  unfold B_Rd_readNumber_0 at h
  refine lv_iconst (v := 0) hx hb d_Rd_readNumber_0 (by decide) ?_
  refine lv_istore_n hx hb d_Rd_readNumber_1 rfl hl (Nat.le_of_ble_eq_true rfl) rfl (fun ls hl => ?_)
  have hl : lv_has ls 6 [(3, .int (0 : Int32)), (0, .ref (a0 0)), (1, .int x1), (2, .int x2)] := hl
  refine lv_iconst (v := 0) hx hb d_Rd_readNumber_2 (by decide) ?_
  refine lv_istore hx hb d_Rd_readNumber_3 hl (Nat.le_of_ble_eq_true rfl) rfl (fun ls hl => ?_)
  have hl : lv_has ls 6 [(4, .int (0 : Int32)), (3, .int (0 : Int32)), (0, .ref (a0 0)), (1, .int x1), (2, .int x2)] := hl
  exact T_Rd_readNumber_5 X (lv_sub hl [2, 3, 4, 1, 0] rfl) hI hS h
set_option maxRecDepth 100000 in
set_option maxHeartbeats 4000000 in
theorem c_Rd_readNumber {l : Launch} {D : va_G} {A : Nat → Prop} {g : Nat → ClassId} {rest : va_W} {a0 : Nat → Nat} {sr : Nat → Nat} {a2 : Nat → Nat} {s0 : S_Rd} {s1 : S_Bs} {s2 : S_Tr} {x1 : Int32} {x2 : Int32} {out : S_Rd × S_Tr} (h : F_Rd_readNumber s0 s1 s2 x1 x2 = some out) : Met l y_Rd_readNumber ws_Rd_readNumber { frames := 1, cells := 0, slots := 0, locals := 24 } (PcW D A g [.ref (a0 0), .int x1, .int x2] (w_Rd g a0 (tw (a2 0) (sr 0)) s0 ++ (w_Bs g sr s1 ++ (w_Tr g a2 s2 ++ (rest))))) (QcV D A g (fun (_ : Unit) => w_Rd g a0 (tw (a2 0) (sr 0)) out.1 ++ (w_Bs g sr s1 ++ (w_Tr g a2 out.2 ++ (rest))))) 0 0 A := by
  refine Met.ofW (cc := prog_7_method_15_code) (maxL := 6) (ret := none) (by decide) rfl ?_
  intro p e s m args below meth c s₁ B hml hv
  obtain ⟨rfl, hI, hK⟩ := hv
  have hl := lv_entry [.ref (a0 0), .int x1, .int x2] (n := 6) (Nat.le_of_ble_eq_true rfl)
  rw [lg_entry_eq]
  generalize (lg_sl [.ref (a0 0), .int x1, .int x2] ++ List.replicate (6 - (lg_sl [.ref (a0 0), .int x1, .int x2]).length) Slot.unset).toArray = ls at hl ⊢
  have hl : lv_has ls 6 [(0, .ref (a0 0)), (1, .int x1), (2, .int x2)] := hl
  exact t_Rd_readNumber_0 ⟨B.exec, B.bytes, hml, findClass_of_methodNamed B.named, atoms_spec (ws := ws_Rd_readNumber) B.pre, B.returns, B.notSynchronized, hK⟩ (lv_sub hl [0, 1, 2] rfl) hI va_S.rf h
def ws_Rd_readText : List Cond := .code y_Rd_readText prog_7_method_16_code 6 none :: TB
def B_Rd_readText_144 (s1 : S_Bs) (s0 : S_Rd) (s2 : S_Tr) (x2 : Int32) : Option (S_Rd × S_Tr) :=
  some ((Rd_set_position s0 ((Rd_position s0) + x2)), s2)
def B_Rd_readText_119 (s1 : S_Bs) (s0 : S_Rd) (s2 : S_Tr) : Option (S_Rd × S_Tr) :=
  ((F_Rd_fail s0 (5 : Int32) (Rd_position s0)).bind fun o1 => some (o1, s2))
def B_Rd_readText_129 (k83 : S_Rd × S_Tr × Int32 × Int32 × Int32 → Option (S_Rd × S_Tr)) (s1 : S_Bs) (s0 : S_Rd) (s2 : S_Tr) (x2 : Int32) (x3 : Int32) (x4 : Int32) (x5 : Int32) : Option (S_Rd × S_Tr) :=
  ((F_Tr_addCharacter s2 x5).bind fun o1 => (k83 (s0, o1, x2, x3, (x4 + 1))))
def B_Rd_readText_112 (k83 : S_Rd × S_Tr × Int32 × Int32 × Int32 → Option (S_Rd × S_Tr)) (s1 : S_Bs) (s0 : S_Rd) (s2 : S_Tr) (x2 : Int32) (x3 : Int32) (x4 : Int32) (x5 : Int32) : Option (S_Rd × S_Tr) :=
  (if x5 ≤ (126 : Int32) then (B_Rd_readText_129 k83 s1 s0 s2 x2 x3 x4 x5) else (B_Rd_readText_119 s1 s0 s2))
def B_Rd_readText_89 (k83 : S_Rd × S_Tr × Int32 × Int32 × Int32 → Option (S_Rd × S_Tr)) (s1 : S_Bs) (s0 : S_Rd) (s2 : S_Tr) (x2 : Int32) (x3 : Int32) (x4 : Int32) : Option (S_Rd × S_Tr) :=
  ((F_Bs_get s1 ((Rd_position s0) + x4)).bind fun o1 => (if o1 < (32 : Int32) then (B_Rd_readText_119 s1 s0 s2) else (B_Rd_readText_112 k83 s1 s0 s2 x2 x3 x4 o1)))
def B_Rd_readText_83 (k83 : S_Rd × S_Tr × Int32 × Int32 × Int32 → Option (S_Rd × S_Tr)) (s1 : S_Bs) (s0 : S_Rd) (s2 : S_Tr) (x2 : Int32) (x3 : Int32) (x4 : Int32) : Option (S_Rd × S_Tr) :=
  (if x3 ≤ x4 then (B_Rd_readText_144 s1 s0 s2 x2) else (B_Rd_readText_89 k83 s1 s0 s2 x2 x3 x4))
def L_Rd_readText_83 (s1 : S_Bs) (v : S_Rd × S_Tr × Int32 × Int32 × Int32) : Option (S_Rd × S_Tr) := lp (fun k83 v => B_Rd_readText_83  k83 s1 v.1 v.2.1 v.2.2.1 v.2.2.2.1 v.2.2.2.2) FU v
def B_Rd_readText_63 (s1 : S_Bs) (s0 : S_Rd) (s2 : S_Tr) (x1 : Int32) (x2 : Int32) (x3 : Int32) : Option (S_Rd × S_Tr) :=
  ((F_Tr_characterCount s2).bind fun o1 => ((F_Tr_add s2 x1 o1 x3).bind fun o3 => (L_Rd_readText_83 s1 (s0, o3.2, x2, x3, (0 : Int32)))))
def B_Rd_readText_53 (s1 : S_Bs) (s0 : S_Rd) (s2 : S_Tr) : Option (S_Rd × S_Tr) :=
  ((F_Rd_fail s0 (5 : Int32) (Rd_position s0)).bind fun o1 => some (o1, s2))
def B_Rd_readText_33 (s1 : S_Bs) (s0 : S_Rd) (s2 : S_Tr) (x1 : Int32) (x2 : Int32) (x3 : Int32) : Option (S_Rd × S_Tr) :=
  ((F_Bs_get s1 (((Rd_position s0) + x3) - (1 : Int32))).bind fun o1 => (if o1 = (32 : Int32) then (B_Rd_readText_53 s1 s0 s2) else (B_Rd_readText_63 s1 s0 s2 x1 x2 x3)))
def B_Rd_readText_29 (s1 : S_Bs) (s0 : S_Rd) (s2 : S_Tr) (x1 : Int32) (x2 : Int32) (x3 : Int32) : Option (S_Rd × S_Tr) :=
  (if x3 ≤ 0 then (B_Rd_readText_63 s1 s0 s2 x1 x2 x3) else (B_Rd_readText_33 s1 s0 s2 x1 x2 x3))
def B_Rd_readText_26 (s1 : S_Bs) (s0 : S_Rd) (s2 : S_Tr) (x1 : Int32) (x2 : Int32) (x3 : Int32) : Option (S_Rd × S_Tr) :=
  (B_Rd_readText_29 s1 s0 s2 x1 x2 (x3 + (-1)))
def B_Rd_readText_6 (s1 : S_Bs) (s0 : S_Rd) (s2 : S_Tr) (x1 : Int32) (x2 : Int32) (x3 : Int32) : Option (S_Rd × S_Tr) :=
  ((F_Bs_get s1 (((Rd_position s0) + x2) - (1 : Int32))).bind fun o1 => (if o1 = (32 : Int32) then (B_Rd_readText_26 s1 s0 s2 x1 x2 x3) else (B_Rd_readText_29 s1 s0 s2 x1 x2 x3)))
def B_Rd_readText_0 (s1 : S_Bs) (s0 : S_Rd) (s2 : S_Tr) (x1 : Int32) (x2 : Int32) : Option (S_Rd × S_Tr) :=
  (if x2 ≤ 0 then (B_Rd_readText_29 s1 s0 s2 x1 x2 x2) else (B_Rd_readText_6 s1 s0 s2 x1 x2 x2))
def F_Rd_readText (s0 : S_Rd) (s1 : S_Bs) (s2 : S_Tr) (x1 : Int32) (x2 : Int32) : Option (S_Rd × S_Tr) := B_Rd_readText_0 s1 s0 s2 x1 x2
set_option maxRecDepth 100000 in
set_option maxHeartbeats 4000000 in
theorem t_Rd_readText_144 {p : Program} {l : Launch} {e : Env} {s : State} {m : MethodId} {args : Array Value} {below : List Frame} {meth : Method} {c : Code} {D : va_G} {A : Nat → Prop} {g : Nat → ClassId} {rest : va_W} {a0 : Nat → Nat} {sr : Nat → Nat} {a2 : Nat → Nat} {ls : Array Slot} {H : Heap} {locs : List Loc} {s1 : S_Bs} {s0 : S_Rd} {s2 : S_Tr} {x2 : Int32} {out : S_Rd × S_Tr} (X : Cx p s m args meth c prog_7_method_16_code 6 ws_Rd_readText R_Rd none D g) (hl : lv_has ls 6 [(0, .ref (a0 0)), (2, .int x2)]) (hI : Iw D A (w_Rd g a0 (tw (a2 0) (sr 0)) s0 ++ (w_Bs g sr s1 ++ (w_Tr g a2 s2 ++ (rest)))) H) (hS : va_S A s.heap H locs) (h : B_Rd_readText_144  s1 s0 s2 x2 = some out) : W p l e (headSpec ws_Rd_readText { frames := 1, cells := 0, slots := 0, locals := 24 }).room s m args below meth c H locs 0 0 (MQ below (QcV D A g (fun (_ : Unit) => w_Rd g a0 (tw (a2 0) (sr 0)) out.1 ++ (w_Bs g sr s1 ++ (w_Tr g a2 out.2 ++ (rest))))) args s 0 0 A) (F0 m 144 ls []) := by
  have X1 := X
  obtain ⟨hx, hb, hml, hown, hts, hr, hlocks, hKK⟩ := X1
  have ht : ∀ w ∈ TB, w.before args s = true := fun w h => hts w (List.mem_cons_of_mem _ h)
  have hK := hKK.1
  unfold B_Rd_readText_144 at h
  refine lv_aload_n hx hb d_Rd_readText_144 rfl (lv_at hl 0 rfl) ?_
  refine lv_dup hx hb d_Rd_readText_145 rfl ?_
  refine va_get (D := D) (ci := 5) (v := .int (Rd_position s0)) (C := R_Rd) (T := T_Rd) (N := 11) hx hb ht in_Rd hown hK hI.1 0 rfl rfl 8 (by decide) (ht _ m_166) (fun _ h9 => h9) rfl d_Rd_readText_146 ?_
  refine lv_iload_n hx hb d_Rd_readText_149 rfl (lv_at hl 1 rfl) ?_
  refine lv_iadd hx hb d_Rd_readText_150 ?_
  refine va_put (D := D) (ci := 5) (v := .int ((Rd_position s0) + x2)) (ty := .int) (C := R_Rd) (T := T_Rd) (N := 11) hx hb ht in_Rd ty_Rd tyok_Rd nm_Rd hown hK hI.1 hI.2 hS 0 rfl rfl 8 (by decide) (ht _ m_166) (fun _ h9 => h9) rfl (by decide +kernel) rfl rfl (Nat.le_of_ble_eq_true rfl) d_Rd_readText_151 (fun H locs hP hD hS => ?_)
  have hI : Iw D A (w_Rd g a0 (tw (a2 0) (sr 0)) (Rd_set_position s0 ((Rd_position s0) + x2)) ++ (w_Bs g sr s1 ++ (w_Tr g a2 s2 ++ (rest)))) H := ⟨hP, hD⟩
  have h9 := Option.some.inj h
  subst h9
  exact W.vret hx hb hr (fun t ht hW => ⟨⟨(), rfl, trivial, ⟨by rw [ht]; exact hI, hKK.moved hW⟩⟩, hS.F ht⟩) hS.2.2 d_Rd_readText_154
set_option maxRecDepth 100000 in
set_option maxHeartbeats 4000000 in
theorem t_Rd_readText_119 {p : Program} {l : Launch} {e : Env} {s : State} {m : MethodId} {args : Array Value} {below : List Frame} {meth : Method} {c : Code} {D : va_G} {A : Nat → Prop} {g : Nat → ClassId} {rest : va_W} {a0 : Nat → Nat} {sr : Nat → Nat} {a2 : Nat → Nat} {ls : Array Slot} {H : Heap} {locs : List Loc} {s1 : S_Bs} {s0 : S_Rd} {s2 : S_Tr} {out : S_Rd × S_Tr} (X : Cx p s m args meth c prog_7_method_16_code 6 ws_Rd_readText R_Rd none D g) (hl : lv_has ls 6 [(0, .ref (a0 0))]) (hI : Iw D A (w_Rd g a0 (tw (a2 0) (sr 0)) s0 ++ (w_Bs g sr s1 ++ (w_Tr g a2 s2 ++ (rest)))) H) (hS : va_S A s.heap H locs) (h : B_Rd_readText_119  s1 s0 s2 = some out) : W p l e (headSpec ws_Rd_readText { frames := 1, cells := 0, slots := 0, locals := 24 }).room s m args below meth c H locs 0 0 (MQ below (QcV D A g (fun (_ : Unit) => w_Rd g a0 (tw (a2 0) (sr 0)) out.1 ++ (w_Bs g sr s1 ++ (w_Tr g a2 out.2 ++ (rest))))) args s 0 0 A) (F0 m 119 ls []) := by
  have X1 := X
  obtain ⟨hx, hb, hml, hown, hts, hr, hlocks, hKK⟩ := X1
  have ht : ∀ w ∈ TB, w.before args s = true := fun w h => hts w (List.mem_cons_of_mem _ h)
  have hK := hKK.1
  unfold B_Rd_readText_119 at h
  refine lv_aload_n hx hb d_Rd_readText_119 rfl (lv_at hl 0 rfl) ?_
  refine lv_iconst (v := 5) hx hb d_Rd_readText_120 (by decide) ?_
  refine lv_aload_n hx hb d_Rd_readText_121 rfl (lv_at hl 0 rfl) ?_
  refine va_get (D := D) (ci := 5) (v := .int (Rd_position s0)) (C := R_Rd) (T := T_Rd) (N := 11) hx hb ht in_Rd hown hK hI.1 0 rfl rfl 8 (by decide) (ht _ m_166) (fun _ h9 => h9) rfl d_Rd_readText_122 ?_
  obtain ⟨o1, ho2, h⟩ := bd_s h
  refine cl_v (W1 := fun (_ : Unit) => w_Rd g a0 (tw (a2 0) (sr 0)) o1 ++ (w_Bs g sr s1 ++ (w_Tr g a2 s2 ++ (rest)))) (va_runV (As := [.int (5 : Int32), .int (Rd_position s0)]) (rest := []) ⟨hx, hb, hml, hown, ht⟩ (c_Rd_fail (l := l) (D := D) (A := A) (g := g) (rest := w_Bs g sr s1 ++ (w_Tr g a2 s2 ++ (rest))) (a0 := a0) (a1 := a2) (sr := sr) ho2) (cwV 2 ht (gd_V m_433 m_435 mp_16 m_8 m_436) rfl rfl rfl (by decide +kernel) ⟨(Nat.le_of_ble_eq_true rfl), (Nat.le_of_ble_eq_true rfl)⟩) (prV (ci := 5) (q0 := 0) hKK hI (List.Perm.refl _) rfl rfl rfl) rfl rfl hl.1 rfl (lv_room (Nat.le_of_ble_eq_true rfl)) d_Rd_readText_125 ⟨(Nat.le_of_ble_eq_true rfl), (Nat.le_of_ble_eq_true rfl)⟩) hS (fun _ => ((List.Perm.refl _)).symm) (fun _ H locs hI hS => ?_)
  have hI : Iw D A (w_Rd g a0 (tw (a2 0) (sr 0)) o1 ++ (w_Bs g sr s1 ++ (w_Tr g a2 s2 ++ (rest)))) H := hI
  have h9 := Option.some.inj h
  subst h9
  exact W.vret hx hb hr (fun t ht hW => ⟨⟨(), rfl, trivial, ⟨by rw [ht]; exact hI, hKK.moved hW⟩⟩, hS.F ht⟩) hS.2.2 d_Rd_readText_128
set_option maxRecDepth 100000 in
set_option maxHeartbeats 4000000 in
theorem t_Rd_readText_129 {p : Program} {l : Launch} {e : Env} {s : State} {m : MethodId} {args : Array Value} {below : List Frame} {meth : Method} {c : Code} {D : va_G} {A : Nat → Prop} {g : Nat → ClassId} {rest : va_W} {a0 : Nat → Nat} {sr : Nat → Nat} {a2 : Nat → Nat} {ls : Array Slot} {H : Heap} {locs : List Loc} {k83 : S_Rd × S_Tr × Int32 × Int32 × Int32 → Option (S_Rd × S_Tr)} {s1 : S_Bs} {s0 : S_Rd} {s2 : S_Tr} {x2 : Int32} {x3 : Int32} {x4 : Int32} {x5 : Int32} {out : S_Rd × S_Tr} (X : Cx p s m args meth c prog_7_method_16_code 6 ws_Rd_readText R_Rd none D g) (hk83 : ∀ (v : S_Rd × S_Tr × Int32 × Int32 × Int32) (ls : Array Slot) (H : Heap) (locs : List Loc), lv_has ls 6 [(0, .ref (a0 0)), (2, .int v.2.2.1), (3, .int v.2.2.2.1), (4, .int v.2.2.2.2)] → Iw D A (w_Rd g a0 (tw (a2 0) (sr 0)) v.1 ++ (w_Bs g sr s1 ++ (w_Tr g a2 v.2.1 ++ (rest)))) H → va_S A s.heap H locs → k83 v = some out → W p l e (headSpec ws_Rd_readText { frames := 1, cells := 0, slots := 0, locals := 24 }).room s m args below meth c H locs 0 0 (MQ below (QcV D A g (fun (_ : Unit) => w_Rd g a0 (tw (a2 0) (sr 0)) out.1 ++ (w_Bs g sr s1 ++ (w_Tr g a2 out.2 ++ (rest))))) args s 0 0 A) (F0 m 83 ls [])) (hl : lv_has ls 6 [(0, .ref (a0 0)), (2, .int x2), (3, .int x3), (4, .int x4), (5, .int x5)]) (hI : Iw D A (w_Rd g a0 (tw (a2 0) (sr 0)) s0 ++ (w_Bs g sr s1 ++ (w_Tr g a2 s2 ++ (rest)))) H) (hS : va_S A s.heap H locs) (h : B_Rd_readText_129 k83 s1 s0 s2 x2 x3 x4 x5 = some out) : W p l e (headSpec ws_Rd_readText { frames := 1, cells := 0, slots := 0, locals := 24 }).room s m args below meth c H locs 0 0 (MQ below (QcV D A g (fun (_ : Unit) => w_Rd g a0 (tw (a2 0) (sr 0)) out.1 ++ (w_Bs g sr s1 ++ (w_Tr g a2 out.2 ++ (rest))))) args s 0 0 A) (F0 m 129 ls []) := by
  have X1 := X
  obtain ⟨hx, hb, hml, hown, hts, hr, hlocks, hKK⟩ := X1
  have ht : ∀ w ∈ TB, w.before args s = true := fun w h => hts w (List.mem_cons_of_mem _ h)
  have hK := hKK.1
  unfold B_Rd_readText_129 at h
  refine lv_aload_n hx hb d_Rd_readText_129 rfl (lv_at hl 0 rfl) ?_
  refine va_get (D := D) (ci := 5) (v := .ref (a2 0)) (C := R_Rd) (T := T_Rd) (N := 11) hx hb ht in_Rd hown hK hI.1 0 rfl rfl 0 (by decide) (ht _ m_158) (fun _ h9 => h9) rfl d_Rd_readText_130 ?_
  refine lv_iload hx hb d_Rd_readText_133 (lv_at hl 4 rfl) ?_
  obtain ⟨o1, ho2, h⟩ := bd_s h
  refine cl_v (W1 := fun (_ : Unit) => w_Rd g a0 (tw (a2 0) (sr 0)) s0 ++ (w_Bs g sr s1 ++ (w_Tr g a2 o1 ++ (rest)))) (va_runV (As := [.int x5]) (rest := []) ⟨hx, hb, hml, hown, ht⟩ (c_Tr_addCharacter (l := l) (D := D) (A := A) (g := g) (rest := w_Rd g a0 (tw (a2 0) (sr 0)) s0 ++ (w_Bs g sr s1 ++ (rest))) (a0 := a2) ho2) (cwV 1 ht (gd_V m_483 m_484 m_485 m_9 m_486) rfl rfl rfl (by decide +kernel) ⟨(Nat.le_of_ble_eq_true rfl), (Nat.le_of_ble_eq_true rfl)⟩) (prV (ci := 7) (q0 := 0) hKK hI (mv_2) rfl rfl rfl) rfl rfl hl.1 rfl (lv_room (Nat.le_of_ble_eq_true rfl)) d_Rd_readText_135 ⟨(Nat.le_of_ble_eq_true rfl), (Nat.le_of_ble_eq_true rfl)⟩) hS (fun _ => ((mv_2)).symm) (fun _ H locs hI hS => ?_)
  have hI : Iw D A (w_Rd g a0 (tw (a2 0) (sr 0)) s0 ++ (w_Bs g sr s1 ++ (w_Tr g a2 o1 ++ (rest)))) H := hI
  refine lv_iinc (k := 3) (v := (x4 + 1)) hx hb d_Rd_readText_138 hl rfl (congrArg (fun z => x4 + z) (by decide)) (Nat.le_of_ble_eq_true rfl) rfl (fun ls hl => ?_)
  have hl : lv_has ls 6 [(4, .int (x4 + 1)), (0, .ref (a0 0)), (2, .int x2), (3, .int x3), (5, .int x5)] := hl
  refine lv_goto (tgt := 83) hx hb d_Rd_readText_141 (by decide) ?_
  exact hk83 (s0, o1, x2, x3, (x4 + 1)) _ _ _ (lv_sub hl [1, 2, 3, 0] rfl) hI hS h
set_option maxRecDepth 100000 in
set_option maxHeartbeats 4000000 in
theorem t_Rd_readText_112 {p : Program} {l : Launch} {e : Env} {s : State} {m : MethodId} {args : Array Value} {below : List Frame} {meth : Method} {c : Code} {D : va_G} {A : Nat → Prop} {g : Nat → ClassId} {rest : va_W} {a0 : Nat → Nat} {sr : Nat → Nat} {a2 : Nat → Nat} {ls : Array Slot} {H : Heap} {locs : List Loc} {k83 : S_Rd × S_Tr × Int32 × Int32 × Int32 → Option (S_Rd × S_Tr)} {s1 : S_Bs} {s0 : S_Rd} {s2 : S_Tr} {x2 : Int32} {x3 : Int32} {x4 : Int32} {x5 : Int32} {out : S_Rd × S_Tr} (X : Cx p s m args meth c prog_7_method_16_code 6 ws_Rd_readText R_Rd none D g) (hk83 : ∀ (v : S_Rd × S_Tr × Int32 × Int32 × Int32) (ls : Array Slot) (H : Heap) (locs : List Loc), lv_has ls 6 [(0, .ref (a0 0)), (2, .int v.2.2.1), (3, .int v.2.2.2.1), (4, .int v.2.2.2.2)] → Iw D A (w_Rd g a0 (tw (a2 0) (sr 0)) v.1 ++ (w_Bs g sr s1 ++ (w_Tr g a2 v.2.1 ++ (rest)))) H → va_S A s.heap H locs → k83 v = some out → W p l e (headSpec ws_Rd_readText { frames := 1, cells := 0, slots := 0, locals := 24 }).room s m args below meth c H locs 0 0 (MQ below (QcV D A g (fun (_ : Unit) => w_Rd g a0 (tw (a2 0) (sr 0)) out.1 ++ (w_Bs g sr s1 ++ (w_Tr g a2 out.2 ++ (rest))))) args s 0 0 A) (F0 m 83 ls [])) (hl : lv_has ls 6 [(0, .ref (a0 0)), (2, .int x2), (3, .int x3), (4, .int x4), (5, .int x5)]) (hI : Iw D A (w_Rd g a0 (tw (a2 0) (sr 0)) s0 ++ (w_Bs g sr s1 ++ (w_Tr g a2 s2 ++ (rest)))) H) (hS : va_S A s.heap H locs) (h : B_Rd_readText_112 k83 s1 s0 s2 x2 x3 x4 x5 = some out) : W p l e (headSpec ws_Rd_readText { frames := 1, cells := 0, slots := 0, locals := 24 }).room s m args below meth c H locs 0 0 (MQ below (QcV D A g (fun (_ : Unit) => w_Rd g a0 (tw (a2 0) (sr 0)) out.1 ++ (w_Bs g sr s1 ++ (w_Tr g a2 out.2 ++ (rest))))) args s 0 0 A) (F0 m 112 ls []) := by
  have X1 := X
  obtain ⟨hx, hb, hml, hown, hts, hr, hlocks, hKK⟩ := X1
  have ht : ∀ w ∈ TB, w.before args s = true := fun w h => hts w (List.mem_cons_of_mem _ h)
  have hK := hKK.1
  unfold B_Rd_readText_112 at h
  refine lv_iload hx hb d_Rd_readText_112 (lv_at hl 4 rfl) ?_
  refine lv_bipush (v := 126) hx hb d_Rd_readText_114 (by decide) ?_
  refine lv_icmp_le (tgt := 129) hx hb d_Rd_readText_116 (by decide) (fun hc => ?_) (fun hc => ?_)
  · have h := it_t h hc
    exact t_Rd_readText_129 X hk83 (lv_sub hl [0, 1, 2, 3, 4] rfl) hI hS h
  · have h := it_f h hc
    exact t_Rd_readText_119 X (lv_sub hl [0] rfl) hI hS h
set_option maxRecDepth 100000 in
set_option maxHeartbeats 4000000 in
theorem t_Rd_readText_89 {p : Program} {l : Launch} {e : Env} {s : State} {m : MethodId} {args : Array Value} {below : List Frame} {meth : Method} {c : Code} {D : va_G} {A : Nat → Prop} {g : Nat → ClassId} {rest : va_W} {a0 : Nat → Nat} {sr : Nat → Nat} {a2 : Nat → Nat} {ls : Array Slot} {H : Heap} {locs : List Loc} {k83 : S_Rd × S_Tr × Int32 × Int32 × Int32 → Option (S_Rd × S_Tr)} {s1 : S_Bs} {s0 : S_Rd} {s2 : S_Tr} {x2 : Int32} {x3 : Int32} {x4 : Int32} {out : S_Rd × S_Tr} (X : Cx p s m args meth c prog_7_method_16_code 6 ws_Rd_readText R_Rd none D g) (hk83 : ∀ (v : S_Rd × S_Tr × Int32 × Int32 × Int32) (ls : Array Slot) (H : Heap) (locs : List Loc), lv_has ls 6 [(0, .ref (a0 0)), (2, .int v.2.2.1), (3, .int v.2.2.2.1), (4, .int v.2.2.2.2)] → Iw D A (w_Rd g a0 (tw (a2 0) (sr 0)) v.1 ++ (w_Bs g sr s1 ++ (w_Tr g a2 v.2.1 ++ (rest)))) H → va_S A s.heap H locs → k83 v = some out → W p l e (headSpec ws_Rd_readText { frames := 1, cells := 0, slots := 0, locals := 24 }).room s m args below meth c H locs 0 0 (MQ below (QcV D A g (fun (_ : Unit) => w_Rd g a0 (tw (a2 0) (sr 0)) out.1 ++ (w_Bs g sr s1 ++ (w_Tr g a2 out.2 ++ (rest))))) args s 0 0 A) (F0 m 83 ls [])) (hl : lv_has ls 6 [(0, .ref (a0 0)), (2, .int x2), (3, .int x3), (4, .int x4)]) (hI : Iw D A (w_Rd g a0 (tw (a2 0) (sr 0)) s0 ++ (w_Bs g sr s1 ++ (w_Tr g a2 s2 ++ (rest)))) H) (hS : va_S A s.heap H locs) (h : B_Rd_readText_89 k83 s1 s0 s2 x2 x3 x4 = some out) : W p l e (headSpec ws_Rd_readText { frames := 1, cells := 0, slots := 0, locals := 24 }).room s m args below meth c H locs 0 0 (MQ below (QcV D A g (fun (_ : Unit) => w_Rd g a0 (tw (a2 0) (sr 0)) out.1 ++ (w_Bs g sr s1 ++ (w_Tr g a2 out.2 ++ (rest))))) args s 0 0 A) (F0 m 89 ls []) := by
  have X1 := X
  obtain ⟨hx, hb, hml, hown, hts, hr, hlocks, hKK⟩ := X1
  have ht : ∀ w ∈ TB, w.before args s = true := fun w h => hts w (List.mem_cons_of_mem _ h)
  have hK := hKK.1
  unfold B_Rd_readText_89 at h
  refine lv_aload_n hx hb d_Rd_readText_89 rfl (lv_at hl 0 rfl) ?_
  refine va_get (D := D) (ci := 5) (v := .ref (sr 0)) (C := R_Rd) (T := T_Rd) (N := 11) hx hb ht in_Rd hown hK hI.1 0 rfl rfl 6 (by decide) (ht _ m_164) (fun _ h9 => h9) rfl d_Rd_readText_90 ?_
  refine lv_aload_n hx hb d_Rd_readText_93 rfl (lv_at hl 0 rfl) ?_
  refine va_get (D := D) (ci := 5) (v := .int (Rd_position s0)) (C := R_Rd) (T := T_Rd) (N := 11) hx hb ht in_Rd hown hK hI.1 0 rfl rfl 8 (by decide) (ht _ m_166) (fun _ h9 => h9) rfl d_Rd_readText_94 ?_
  refine lv_iload hx hb d_Rd_readText_97 (lv_at hl 3 rfl) ?_
  refine lv_iadd hx hb d_Rd_readText_99 ?_
  obtain ⟨o1, ho2, h⟩ := bd_s h
  refine cl_i (W1 := fun (_ : Unit) => w_Rd g a0 (tw (a2 0) (sr 0)) s0 ++ (w_Bs g sr s1 ++ (w_Tr g a2 s2 ++ (rest)))) (va_runV (As := [.int ((Rd_position s0) + x4)]) (rest := []) ⟨hx, hb, hml, hown, ht⟩ (c_Bs_get (l := l) (D := D) (A := A) (g := g) (rest := w_Rd g a0 (tw (a2 0) (sr 0)) s0 ++ (w_Tr g a2 s2 ++ (rest))) (a0 := sr) ho2) (cwV 1 ht (gd_V m_445 m_307 m_308 m_2 m_309) rfl rfl rfl (by decide +kernel) ⟨(Nat.le_of_ble_eq_true rfl), (Nat.le_of_ble_eq_true rfl)⟩) (prV (ci := 0) (q0 := 0) hKK hI (mv_1) rfl rfl rfl) rfl rfl hl.1 rfl (lv_room (Nat.le_of_ble_eq_true rfl)) d_Rd_readText_100 ⟨(Nat.le_of_ble_eq_true rfl), (Nat.le_of_ble_eq_true rfl)⟩) hS (fun _ => ((mv_1)).symm) (fun _ H locs hI hS => ?_)
  have hI : Iw D A (w_Rd g a0 (tw (a2 0) (sr 0)) s0 ++ (w_Bs g sr s1 ++ (w_Tr g a2 s2 ++ (rest)))) H := hI
  refine lv_istore hx hb d_Rd_readText_103 hl (Nat.le_of_ble_eq_true rfl) rfl (fun ls hl => ?_)
  have hl : lv_has ls 6 [(5, .int o1), (0, .ref (a0 0)), (2, .int x2), (3, .int x3), (4, .int x4)] := hl
  refine lv_iload hx hb d_Rd_readText_105 (lv_at hl 0 rfl) ?_
  refine lv_bipush (v := 32) hx hb d_Rd_readText_107 (by decide) ?_
  refine lv_icmp_lt (tgt := 119) hx hb d_Rd_readText_109 (by decide) (fun hc => ?_) (fun hc => ?_)
  · have h := it_t h hc
    exact t_Rd_readText_119 X (lv_sub hl [1] rfl) hI hS h
  · have h := it_f h hc
    exact t_Rd_readText_112 X hk83 (lv_sub hl [1, 2, 3, 4, 0] rfl) hI hS h
set_option maxRecDepth 100000 in
set_option maxHeartbeats 4000000 in
theorem t_Rd_readText_83 {p : Program} {l : Launch} {e : Env} {s : State} {m : MethodId} {args : Array Value} {below : List Frame} {meth : Method} {c : Code} {D : va_G} {A : Nat → Prop} {g : Nat → ClassId} {rest : va_W} {a0 : Nat → Nat} {sr : Nat → Nat} {a2 : Nat → Nat} {ls : Array Slot} {H : Heap} {locs : List Loc} {k83 : S_Rd × S_Tr × Int32 × Int32 × Int32 → Option (S_Rd × S_Tr)} {s1 : S_Bs} {s0 : S_Rd} {s2 : S_Tr} {x2 : Int32} {x3 : Int32} {x4 : Int32} {out : S_Rd × S_Tr} (X : Cx p s m args meth c prog_7_method_16_code 6 ws_Rd_readText R_Rd none D g) (hk83 : ∀ (v : S_Rd × S_Tr × Int32 × Int32 × Int32) (ls : Array Slot) (H : Heap) (locs : List Loc), lv_has ls 6 [(0, .ref (a0 0)), (2, .int v.2.2.1), (3, .int v.2.2.2.1), (4, .int v.2.2.2.2)] → Iw D A (w_Rd g a0 (tw (a2 0) (sr 0)) v.1 ++ (w_Bs g sr s1 ++ (w_Tr g a2 v.2.1 ++ (rest)))) H → va_S A s.heap H locs → k83 v = some out → W p l e (headSpec ws_Rd_readText { frames := 1, cells := 0, slots := 0, locals := 24 }).room s m args below meth c H locs 0 0 (MQ below (QcV D A g (fun (_ : Unit) => w_Rd g a0 (tw (a2 0) (sr 0)) out.1 ++ (w_Bs g sr s1 ++ (w_Tr g a2 out.2 ++ (rest))))) args s 0 0 A) (F0 m 83 ls [])) (hl : lv_has ls 6 [(0, .ref (a0 0)), (2, .int x2), (3, .int x3), (4, .int x4)]) (hI : Iw D A (w_Rd g a0 (tw (a2 0) (sr 0)) s0 ++ (w_Bs g sr s1 ++ (w_Tr g a2 s2 ++ (rest)))) H) (hS : va_S A s.heap H locs) (h : B_Rd_readText_83 k83 s1 s0 s2 x2 x3 x4 = some out) : W p l e (headSpec ws_Rd_readText { frames := 1, cells := 0, slots := 0, locals := 24 }).room s m args below meth c H locs 0 0 (MQ below (QcV D A g (fun (_ : Unit) => w_Rd g a0 (tw (a2 0) (sr 0)) out.1 ++ (w_Bs g sr s1 ++ (w_Tr g a2 out.2 ++ (rest))))) args s 0 0 A) (F0 m 83 ls []) := by
  have X1 := X
  obtain ⟨hx, hb, hml, hown, hts, hr, hlocks, hKK⟩ := X1
  have ht : ∀ w ∈ TB, w.before args s = true := fun w h => hts w (List.mem_cons_of_mem _ h)
  have hK := hKK.1
  unfold B_Rd_readText_83 at h
  refine lv_iload hx hb d_Rd_readText_83 (lv_at hl 3 rfl) ?_
  refine lv_iload_n hx hb d_Rd_readText_85 rfl (lv_at hl 2 rfl) ?_
  refine lv_icmp_ge (tgt := 144) hx hb d_Rd_readText_86 (by decide) (fun hc => ?_) (fun hc => ?_)
  · have h := it_t h hc
    exact t_Rd_readText_144 X (lv_sub hl [0, 1] rfl) hI hS h
  · have h := it_f h hc
    exact t_Rd_readText_89 X hk83 (lv_sub hl [0, 1, 2, 3] rfl) hI hS h
set_option maxRecDepth 100000 in
set_option maxHeartbeats 4000000 in
theorem T_Rd_readText_83 {p : Program} {l : Launch} {e : Env} {s : State} {m : MethodId} {args : Array Value} {below : List Frame} {meth : Method} {c : Code} {D : va_G} {A : Nat → Prop} {g : Nat → ClassId} {rest : va_W} {a0 : Nat → Nat} {sr : Nat → Nat} {a2 : Nat → Nat} {ls : Array Slot} {H : Heap} {locs : List Loc} {s1 : S_Bs} {s0 : S_Rd} {s2 : S_Tr} {x2 : Int32} {x3 : Int32} {x4 : Int32} {out : S_Rd × S_Tr} (X : Cx p s m args meth c prog_7_method_16_code 6 ws_Rd_readText R_Rd none D g) (hl : lv_has ls 6 [(0, .ref (a0 0)), (2, .int x2), (3, .int x3), (4, .int x4)]) (hI : Iw D A (w_Rd g a0 (tw (a2 0) (sr 0)) s0 ++ (w_Bs g sr s1 ++ (w_Tr g a2 s2 ++ (rest)))) H) (hS : va_S A s.heap H locs) (h : L_Rd_readText_83  s1 (s0, s2, x2, x3, x4) = some out) : W p l e (headSpec ws_Rd_readText { frames := 1, cells := 0, slots := 0, locals := 24 }).room s m args below meth c H locs 0 0 (MQ below (QcV D A g (fun (_ : Unit) => w_Rd g a0 (tw (a2 0) (sr 0)) out.1 ++ (w_Bs g sr s1 ++ (w_Tr g a2 out.2 ++ (rest))))) args s 0 0 A) (F0 m 83 ls []) := by
  unfold L_Rd_readText_83 at h
  exact lp_ind (P := fun v => ∀ (ls : Array Slot) (H : Heap) (locs : List Loc), lv_has ls 6 [(0, .ref (a0 0)), (2, .int v.2.2.1), (3, .int v.2.2.2.1), (4, .int v.2.2.2.2)] → Iw D A (w_Rd g a0 (tw (a2 0) (sr 0)) v.1 ++ (w_Bs g sr s1 ++ (w_Tr g a2 v.2.1 ++ (rest)))) H → va_S A s.heap H locs → W p l e (headSpec ws_Rd_readText { frames := 1, cells := 0, slots := 0, locals := 24 }).room s m args below meth c H locs 0 0 (MQ below (QcV D A g (fun (_ : Unit) => w_Rd g a0 (tw (a2 0) (sr 0)) out.1 ++ (w_Bs g sr s1 ++ (w_Tr g a2 out.2 ++ (rest))))) args s 0 0 A) (F0 m 83 ls [])) (fun k v ih hb ls H locs  hl hI hS => t_Rd_readText_83 X  (fun v' ls H locs  hl hI hS h' => ih v' h' ls H locs  hl hI hS) hl hI hS hb) FU _ h ls H locs  hl hI hS
set_option maxRecDepth 100000 in
set_option maxHeartbeats 4000000 in
theorem t_Rd_readText_63 {p : Program} {l : Launch} {e : Env} {s : State} {m : MethodId} {args : Array Value} {below : List Frame} {meth : Method} {c : Code} {D : va_G} {A : Nat → Prop} {g : Nat → ClassId} {rest : va_W} {a0 : Nat → Nat} {sr : Nat → Nat} {a2 : Nat → Nat} {ls : Array Slot} {H : Heap} {locs : List Loc} {s1 : S_Bs} {s0 : S_Rd} {s2 : S_Tr} {x1 : Int32} {x2 : Int32} {x3 : Int32} {out : S_Rd × S_Tr} (X : Cx p s m args meth c prog_7_method_16_code 6 ws_Rd_readText R_Rd none D g) (hl : lv_has ls 6 [(0, .ref (a0 0)), (1, .int x1), (2, .int x2), (3, .int x3)]) (hI : Iw D A (w_Rd g a0 (tw (a2 0) (sr 0)) s0 ++ (w_Bs g sr s1 ++ (w_Tr g a2 s2 ++ (rest)))) H) (hS : va_S A s.heap H locs) (h : B_Rd_readText_63  s1 s0 s2 x1 x2 x3 = some out) : W p l e (headSpec ws_Rd_readText { frames := 1, cells := 0, slots := 0, locals := 24 }).room s m args below meth c H locs 0 0 (MQ below (QcV D A g (fun (_ : Unit) => w_Rd g a0 (tw (a2 0) (sr 0)) out.1 ++ (w_Bs g sr s1 ++ (w_Tr g a2 out.2 ++ (rest))))) args s 0 0 A) (F0 m 63 ls []) := by
  have X1 := X
  obtain ⟨hx, hb, hml, hown, hts, hr, hlocks, hKK⟩ := X1
  have ht : ∀ w ∈ TB, w.before args s = true := fun w h => hts w (List.mem_cons_of_mem _ h)
  have hK := hKK.1
  unfold B_Rd_readText_63 at h
  refine lv_aload_n hx hb d_Rd_readText_63 rfl (lv_at hl 0 rfl) ?_
  refine va_get (D := D) (ci := 5) (v := .ref (a2 0)) (C := R_Rd) (T := T_Rd) (N := 11) hx hb ht in_Rd hown hK hI.1 0 rfl rfl 0 (by decide) (ht _ m_158) (fun _ h9 => h9) rfl d_Rd_readText_64 ?_
  refine lv_iload_n hx hb d_Rd_readText_67 rfl (lv_at hl 1 rfl) ?_
  refine lv_aload_n hx hb d_Rd_readText_68 rfl (lv_at hl 0 rfl) ?_
  refine va_get (D := D) (ci := 5) (v := .ref (a2 0)) (C := R_Rd) (T := T_Rd) (N := 11) hx hb ht in_Rd hown hK hI.1 0 rfl rfl 0 (by decide) (ht _ m_158) (fun _ h9 => h9) rfl d_Rd_readText_69 ?_
  obtain ⟨o1, ho2, h⟩ := bd_s h
  refine cl_i (W1 := fun (_ : Unit) => w_Rd g a0 (tw (a2 0) (sr 0)) s0 ++ (w_Bs g sr s1 ++ (w_Tr g a2 s2 ++ (rest)))) (va_runV (As := []) (rest := [.int x1, .ref (a2 0)]) ⟨hx, hb, hml, hown, ht⟩ (c_Tr_characterCount (l := l) (D := D) (A := A) (g := g) (rest := w_Rd g a0 (tw (a2 0) (sr 0)) s0 ++ (w_Bs g sr s1 ++ (rest))) (a0 := a2) ho2) (cwV 0 ht (gd_V m_479 m_480 m_481 m_9 m_482) rfl rfl rfl (by decide +kernel) ⟨(Nat.le_of_ble_eq_true rfl), (Nat.le_of_ble_eq_true rfl)⟩) (prV (ci := 7) (q0 := 0) hKK hI (mv_2) rfl rfl rfl) rfl rfl hl.1 rfl (lv_room (Nat.le_of_ble_eq_true rfl)) d_Rd_readText_72 ⟨(Nat.le_of_ble_eq_true rfl), (Nat.le_of_ble_eq_true rfl)⟩) hS (fun _ => ((mv_2)).symm) (fun _ H locs hI hS => ?_)
  have hI : Iw D A (w_Rd g a0 (tw (a2 0) (sr 0)) s0 ++ (w_Bs g sr s1 ++ (w_Tr g a2 s2 ++ (rest)))) H := hI
  refine lv_iload_n hx hb d_Rd_readText_75 rfl (lv_at hl 3 rfl) ?_
  obtain ⟨o3, ho4, h⟩ := bd_s h
  refine cl_i (W1 := fun (_ : Unit) => w_Rd g a0 (tw (a2 0) (sr 0)) s0 ++ (w_Bs g sr s1 ++ (w_Tr g a2 o3.2 ++ (rest)))) (va_runV (As := [.int x1, .int o1, .int x3]) (rest := []) ⟨hx, hb, hml, hown, ht⟩ (c_Tr_add (l := l) (D := D) (A := A) (g := g) (rest := w_Rd g a0 (tw (a2 0) (sr 0)) s0 ++ (w_Bs g sr s1 ++ (rest))) (a0 := a2) ho4) (cwV 3 ht (gd_V m_425 m_426 m_427 m_9 m_428) rfl rfl rfl (by decide +kernel) ⟨(Nat.le_of_ble_eq_true rfl), (Nat.le_of_ble_eq_true rfl)⟩) (prV (ci := 7) (q0 := 0) hKK hI (mv_2) rfl rfl rfl) rfl rfl hl.1 rfl (lv_room (Nat.le_of_ble_eq_true rfl)) d_Rd_readText_76 ⟨(Nat.le_of_ble_eq_true rfl), (Nat.le_of_ble_eq_true rfl)⟩) hS (fun _ => ((mv_2)).symm) (fun _ H locs hI hS => ?_)
  have hI : Iw D A (w_Rd g a0 (tw (a2 0) (sr 0)) s0 ++ (w_Bs g sr s1 ++ (w_Tr g a2 o3.2 ++ (rest)))) H := hI
  refine lv_pop hx hb d_Rd_readText_79 rfl ?_
  refine lv_iconst (v := 0) hx hb d_Rd_readText_80 (by decide) ?_
  refine lv_istore hx hb d_Rd_readText_81 hl (Nat.le_of_ble_eq_true rfl) rfl (fun ls hl => ?_)
  have hl : lv_has ls 6 [(4, .int (0 : Int32)), (0, .ref (a0 0)), (1, .int x1), (2, .int x2), (3, .int x3)] := hl
  exact T_Rd_readText_83 X (lv_sub hl [1, 3, 4, 0] rfl) hI hS h
set_option maxRecDepth 100000 in
set_option maxHeartbeats 4000000 in
theorem t_Rd_readText_53 {p : Program} {l : Launch} {e : Env} {s : State} {m : MethodId} {args : Array Value} {below : List Frame} {meth : Method} {c : Code} {D : va_G} {A : Nat → Prop} {g : Nat → ClassId} {rest : va_W} {a0 : Nat → Nat} {sr : Nat → Nat} {a2 : Nat → Nat} {ls : Array Slot} {H : Heap} {locs : List Loc} {s1 : S_Bs} {s0 : S_Rd} {s2 : S_Tr} {out : S_Rd × S_Tr} (X : Cx p s m args meth c prog_7_method_16_code 6 ws_Rd_readText R_Rd none D g) (hl : lv_has ls 6 [(0, .ref (a0 0))]) (hI : Iw D A (w_Rd g a0 (tw (a2 0) (sr 0)) s0 ++ (w_Bs g sr s1 ++ (w_Tr g a2 s2 ++ (rest)))) H) (hS : va_S A s.heap H locs) (h : B_Rd_readText_53  s1 s0 s2 = some out) : W p l e (headSpec ws_Rd_readText { frames := 1, cells := 0, slots := 0, locals := 24 }).room s m args below meth c H locs 0 0 (MQ below (QcV D A g (fun (_ : Unit) => w_Rd g a0 (tw (a2 0) (sr 0)) out.1 ++ (w_Bs g sr s1 ++ (w_Tr g a2 out.2 ++ (rest))))) args s 0 0 A) (F0 m 53 ls []) := by
  have X1 := X
  obtain ⟨hx, hb, hml, hown, hts, hr, hlocks, hKK⟩ := X1
  have ht : ∀ w ∈ TB, w.before args s = true := fun w h => hts w (List.mem_cons_of_mem _ h)
  have hK := hKK.1
  unfold B_Rd_readText_53 at h
  refine lv_aload_n hx hb d_Rd_readText_53 rfl (lv_at hl 0 rfl) ?_
  refine lv_iconst (v := 5) hx hb d_Rd_readText_54 (by decide) ?_
  refine lv_aload_n hx hb d_Rd_readText_55 rfl (lv_at hl 0 rfl) ?_
  refine va_get (D := D) (ci := 5) (v := .int (Rd_position s0)) (C := R_Rd) (T := T_Rd) (N := 11) hx hb ht in_Rd hown hK hI.1 0 rfl rfl 8 (by decide) (ht _ m_166) (fun _ h9 => h9) rfl d_Rd_readText_56 ?_
  obtain ⟨o1, ho2, h⟩ := bd_s h
  refine cl_v (W1 := fun (_ : Unit) => w_Rd g a0 (tw (a2 0) (sr 0)) o1 ++ (w_Bs g sr s1 ++ (w_Tr g a2 s2 ++ (rest)))) (va_runV (As := [.int (5 : Int32), .int (Rd_position s0)]) (rest := []) ⟨hx, hb, hml, hown, ht⟩ (c_Rd_fail (l := l) (D := D) (A := A) (g := g) (rest := w_Bs g sr s1 ++ (w_Tr g a2 s2 ++ (rest))) (a0 := a0) (a1 := a2) (sr := sr) ho2) (cwV 2 ht (gd_V m_433 m_435 mp_16 m_8 m_436) rfl rfl rfl (by decide +kernel) ⟨(Nat.le_of_ble_eq_true rfl), (Nat.le_of_ble_eq_true rfl)⟩) (prV (ci := 5) (q0 := 0) hKK hI (List.Perm.refl _) rfl rfl rfl) rfl rfl hl.1 rfl (lv_room (Nat.le_of_ble_eq_true rfl)) d_Rd_readText_59 ⟨(Nat.le_of_ble_eq_true rfl), (Nat.le_of_ble_eq_true rfl)⟩) hS (fun _ => ((List.Perm.refl _)).symm) (fun _ H locs hI hS => ?_)
  have hI : Iw D A (w_Rd g a0 (tw (a2 0) (sr 0)) o1 ++ (w_Bs g sr s1 ++ (w_Tr g a2 s2 ++ (rest)))) H := hI
  have h9 := Option.some.inj h
  subst h9
  exact W.vret hx hb hr (fun t ht hW => ⟨⟨(), rfl, trivial, ⟨by rw [ht]; exact hI, hKK.moved hW⟩⟩, hS.F ht⟩) hS.2.2 d_Rd_readText_62
set_option maxRecDepth 100000 in
set_option maxHeartbeats 4000000 in
theorem t_Rd_readText_33 {p : Program} {l : Launch} {e : Env} {s : State} {m : MethodId} {args : Array Value} {below : List Frame} {meth : Method} {c : Code} {D : va_G} {A : Nat → Prop} {g : Nat → ClassId} {rest : va_W} {a0 : Nat → Nat} {sr : Nat → Nat} {a2 : Nat → Nat} {ls : Array Slot} {H : Heap} {locs : List Loc} {s1 : S_Bs} {s0 : S_Rd} {s2 : S_Tr} {x1 : Int32} {x2 : Int32} {x3 : Int32} {out : S_Rd × S_Tr} (X : Cx p s m args meth c prog_7_method_16_code 6 ws_Rd_readText R_Rd none D g) (hl : lv_has ls 6 [(0, .ref (a0 0)), (1, .int x1), (2, .int x2), (3, .int x3)]) (hI : Iw D A (w_Rd g a0 (tw (a2 0) (sr 0)) s0 ++ (w_Bs g sr s1 ++ (w_Tr g a2 s2 ++ (rest)))) H) (hS : va_S A s.heap H locs) (h : B_Rd_readText_33  s1 s0 s2 x1 x2 x3 = some out) : W p l e (headSpec ws_Rd_readText { frames := 1, cells := 0, slots := 0, locals := 24 }).room s m args below meth c H locs 0 0 (MQ below (QcV D A g (fun (_ : Unit) => w_Rd g a0 (tw (a2 0) (sr 0)) out.1 ++ (w_Bs g sr s1 ++ (w_Tr g a2 out.2 ++ (rest))))) args s 0 0 A) (F0 m 33 ls []) := by
  have X1 := X
  obtain ⟨hx, hb, hml, hown, hts, hr, hlocks, hKK⟩ := X1
  have ht : ∀ w ∈ TB, w.before args s = true := fun w h => hts w (List.mem_cons_of_mem _ h)
  have hK := hKK.1
  unfold B_Rd_readText_33 at h
  refine lv_aload_n hx hb d_Rd_readText_33 rfl (lv_at hl 0 rfl) ?_
  refine va_get (D := D) (ci := 5) (v := .ref (sr 0)) (C := R_Rd) (T := T_Rd) (N := 11) hx hb ht in_Rd hown hK hI.1 0 rfl rfl 6 (by decide) (ht _ m_164) (fun _ h9 => h9) rfl d_Rd_readText_34 ?_
  refine lv_aload_n hx hb d_Rd_readText_37 rfl (lv_at hl 0 rfl) ?_
  refine va_get (D := D) (ci := 5) (v := .int (Rd_position s0)) (C := R_Rd) (T := T_Rd) (N := 11) hx hb ht in_Rd hown hK hI.1 0 rfl rfl 8 (by decide) (ht _ m_166) (fun _ h9 => h9) rfl d_Rd_readText_38 ?_
  refine lv_iload_n hx hb d_Rd_readText_41 rfl (lv_at hl 3 rfl) ?_
  refine lv_iadd hx hb d_Rd_readText_42 ?_
  refine lv_iconst (v := 1) hx hb d_Rd_readText_43 (by decide) ?_
  refine lv_isub hx hb d_Rd_readText_44 ?_
  obtain ⟨o1, ho2, h⟩ := bd_s h
  refine cl_i (W1 := fun (_ : Unit) => w_Rd g a0 (tw (a2 0) (sr 0)) s0 ++ (w_Bs g sr s1 ++ (w_Tr g a2 s2 ++ (rest)))) (va_runV (As := [.int (((Rd_position s0) + x3) - (1 : Int32))]) (rest := []) ⟨hx, hb, hml, hown, ht⟩ (c_Bs_get (l := l) (D := D) (A := A) (g := g) (rest := w_Rd g a0 (tw (a2 0) (sr 0)) s0 ++ (w_Tr g a2 s2 ++ (rest))) (a0 := sr) ho2) (cwV 1 ht (gd_V m_445 m_307 m_308 m_2 m_309) rfl rfl rfl (by decide +kernel) ⟨(Nat.le_of_ble_eq_true rfl), (Nat.le_of_ble_eq_true rfl)⟩) (prV (ci := 0) (q0 := 0) hKK hI (mv_1) rfl rfl rfl) rfl rfl hl.1 rfl (lv_room (Nat.le_of_ble_eq_true rfl)) d_Rd_readText_45 ⟨(Nat.le_of_ble_eq_true rfl), (Nat.le_of_ble_eq_true rfl)⟩) hS (fun _ => ((mv_1)).symm) (fun _ H locs hI hS => ?_)
  have hI : Iw D A (w_Rd g a0 (tw (a2 0) (sr 0)) s0 ++ (w_Bs g sr s1 ++ (w_Tr g a2 s2 ++ (rest)))) H := hI
  refine lv_bipush (v := 32) hx hb d_Rd_readText_48 (by decide) ?_
  refine lv_icmp_ne (tgt := 63) hx hb d_Rd_readText_50 (by decide) (fun hc => ?_) (fun hc => ?_)
  · have h := it_f h hc
    exact t_Rd_readText_63 X (lv_sub hl [0, 1, 2, 3] rfl) hI hS h
  · have h := it_t h hc
    exact t_Rd_readText_53 X (lv_sub hl [0] rfl) hI hS h
set_option maxRecDepth 100000 in
set_option maxHeartbeats 4000000 in
theorem t_Rd_readText_29 {p : Program} {l : Launch} {e : Env} {s : State} {m : MethodId} {args : Array Value} {below : List Frame} {meth : Method} {c : Code} {D : va_G} {A : Nat → Prop} {g : Nat → ClassId} {rest : va_W} {a0 : Nat → Nat} {sr : Nat → Nat} {a2 : Nat → Nat} {ls : Array Slot} {H : Heap} {locs : List Loc} {s1 : S_Bs} {s0 : S_Rd} {s2 : S_Tr} {x1 : Int32} {x2 : Int32} {x3 : Int32} {out : S_Rd × S_Tr} (X : Cx p s m args meth c prog_7_method_16_code 6 ws_Rd_readText R_Rd none D g) (hl : lv_has ls 6 [(0, .ref (a0 0)), (1, .int x1), (2, .int x2), (3, .int x3)]) (hI : Iw D A (w_Rd g a0 (tw (a2 0) (sr 0)) s0 ++ (w_Bs g sr s1 ++ (w_Tr g a2 s2 ++ (rest)))) H) (hS : va_S A s.heap H locs) (h : B_Rd_readText_29  s1 s0 s2 x1 x2 x3 = some out) : W p l e (headSpec ws_Rd_readText { frames := 1, cells := 0, slots := 0, locals := 24 }).room s m args below meth c H locs 0 0 (MQ below (QcV D A g (fun (_ : Unit) => w_Rd g a0 (tw (a2 0) (sr 0)) out.1 ++ (w_Bs g sr s1 ++ (w_Tr g a2 out.2 ++ (rest))))) args s 0 0 A) (F0 m 29 ls []) := by
  have X1 := X
  obtain ⟨hx, hb, hml, hown, hts, hr, hlocks, hKK⟩ := X1
  have ht : ∀ w ∈ TB, w.before args s = true := fun w h => hts w (List.mem_cons_of_mem _ h)
  have hK := hKK.1
  unfold B_Rd_readText_29 at h
  refine lv_iload_n hx hb d_Rd_readText_29 rfl (lv_at hl 3 rfl) ?_
  refine lv_if_le (tgt := 63) hx hb d_Rd_readText_30 (by decide) (fun hc => ?_) (fun hc => ?_)
  · have h := it_t h hc
    exact t_Rd_readText_63 X (lv_sub hl [0, 1, 2, 3] rfl) hI hS h
  · have h := it_f h hc
    exact t_Rd_readText_33 X (lv_sub hl [0, 1, 2, 3] rfl) hI hS h
set_option maxRecDepth 100000 in
set_option maxHeartbeats 4000000 in
theorem t_Rd_readText_26 {p : Program} {l : Launch} {e : Env} {s : State} {m : MethodId} {args : Array Value} {below : List Frame} {meth : Method} {c : Code} {D : va_G} {A : Nat → Prop} {g : Nat → ClassId} {rest : va_W} {a0 : Nat → Nat} {sr : Nat → Nat} {a2 : Nat → Nat} {ls : Array Slot} {H : Heap} {locs : List Loc} {s1 : S_Bs} {s0 : S_Rd} {s2 : S_Tr} {x1 : Int32} {x2 : Int32} {x3 : Int32} {out : S_Rd × S_Tr} (X : Cx p s m args meth c prog_7_method_16_code 6 ws_Rd_readText R_Rd none D g) (hl : lv_has ls 6 [(0, .ref (a0 0)), (1, .int x1), (2, .int x2), (3, .int x3)]) (hI : Iw D A (w_Rd g a0 (tw (a2 0) (sr 0)) s0 ++ (w_Bs g sr s1 ++ (w_Tr g a2 s2 ++ (rest)))) H) (hS : va_S A s.heap H locs) (h : B_Rd_readText_26  s1 s0 s2 x1 x2 x3 = some out) : W p l e (headSpec ws_Rd_readText { frames := 1, cells := 0, slots := 0, locals := 24 }).room s m args below meth c H locs 0 0 (MQ below (QcV D A g (fun (_ : Unit) => w_Rd g a0 (tw (a2 0) (sr 0)) out.1 ++ (w_Bs g sr s1 ++ (w_Tr g a2 out.2 ++ (rest))))) args s 0 0 A) (F0 m 26 ls []) := by
  have X1 := X
  obtain ⟨hx, hb, hml, hown, hts, hr, hlocks, hKK⟩ := X1
  have ht : ∀ w ∈ TB, w.before args s = true := fun w h => hts w (List.mem_cons_of_mem _ h)
  have hK := hKK.1
  unfold B_Rd_readText_26 at h
  refine lv_iinc (k := 3) (v := (x3 + (-1))) hx hb d_Rd_readText_26 hl rfl (congrArg (fun z => x3 + z) (by decide)) (Nat.le_of_ble_eq_true rfl) rfl (fun ls hl => ?_)
  have hl : lv_has ls 6 [(3, .int (x3 + (-1))), (0, .ref (a0 0)), (1, .int x1), (2, .int x2)] := hl
  exact t_Rd_readText_29 X (lv_sub hl [1, 2, 3, 0] rfl) hI hS h
set_option maxRecDepth 100000 in
set_option maxHeartbeats 4000000 in
theorem t_Rd_readText_6 {p : Program} {l : Launch} {e : Env} {s : State} {m : MethodId} {args : Array Value} {below : List Frame} {meth : Method} {c : Code} {D : va_G} {A : Nat → Prop} {g : Nat → ClassId} {rest : va_W} {a0 : Nat → Nat} {sr : Nat → Nat} {a2 : Nat → Nat} {ls : Array Slot} {H : Heap} {locs : List Loc} {s1 : S_Bs} {s0 : S_Rd} {s2 : S_Tr} {x1 : Int32} {x2 : Int32} {x3 : Int32} {out : S_Rd × S_Tr} (X : Cx p s m args meth c prog_7_method_16_code 6 ws_Rd_readText R_Rd none D g) (hl : lv_has ls 6 [(0, .ref (a0 0)), (1, .int x1), (2, .int x2), (3, .int x3)]) (hI : Iw D A (w_Rd g a0 (tw (a2 0) (sr 0)) s0 ++ (w_Bs g sr s1 ++ (w_Tr g a2 s2 ++ (rest)))) H) (hS : va_S A s.heap H locs) (h : B_Rd_readText_6  s1 s0 s2 x1 x2 x3 = some out) : W p l e (headSpec ws_Rd_readText { frames := 1, cells := 0, slots := 0, locals := 24 }).room s m args below meth c H locs 0 0 (MQ below (QcV D A g (fun (_ : Unit) => w_Rd g a0 (tw (a2 0) (sr 0)) out.1 ++ (w_Bs g sr s1 ++ (w_Tr g a2 out.2 ++ (rest))))) args s 0 0 A) (F0 m 6 ls []) := by
  have X1 := X
  obtain ⟨hx, hb, hml, hown, hts, hr, hlocks, hKK⟩ := X1
  have ht : ∀ w ∈ TB, w.before args s = true := fun w h => hts w (List.mem_cons_of_mem _ h)
  have hK := hKK.1
  unfold B_Rd_readText_6 at h
  refine lv_aload_n hx hb d_Rd_readText_6 rfl (lv_at hl 0 rfl) ?_
  refine va_get (D := D) (ci := 5) (v := .ref (sr 0)) (C := R_Rd) (T := T_Rd) (N := 11) hx hb ht in_Rd hown hK hI.1 0 rfl rfl 6 (by decide) (ht _ m_164) (fun _ h9 => h9) rfl d_Rd_readText_7 ?_
  refine lv_aload_n hx hb d_Rd_readText_10 rfl (lv_at hl 0 rfl) ?_
  refine va_get (D := D) (ci := 5) (v := .int (Rd_position s0)) (C := R_Rd) (T := T_Rd) (N := 11) hx hb ht in_Rd hown hK hI.1 0 rfl rfl 8 (by decide) (ht _ m_166) (fun _ h9 => h9) rfl d_Rd_readText_11 ?_
  refine lv_iload_n hx hb d_Rd_readText_14 rfl (lv_at hl 2 rfl) ?_
  refine lv_iadd hx hb d_Rd_readText_15 ?_
  refine lv_iconst (v := 1) hx hb d_Rd_readText_16 (by decide) ?_
  refine lv_isub hx hb d_Rd_readText_17 ?_
  obtain ⟨o1, ho2, h⟩ := bd_s h
  refine cl_i (W1 := fun (_ : Unit) => w_Rd g a0 (tw (a2 0) (sr 0)) s0 ++ (w_Bs g sr s1 ++ (w_Tr g a2 s2 ++ (rest)))) (va_runV (As := [.int (((Rd_position s0) + x2) - (1 : Int32))]) (rest := []) ⟨hx, hb, hml, hown, ht⟩ (c_Bs_get (l := l) (D := D) (A := A) (g := g) (rest := w_Rd g a0 (tw (a2 0) (sr 0)) s0 ++ (w_Tr g a2 s2 ++ (rest))) (a0 := sr) ho2) (cwV 1 ht (gd_V m_445 m_307 m_308 m_2 m_309) rfl rfl rfl (by decide +kernel) ⟨(Nat.le_of_ble_eq_true rfl), (Nat.le_of_ble_eq_true rfl)⟩) (prV (ci := 0) (q0 := 0) hKK hI (mv_1) rfl rfl rfl) rfl rfl hl.1 rfl (lv_room (Nat.le_of_ble_eq_true rfl)) d_Rd_readText_18 ⟨(Nat.le_of_ble_eq_true rfl), (Nat.le_of_ble_eq_true rfl)⟩) hS (fun _ => ((mv_1)).symm) (fun _ H locs hI hS => ?_)
  have hI : Iw D A (w_Rd g a0 (tw (a2 0) (sr 0)) s0 ++ (w_Bs g sr s1 ++ (w_Tr g a2 s2 ++ (rest)))) H := hI
  refine lv_bipush (v := 32) hx hb d_Rd_readText_21 (by decide) ?_
  refine lv_icmp_ne (tgt := 29) hx hb d_Rd_readText_23 (by decide) (fun hc => ?_) (fun hc => ?_)
  · have h := it_f h hc
    exact t_Rd_readText_29 X (lv_sub hl [0, 1, 2, 3] rfl) hI hS h
  · have h := it_t h hc
    exact t_Rd_readText_26 X (lv_sub hl [0, 1, 2, 3] rfl) hI hS h
set_option maxRecDepth 100000 in
set_option maxHeartbeats 4000000 in
theorem t_Rd_readText_0 {p : Program} {l : Launch} {e : Env} {s : State} {m : MethodId} {args : Array Value} {below : List Frame} {meth : Method} {c : Code} {D : va_G} {A : Nat → Prop} {g : Nat → ClassId} {rest : va_W} {a0 : Nat → Nat} {sr : Nat → Nat} {a2 : Nat → Nat} {ls : Array Slot} {H : Heap} {locs : List Loc} {s1 : S_Bs} {s0 : S_Rd} {s2 : S_Tr} {x1 : Int32} {x2 : Int32} {out : S_Rd × S_Tr} (X : Cx p s m args meth c prog_7_method_16_code 6 ws_Rd_readText R_Rd none D g) (hl : lv_has ls 6 [(0, .ref (a0 0)), (1, .int x1), (2, .int x2)]) (hI : Iw D A (w_Rd g a0 (tw (a2 0) (sr 0)) s0 ++ (w_Bs g sr s1 ++ (w_Tr g a2 s2 ++ (rest)))) H) (hS : va_S A s.heap H locs) (h : B_Rd_readText_0  s1 s0 s2 x1 x2 = some out) : W p l e (headSpec ws_Rd_readText { frames := 1, cells := 0, slots := 0, locals := 24 }).room s m args below meth c H locs 0 0 (MQ below (QcV D A g (fun (_ : Unit) => w_Rd g a0 (tw (a2 0) (sr 0)) out.1 ++ (w_Bs g sr s1 ++ (w_Tr g a2 out.2 ++ (rest))))) args s 0 0 A) (F0 m 0 ls []) := by
  have X1 := X
  obtain ⟨hx, hb, hml, hown, hts, hr, hlocks, hKK⟩ := X1
  have ht : ∀ w ∈ TB, w.before args s = true := fun w h => hts w (List.mem_cons_of_mem _ h)
  have hK := hKK.1
  unfold B_Rd_readText_0 at h
  refine lv_iload_n hx hb d_Rd_readText_0 rfl (lv_at hl 2 rfl) ?_
  refine lv_istore_n hx hb d_Rd_readText_1 rfl hl (Nat.le_of_ble_eq_true rfl) rfl (fun ls hl => ?_)
  have hl : lv_has ls 6 [(3, .int x2), (0, .ref (a0 0)), (1, .int x1), (2, .int x2)] := hl
  refine lv_iload_n hx hb d_Rd_readText_2 rfl (lv_at hl 3 rfl) ?_
  refine lv_if_le (tgt := 29) hx hb d_Rd_readText_3 (by decide) (fun hc => ?_) (fun hc => ?_)
  · have h := it_t h hc
    exact t_Rd_readText_29 X (lv_sub hl [1, 2, 3, 0] rfl) hI hS h
  · have h := it_f h hc
    exact t_Rd_readText_6 X (lv_sub hl [1, 2, 3, 0] rfl) hI hS h
set_option maxRecDepth 100000 in
set_option maxHeartbeats 4000000 in
theorem c_Rd_readText {l : Launch} {D : va_G} {A : Nat → Prop} {g : Nat → ClassId} {rest : va_W} {a0 : Nat → Nat} {sr : Nat → Nat} {a2 : Nat → Nat} {s0 : S_Rd} {s1 : S_Bs} {s2 : S_Tr} {x1 : Int32} {x2 : Int32} {out : S_Rd × S_Tr} (h : F_Rd_readText s0 s1 s2 x1 x2 = some out) : Met l y_Rd_readText ws_Rd_readText { frames := 1, cells := 0, slots := 0, locals := 24 } (PcW D A g [.ref (a0 0), .int x1, .int x2] (w_Rd g a0 (tw (a2 0) (sr 0)) s0 ++ (w_Bs g sr s1 ++ (w_Tr g a2 s2 ++ (rest))))) (QcV D A g (fun (_ : Unit) => w_Rd g a0 (tw (a2 0) (sr 0)) out.1 ++ (w_Bs g sr s1 ++ (w_Tr g a2 out.2 ++ (rest))))) 0 0 A := by
  refine Met.ofW (cc := prog_7_method_16_code) (maxL := 6) (ret := none) (by decide) rfl ?_
  intro p e s m args below meth c s₁ B hml hv
  obtain ⟨rfl, hI, hK⟩ := hv
  have hl := lv_entry [.ref (a0 0), .int x1, .int x2] (n := 6) (Nat.le_of_ble_eq_true rfl)
  rw [lg_entry_eq]
  generalize (lg_sl [.ref (a0 0), .int x1, .int x2] ++ List.replicate (6 - (lg_sl [.ref (a0 0), .int x1, .int x2]).length) Slot.unset).toArray = ls at hl ⊢
  have hl : lv_has ls 6 [(0, .ref (a0 0)), (1, .int x1), (2, .int x2)] := hl
  exact t_Rd_readText_0 ⟨B.exec, B.bytes, hml, findClass_of_methodNamed B.named, atoms_spec (ws := ws_Rd_readText) B.pre, B.returns, B.notSynchronized, hK⟩ (lv_sub hl [0, 1, 2] rfl) hI va_S.rf h
def ws_Rd_readElement : List Cond := .code y_Rd_readElement prog_7_method_9_code 4 none :: TB
def B_Rd_readElement_42 (s1 : S_Bs) (s0 : S_Rd) (s2 : S_Tr) : Option (S_Rd × S_Tr) :=
  ((F_Rd_fail s0 (2 : Int32) (Rd_position s0)).bind fun o1 => some (o1, s2))
def B_Rd_readElement_205 (s1 : S_Bs) (s0 : S_Rd) (s2 : S_Tr) : Option (S_Rd × S_Tr) :=
  some (s0, s2)
def B_Rd_readElement_202 (s1 : S_Bs) (s0 : S_Rd) (s2 : S_Tr) (y0 : Int32) (y1 : Int32) (y2 : Int32) : Option (S_Rd × S_Tr) :=
  ((F_Rd_enter s0 s2 y2 y1 y0).bind fun o1 => (B_Rd_readElement_205 s1 o1.1 o1.2))
def B_Rd_readElement_201 (s1 : S_Bs) (s0 : S_Rd) (s2 : S_Tr) (y0 : Int32) (y1 : Int32) : Option (S_Rd × S_Tr) :=
  (B_Rd_readElement_202 s1 s0 s2 (0 : Int32) y0 y1)
def B_Rd_readElement_197 (s1 : S_Bs) (s0 : S_Rd) (s2 : S_Tr) (y0 : Int32) (y1 : Int32) : Option (S_Rd × S_Tr) :=
  (B_Rd_readElement_202 s1 s0 s2 (1 : Int32) y0 y1)
def B_Rd_readElement_183 (s1 : S_Bs) (s0 : S_Rd) (s2 : S_Tr) (x1 : Int32) (x3 : Int32) : Option (S_Rd × S_Tr) :=
  ((F_Rd_endOf s0 x3).bind fun o1 => (if x3 = (255 : Int32) then (B_Rd_readElement_197 s1 s0 s2 o1 x1) else (B_Rd_readElement_201 s1 s0 s2 o1 x1)))
def B_Rd_readElement_174 (s1 : S_Bs) (s0 : S_Rd) (s2 : S_Tr) (x1 : Int32) (x3 : Int32) : Option (S_Rd × S_Tr) :=
  ((F_Rd_readText s0 s1 s2 x1 x3).bind fun o1 => (B_Rd_readElement_205 s1 o1.1 o1.2))
def B_Rd_readElement_169 (s1 : S_Bs) (s0 : S_Rd) (s2 : S_Tr) (x1 : Int32) (x2 : Int32) (x3 : Int32) : Option (S_Rd × S_Tr) :=
  (if x2 = (2 : Int32) then (B_Rd_readElement_174 s1 s0 s2 x1 x3) else (B_Rd_readElement_183 s1 s0 s2 x1 x3))
def B_Rd_readElement_160 (s1 : S_Bs) (s0 : S_Rd) (s2 : S_Tr) (x1 : Int32) (x3 : Int32) : Option (S_Rd × S_Tr) :=
  ((F_Rd_readNumber s0 s1 s2 x1 x3).bind fun o1 => (B_Rd_readElement_205 s1 o1.1 o1.2))
def B_Rd_readElement_155 (s1 : S_Bs) (s0 : S_Rd) (s2 : S_Tr) (x1 : Int32) (x2 : Int32) (x3 : Int32) : Option (S_Rd × S_Tr) :=
  (if x2 = (1 : Int32) then (B_Rd_readElement_160 s1 s0 s2 x1 x3) else (B_Rd_readElement_169 s1 s0 s2 x1 x2 x3))
def B_Rd_readElement_154 (s1 : S_Bs) (s0 : S_Rd) (s2 : S_Tr) : Option (S_Rd × S_Tr) :=
  some (s0, s2)
def B_Rd_readElement_143 (s1 : S_Bs) (s0 : S_Rd) (s2 : S_Tr) (x1 : Int32) (x2 : Int32) : Option (S_Rd × S_Tr) :=
  ((F_Rd_readLength s0 s1 x2).bind fun o1 => (if o1.1 = ((-1) : Int32) then (B_Rd_readElement_154 s1 o1.2 s2) else (B_Rd_readElement_155 s1 o1.2 s2 x1 x2 o1.1)))
def B_Rd_readElement_142 (s1 : S_Bs) (s0 : S_Rd) (s2 : S_Tr) : Option (S_Rd × S_Tr) :=
  some (s0, s2)
def B_Rd_readElement_101 (s1 : S_Bs) (s0 : S_Rd) (s2 : S_Tr) (x1 : Int32) (x2 : Int32) : Option (S_Rd × S_Tr) :=
  (if ((Rd_level s0) < 0 ∨ 5 ≤ (Rd_level s0).toNatClampNeg) then none else (if ((Rd_level (Rd_set_lastTags s0 (upd (Rd_lastTags s0) (Rd_level s0).toNatClampNeg x1))) < 0 ∨ 5 ≤ (Rd_level (Rd_set_lastTags s0 (upd (Rd_lastTags s0) (Rd_level s0).toNatClampNeg x1))).toNatClampNeg) then none else (if ((Rd_level (Rd_set_lastTags s0 (upd (Rd_lastTags s0) (Rd_level s0).toNatClampNeg x1))) < 0 ∨ 5 ≤ (Rd_level (Rd_set_lastTags s0 (upd (Rd_lastTags s0) (Rd_level s0).toNatClampNeg x1))).toNatClampNeg) then none else ((F_Rd_readKind (Rd_set_position (Rd_set_counts (Rd_set_lastTags s0 (upd (Rd_lastTags s0) (Rd_level s0).toNatClampNeg x1)) (upd (Rd_counts (Rd_set_lastTags s0 (upd (Rd_lastTags s0) (Rd_level s0).toNatClampNeg x1))) (Rd_level (Rd_set_lastTags s0 (upd (Rd_lastTags s0) (Rd_level s0).toNatClampNeg x1))).toNatClampNeg (((Rd_counts (Rd_set_lastTags s0 (upd (Rd_lastTags s0) (Rd_level s0).toNatClampNeg x1))) (Rd_level (Rd_set_lastTags s0 (upd (Rd_lastTags s0) (Rd_level s0).toNatClampNeg x1))).toNatClampNeg) + (1 : Int32)))) ((Rd_position (Rd_set_counts (Rd_set_lastTags s0 (upd (Rd_lastTags s0) (Rd_level s0).toNatClampNeg x1)) (upd (Rd_counts (Rd_set_lastTags s0 (upd (Rd_lastTags s0) (Rd_level s0).toNatClampNeg x1))) (Rd_level (Rd_set_lastTags s0 (upd (Rd_lastTags s0) (Rd_level s0).toNatClampNeg x1))).toNatClampNeg (((Rd_counts (Rd_set_lastTags s0 (upd (Rd_lastTags s0) (Rd_level s0).toNatClampNeg x1))) (Rd_level (Rd_set_lastTags s0 (upd (Rd_lastTags s0) (Rd_level s0).toNatClampNeg x1))).toNatClampNeg) + (1 : Int32))))) + (1 : Int32))) s1 x2).bind fun o4 => (if o4.1 = 0 then (B_Rd_readElement_142 s1 o4.2 s2) else (B_Rd_readElement_143 s1 o4.2 s2 x1 x2))))))
def B_Rd_readElement_90 (s1 : S_Bs) (s0 : S_Rd) (s2 : S_Tr) : Option (S_Rd × S_Tr) :=
  ((F_Rd_fail s0 (8 : Int32) (Rd_position s0)).bind fun o1 => some (o1, s2))
def B_Rd_readElement_82 (s1 : S_Bs) (s0 : S_Rd) (s2 : S_Tr) (x1 : Int32) (x2 : Int32) : Option (S_Rd × S_Tr) :=
  (if (Rd_level s0) = (4 : Int32) then (B_Rd_readElement_90 s1 s0 s2) else (B_Rd_readElement_101 s1 s0 s2 x1 x2))
def B_Rd_readElement_77 (s1 : S_Bs) (s0 : S_Rd) (s2 : S_Tr) (x1 : Int32) (x2 : Int32) : Option (S_Rd × S_Tr) :=
  (if x2 = (3 : Int32) then (B_Rd_readElement_82 s1 s0 s2 x1 x2) else (B_Rd_readElement_101 s1 s0 s2 x1 x2))
def B_Rd_readElement_66 (s1 : S_Bs) (s0 : S_Rd) (s2 : S_Tr) : Option (S_Rd × S_Tr) :=
  ((F_Rd_fail s0 (7 : Int32) (Rd_position s0)).bind fun o1 => some (o1, s2))
def B_Rd_readElement_52 (s1 : S_Bs) (s0 : S_Rd) (s2 : S_Tr) (x1 : Int32) (x2 : Int32) : Option (S_Rd × S_Tr) :=
  (if ((Rd_level s0) < 0 ∨ 5 ≤ (Rd_level s0).toNatClampNeg) then none else (if ((Rd_counts s0) (Rd_level s0).toNatClampNeg) = (10 : Int32) then (B_Rd_readElement_66 s1 s0 s2) else (B_Rd_readElement_77 s1 s0 s2 x1 x2)))
def B_Rd_readElement_29 (s1 : S_Bs) (s0 : S_Rd) (s2 : S_Tr) (x1 : Int32) (x2 : Int32) : Option (S_Rd × S_Tr) :=
  (if ((Rd_level s0) < 0 ∨ 5 ≤ (Rd_level s0).toNatClampNeg) then none else (if ((Rd_lastTags s0) (Rd_level s0).toNatClampNeg) < x1 then (B_Rd_readElement_52 s1 s0 s2 x1 x2) else (B_Rd_readElement_42 s1 s0 s2)))
def B_Rd_readElement_22 (s1 : S_Bs) (s0 : S_Rd) (s2 : S_Tr) (x1 : Int32) (x2 : Int32) : Option (S_Rd × S_Tr) :=
  (if (200 : Int32) < x1 then (B_Rd_readElement_42 s1 s0 s2) else (B_Rd_readElement_29 s1 s0 s2 x1 x2))
def B_Rd_readElement_0 (s1 : S_Bs) (s0 : S_Rd) (s2 : S_Tr) : Option (S_Rd × S_Tr) :=
  ((F_Bs_get s1 (Rd_position s0)).bind fun o1 => ((F_Rn_kindOf o1).bind fun o3 => (if o1 < (1 : Int32) then (B_Rd_readElement_42 s1 s0 s2) else (B_Rd_readElement_22 s1 s0 s2 o1 o3))))
def F_Rd_readElement (s0 : S_Rd) (s1 : S_Bs) (s2 : S_Tr) : Option (S_Rd × S_Tr) := B_Rd_readElement_0 s1 s0 s2
set_option maxRecDepth 100000 in
set_option maxHeartbeats 4000000 in
theorem t_Rd_readElement_42 {p : Program} {l : Launch} {e : Env} {s : State} {m : MethodId} {args : Array Value} {below : List Frame} {meth : Method} {c : Code} {D : va_G} {A : Nat → Prop} {g : Nat → ClassId} {rest : va_W} {a0 : Nat → Nat} {sr : Nat → Nat} {a2 : Nat → Nat} {ls : Array Slot} {H : Heap} {locs : List Loc} {s1 : S_Bs} {s0 : S_Rd} {s2 : S_Tr} {out : S_Rd × S_Tr} (X : Cx p s m args meth c prog_7_method_9_code 4 ws_Rd_readElement R_Rd none D g) (hl : lv_has ls 4 [(0, .ref (a0 0))]) (hI : Iw D A (w_Rd g a0 (tw (a2 0) (sr 0)) s0 ++ (w_Bs g sr s1 ++ (w_Tr g a2 s2 ++ (rest)))) H) (hS : va_S A s.heap H locs) (h : B_Rd_readElement_42  s1 s0 s2 = some out) : W p l e (headSpec ws_Rd_readElement { frames := 2, cells := 0, slots := 0, locals := 49 }).room s m args below meth c H locs 0 0 (MQ below (QcV D A g (fun (_ : Unit) => w_Rd g a0 (tw (a2 0) (sr 0)) out.1 ++ (w_Bs g sr s1 ++ (w_Tr g a2 out.2 ++ (rest))))) args s 0 0 A) (F0 m 42 ls []) := by
  have X1 := X
  obtain ⟨hx, hb, hml, hown, hts, hr, hlocks, hKK⟩ := X1
  have ht : ∀ w ∈ TB, w.before args s = true := fun w h => hts w (List.mem_cons_of_mem _ h)
  have hK := hKK.1
  unfold B_Rd_readElement_42 at h
  refine lv_aload_n hx hb d_Rd_readElement_42 rfl (lv_at hl 0 rfl) ?_
  refine lv_iconst (v := 2) hx hb d_Rd_readElement_43 (by decide) ?_
  refine lv_aload_n hx hb d_Rd_readElement_44 rfl (lv_at hl 0 rfl) ?_
  refine va_get (D := D) (ci := 5) (v := .int (Rd_position s0)) (C := R_Rd) (T := T_Rd) (N := 11) hx hb ht in_Rd hown hK hI.1 0 rfl rfl 8 (by decide) (ht _ m_166) (fun _ h9 => h9) rfl d_Rd_readElement_45 ?_
  obtain ⟨o1, ho2, h⟩ := bd_s h
  refine cl_v (W1 := fun (_ : Unit) => w_Rd g a0 (tw (a2 0) (sr 0)) o1 ++ (w_Bs g sr s1 ++ (w_Tr g a2 s2 ++ (rest)))) (va_runV (As := [.int (2 : Int32), .int (Rd_position s0)]) (rest := []) ⟨hx, hb, hml, hown, ht⟩ (c_Rd_fail (l := l) (D := D) (A := A) (g := g) (rest := w_Bs g sr s1 ++ (w_Tr g a2 s2 ++ (rest))) (a0 := a0) (a1 := a2) (sr := sr) ho2) (cwV 2 ht (gd_V m_433 m_435 mp_16 m_8 m_436) rfl rfl rfl (by decide +kernel) ⟨(Nat.le_of_ble_eq_true rfl), (Nat.le_of_ble_eq_true rfl)⟩) (prV (ci := 5) (q0 := 0) hKK hI (List.Perm.refl _) rfl rfl rfl) rfl rfl hl.1 rfl (lv_room (Nat.le_of_ble_eq_true rfl)) d_Rd_readElement_48 ⟨(Nat.le_of_ble_eq_true rfl), (Nat.le_of_ble_eq_true rfl)⟩) hS (fun _ => ((List.Perm.refl _)).symm) (fun _ H locs hI hS => ?_)
  have hI : Iw D A (w_Rd g a0 (tw (a2 0) (sr 0)) o1 ++ (w_Bs g sr s1 ++ (w_Tr g a2 s2 ++ (rest)))) H := hI
  have h9 := Option.some.inj h
  subst h9
  exact W.vret hx hb hr (fun t ht hW => ⟨⟨(), rfl, trivial, ⟨by rw [ht]; exact hI, hKK.moved hW⟩⟩, hS.F ht⟩) hS.2.2 d_Rd_readElement_51
set_option maxRecDepth 100000 in
set_option maxHeartbeats 4000000 in
theorem t_Rd_readElement_205 {p : Program} {l : Launch} {e : Env} {s : State} {m : MethodId} {args : Array Value} {below : List Frame} {meth : Method} {c : Code} {D : va_G} {A : Nat → Prop} {g : Nat → ClassId} {rest : va_W} {a0 : Nat → Nat} {sr : Nat → Nat} {a2 : Nat → Nat} {ls : Array Slot} {H : Heap} {locs : List Loc} {s1 : S_Bs} {s0 : S_Rd} {s2 : S_Tr} {out : S_Rd × S_Tr} (X : Cx p s m args meth c prog_7_method_9_code 4 ws_Rd_readElement R_Rd none D g) (hl : lv_has ls 4 []) (hI : Iw D A (w_Rd g a0 (tw (a2 0) (sr 0)) s0 ++ (w_Bs g sr s1 ++ (w_Tr g a2 s2 ++ (rest)))) H) (hS : va_S A s.heap H locs) (h : B_Rd_readElement_205  s1 s0 s2 = some out) : W p l e (headSpec ws_Rd_readElement { frames := 2, cells := 0, slots := 0, locals := 49 }).room s m args below meth c H locs 0 0 (MQ below (QcV D A g (fun (_ : Unit) => w_Rd g a0 (tw (a2 0) (sr 0)) out.1 ++ (w_Bs g sr s1 ++ (w_Tr g a2 out.2 ++ (rest))))) args s 0 0 A) (F0 m 205 ls []) := by
  have X1 := X
  obtain ⟨hx, hb, hml, hown, hts, hr, hlocks, hKK⟩ := X1
  have ht : ∀ w ∈ TB, w.before args s = true := fun w h => hts w (List.mem_cons_of_mem _ h)
  have hK := hKK.1
  unfold B_Rd_readElement_205 at h
  have h9 := Option.some.inj h
  subst h9
  exact W.vret hx hb hr (fun t ht hW => ⟨⟨(), rfl, trivial, ⟨by rw [ht]; exact hI, hKK.moved hW⟩⟩, hS.F ht⟩) hS.2.2 d_Rd_readElement_205
set_option maxRecDepth 100000 in
set_option maxHeartbeats 4000000 in
theorem t_Rd_readElement_202 {p : Program} {l : Launch} {e : Env} {s : State} {m : MethodId} {args : Array Value} {below : List Frame} {meth : Method} {c : Code} {D : va_G} {A : Nat → Prop} {g : Nat → ClassId} {rest : va_W} {a0 : Nat → Nat} {sr : Nat → Nat} {a2 : Nat → Nat} {ls : Array Slot} {H : Heap} {locs : List Loc} {s1 : S_Bs} {s0 : S_Rd} {s2 : S_Tr} {y0 : Int32} {y1 : Int32} {y2 : Int32} {out : S_Rd × S_Tr} (X : Cx p s m args meth c prog_7_method_9_code 4 ws_Rd_readElement R_Rd none D g) (hl : lv_has ls 4 []) (hI : Iw D A (w_Rd g a0 (tw (a2 0) (sr 0)) s0 ++ (w_Bs g sr s1 ++ (w_Tr g a2 s2 ++ (rest)))) H) (hS : va_S A s.heap H locs) (h : B_Rd_readElement_202  s1 s0 s2 y0 y1 y2 = some out) : W p l e (headSpec ws_Rd_readElement { frames := 2, cells := 0, slots := 0, locals := 49 }).room s m args below meth c H locs 0 0 (MQ below (QcV D A g (fun (_ : Unit) => w_Rd g a0 (tw (a2 0) (sr 0)) out.1 ++ (w_Bs g sr s1 ++ (w_Tr g a2 out.2 ++ (rest))))) args s 0 0 A) (F0 m 202 ls [.int y0, .int y1, .int y2, .ref (a0 0)]) := by
  have X1 := X
  obtain ⟨hx, hb, hml, hown, hts, hr, hlocks, hKK⟩ := X1
  have ht : ∀ w ∈ TB, w.before args s = true := fun w h => hts w (List.mem_cons_of_mem _ h)
  have hK := hKK.1
  unfold B_Rd_readElement_202 at h
  obtain ⟨o1, ho2, h⟩ := bd_s h
  refine cl_v (W1 := fun (_ : Unit) => w_Rd g a0 (tw (a2 0) (sr 0)) o1.1 ++ (w_Bs g sr s1 ++ (w_Tr g a2 o1.2 ++ (rest)))) (va_runV (As := [.int y2, .int y1, .int y0]) (rest := []) ⟨hx, hb, hml, hown, ht⟩ (c_Rd_enter (l := l) (D := D) (A := A) (g := g) (rest := w_Bs g sr s1 ++ (rest)) (a0 := a0) (a1 := a2) (sr := sr) ho2) (cwV 3 ht (gd_V m_421 m_423 mp_14 m_8 m_424) rfl rfl rfl (by decide +kernel) ⟨(Nat.le_of_ble_eq_true rfl), (Nat.le_of_ble_eq_true rfl)⟩) (prV (ci := 5) (q0 := 0) hKK hI ((mv_2).trans (mv_1)) rfl rfl rfl) rfl rfl hl.1 rfl (lv_room (Nat.le_of_ble_eq_true rfl)) d_Rd_readElement_202 ⟨(Nat.le_of_ble_eq_true rfl), (Nat.le_of_ble_eq_true rfl)⟩) hS (fun _ => (((mv_2).trans (mv_1))).symm) (fun _ H locs hI hS => ?_)
  have hI : Iw D A (w_Rd g a0 (tw (a2 0) (sr 0)) o1.1 ++ (w_Bs g sr s1 ++ (w_Tr g a2 o1.2 ++ (rest)))) H := hI
  exact t_Rd_readElement_205 X (lv_sub hl [] rfl) hI hS h
set_option maxRecDepth 100000 in
set_option maxHeartbeats 4000000 in
theorem t_Rd_readElement_201 {p : Program} {l : Launch} {e : Env} {s : State} {m : MethodId} {args : Array Value} {below : List Frame} {meth : Method} {c : Code} {D : va_G} {A : Nat → Prop} {g : Nat → ClassId} {rest : va_W} {a0 : Nat → Nat} {sr : Nat → Nat} {a2 : Nat → Nat} {ls : Array Slot} {H : Heap} {locs : List Loc} {s1 : S_Bs} {s0 : S_Rd} {s2 : S_Tr} {y0 : Int32} {y1 : Int32} {out : S_Rd × S_Tr} (X : Cx p s m args meth c prog_7_method_9_code 4 ws_Rd_readElement R_Rd none D g) (hl : lv_has ls 4 []) (hI : Iw D A (w_Rd g a0 (tw (a2 0) (sr 0)) s0 ++ (w_Bs g sr s1 ++ (w_Tr g a2 s2 ++ (rest)))) H) (hS : va_S A s.heap H locs) (h : B_Rd_readElement_201  s1 s0 s2 y0 y1 = some out) : W p l e (headSpec ws_Rd_readElement { frames := 2, cells := 0, slots := 0, locals := 49 }).room s m args below meth c H locs 0 0 (MQ below (QcV D A g (fun (_ : Unit) => w_Rd g a0 (tw (a2 0) (sr 0)) out.1 ++ (w_Bs g sr s1 ++ (w_Tr g a2 out.2 ++ (rest))))) args s 0 0 A) (F0 m 201 ls [.int y0, .int y1, .ref (a0 0)]) := by
  have X1 := X
  obtain ⟨hx, hb, hml, hown, hts, hr, hlocks, hKK⟩ := X1
  have ht : ∀ w ∈ TB, w.before args s = true := fun w h => hts w (List.mem_cons_of_mem _ h)
  have hK := hKK.1
  unfold B_Rd_readElement_201 at h
  refine lv_iconst (v := 0) hx hb d_Rd_readElement_201 (by decide) ?_
  exact t_Rd_readElement_202 X (lv_sub hl [] rfl) hI hS h
set_option maxRecDepth 100000 in
set_option maxHeartbeats 4000000 in
theorem t_Rd_readElement_197 {p : Program} {l : Launch} {e : Env} {s : State} {m : MethodId} {args : Array Value} {below : List Frame} {meth : Method} {c : Code} {D : va_G} {A : Nat → Prop} {g : Nat → ClassId} {rest : va_W} {a0 : Nat → Nat} {sr : Nat → Nat} {a2 : Nat → Nat} {ls : Array Slot} {H : Heap} {locs : List Loc} {s1 : S_Bs} {s0 : S_Rd} {s2 : S_Tr} {y0 : Int32} {y1 : Int32} {out : S_Rd × S_Tr} (X : Cx p s m args meth c prog_7_method_9_code 4 ws_Rd_readElement R_Rd none D g) (hl : lv_has ls 4 []) (hI : Iw D A (w_Rd g a0 (tw (a2 0) (sr 0)) s0 ++ (w_Bs g sr s1 ++ (w_Tr g a2 s2 ++ (rest)))) H) (hS : va_S A s.heap H locs) (h : B_Rd_readElement_197  s1 s0 s2 y0 y1 = some out) : W p l e (headSpec ws_Rd_readElement { frames := 2, cells := 0, slots := 0, locals := 49 }).room s m args below meth c H locs 0 0 (MQ below (QcV D A g (fun (_ : Unit) => w_Rd g a0 (tw (a2 0) (sr 0)) out.1 ++ (w_Bs g sr s1 ++ (w_Tr g a2 out.2 ++ (rest))))) args s 0 0 A) (F0 m 197 ls [.int y0, .int y1, .ref (a0 0)]) := by
  have X1 := X
  obtain ⟨hx, hb, hml, hown, hts, hr, hlocks, hKK⟩ := X1
  have ht : ∀ w ∈ TB, w.before args s = true := fun w h => hts w (List.mem_cons_of_mem _ h)
  have hK := hKK.1
  unfold B_Rd_readElement_197 at h
  refine lv_iconst (v := 1) hx hb d_Rd_readElement_197 (by decide) ?_
  refine lv_goto (tgt := 202) hx hb d_Rd_readElement_198 (by decide) ?_
  exact t_Rd_readElement_202 X (lv_sub hl [] rfl) hI hS h
set_option maxRecDepth 100000 in
set_option maxHeartbeats 4000000 in
theorem t_Rd_readElement_183 {p : Program} {l : Launch} {e : Env} {s : State} {m : MethodId} {args : Array Value} {below : List Frame} {meth : Method} {c : Code} {D : va_G} {A : Nat → Prop} {g : Nat → ClassId} {rest : va_W} {a0 : Nat → Nat} {sr : Nat → Nat} {a2 : Nat → Nat} {ls : Array Slot} {H : Heap} {locs : List Loc} {s1 : S_Bs} {s0 : S_Rd} {s2 : S_Tr} {x1 : Int32} {x3 : Int32} {out : S_Rd × S_Tr} (X : Cx p s m args meth c prog_7_method_9_code 4 ws_Rd_readElement R_Rd none D g) (hl : lv_has ls 4 [(0, .ref (a0 0)), (1, .int x1), (3, .int x3)]) (hI : Iw D A (w_Rd g a0 (tw (a2 0) (sr 0)) s0 ++ (w_Bs g sr s1 ++ (w_Tr g a2 s2 ++ (rest)))) H) (hS : va_S A s.heap H locs) (h : B_Rd_readElement_183  s1 s0 s2 x1 x3 = some out) : W p l e (headSpec ws_Rd_readElement { frames := 2, cells := 0, slots := 0, locals := 49 }).room s m args below meth c H locs 0 0 (MQ below (QcV D A g (fun (_ : Unit) => w_Rd g a0 (tw (a2 0) (sr 0)) out.1 ++ (w_Bs g sr s1 ++ (w_Tr g a2 out.2 ++ (rest))))) args s 0 0 A) (F0 m 183 ls []) := by
  have X1 := X
  obtain ⟨hx, hb, hml, hown, hts, hr, hlocks, hKK⟩ := X1
  have ht : ∀ w ∈ TB, w.before args s = true := fun w h => hts w (List.mem_cons_of_mem _ h)
  have hK := hKK.1
  unfold B_Rd_readElement_183 at h
  refine lv_aload_n hx hb d_Rd_readElement_183 rfl (lv_at hl 0 rfl) ?_
  refine lv_iload_n hx hb d_Rd_readElement_184 rfl (lv_at hl 1 rfl) ?_
  refine lv_aload_n hx hb d_Rd_readElement_185 rfl (lv_at hl 0 rfl) ?_
  refine lv_iload_n hx hb d_Rd_readElement_186 rfl (lv_at hl 2 rfl) ?_
  obtain ⟨o1, ho2, h⟩ := bd_s h
  refine cl_i (W1 := fun (_ : Unit) => w_Rd g a0 (tw (a2 0) (sr 0)) s0 ++ (w_Bs g sr s1 ++ (w_Tr g a2 s2 ++ (rest)))) (va_runV (As := [.int x3]) (rest := [.int x1, .ref (a0 0)]) ⟨hx, hb, hml, hown, ht⟩ (c_Rd_endOf (l := l) (D := D) (A := A) (g := g) (rest := w_Bs g sr s1 ++ (w_Tr g a2 s2 ++ (rest))) (a0 := a0) (a1 := a2) (sr := sr) ho2) (cwV 1 ht (gd_V m_487 m_489 mp_24 m_8 m_490) rfl rfl rfl (by decide +kernel) ⟨(Nat.le_of_ble_eq_true rfl), (Nat.le_of_ble_eq_true rfl)⟩) (prV (ci := 5) (q0 := 0) hKK hI (List.Perm.refl _) rfl rfl rfl) rfl rfl hl.1 rfl (lv_room (Nat.le_of_ble_eq_true rfl)) d_Rd_readElement_187 ⟨(Nat.le_of_ble_eq_true rfl), (Nat.le_of_ble_eq_true rfl)⟩) hS (fun _ => ((List.Perm.refl _)).symm) (fun _ H locs hI hS => ?_)
  have hI : Iw D A (w_Rd g a0 (tw (a2 0) (sr 0)) s0 ++ (w_Bs g sr s1 ++ (w_Tr g a2 s2 ++ (rest)))) H := hI
  refine lv_iload_n hx hb d_Rd_readElement_190 rfl (lv_at hl 2 rfl) ?_
  refine lv_sipush (v := 255) hx hb d_Rd_readElement_191 (by decide) ?_
  refine lv_icmp_ne (tgt := 201) hx hb d_Rd_readElement_194 (by decide) (fun hc => ?_) (fun hc => ?_)
  · have h := it_f h hc
    exact t_Rd_readElement_201 X (lv_sub hl [] rfl) hI hS h
  · have h := it_t h hc
    exact t_Rd_readElement_197 X (lv_sub hl [] rfl) hI hS h
set_option maxRecDepth 100000 in
set_option maxHeartbeats 4000000 in
theorem t_Rd_readElement_174 {p : Program} {l : Launch} {e : Env} {s : State} {m : MethodId} {args : Array Value} {below : List Frame} {meth : Method} {c : Code} {D : va_G} {A : Nat → Prop} {g : Nat → ClassId} {rest : va_W} {a0 : Nat → Nat} {sr : Nat → Nat} {a2 : Nat → Nat} {ls : Array Slot} {H : Heap} {locs : List Loc} {s1 : S_Bs} {s0 : S_Rd} {s2 : S_Tr} {x1 : Int32} {x3 : Int32} {out : S_Rd × S_Tr} (X : Cx p s m args meth c prog_7_method_9_code 4 ws_Rd_readElement R_Rd none D g) (hl : lv_has ls 4 [(0, .ref (a0 0)), (1, .int x1), (3, .int x3)]) (hI : Iw D A (w_Rd g a0 (tw (a2 0) (sr 0)) s0 ++ (w_Bs g sr s1 ++ (w_Tr g a2 s2 ++ (rest)))) H) (hS : va_S A s.heap H locs) (h : B_Rd_readElement_174  s1 s0 s2 x1 x3 = some out) : W p l e (headSpec ws_Rd_readElement { frames := 2, cells := 0, slots := 0, locals := 49 }).room s m args below meth c H locs 0 0 (MQ below (QcV D A g (fun (_ : Unit) => w_Rd g a0 (tw (a2 0) (sr 0)) out.1 ++ (w_Bs g sr s1 ++ (w_Tr g a2 out.2 ++ (rest))))) args s 0 0 A) (F0 m 174 ls []) := by
  have X1 := X
  obtain ⟨hx, hb, hml, hown, hts, hr, hlocks, hKK⟩ := X1
  have ht : ∀ w ∈ TB, w.before args s = true := fun w h => hts w (List.mem_cons_of_mem _ h)
  have hK := hKK.1
  unfold B_Rd_readElement_174 at h
  refine lv_aload_n hx hb d_Rd_readElement_174 rfl (lv_at hl 0 rfl) ?_
  refine lv_iload_n hx hb d_Rd_readElement_175 rfl (lv_at hl 1 rfl) ?_
  refine lv_iload_n hx hb d_Rd_readElement_176 rfl (lv_at hl 2 rfl) ?_
  obtain ⟨o1, ho2, h⟩ := bd_s h
  refine cl_v (W1 := fun (_ : Unit) => w_Rd g a0 (tw (a2 0) (sr 0)) o1.1 ++ (w_Bs g sr s1 ++ (w_Tr g a2 o1.2 ++ (rest)))) (va_runV (As := [.int x1, .int x3]) (rest := []) ⟨hx, hb, hml, hown, ht⟩ (c_Rd_readText (l := l) (D := D) (A := A) (g := g) (rest := rest) (a0 := a0) (sr := sr) (a2 := a2) ho2) (cwV 2 ht (gd_V m_475 m_477 mp_23 m_8 m_478) rfl rfl rfl (by decide +kernel) ⟨(Nat.le_of_ble_eq_true rfl), (Nat.le_of_ble_eq_true rfl)⟩) (prV (ci := 5) (q0 := 0) hKK hI ((mv_2).trans ((mv_2).trans (mv_2))) rfl rfl rfl) rfl rfl hl.1 rfl (lv_room (Nat.le_of_ble_eq_true rfl)) d_Rd_readElement_177 ⟨(Nat.le_of_ble_eq_true rfl), (Nat.le_of_ble_eq_true rfl)⟩) hS (fun _ => (((mv_2).trans ((mv_2).trans (mv_2)))).symm) (fun _ H locs hI hS => ?_)
  have hI : Iw D A (w_Rd g a0 (tw (a2 0) (sr 0)) o1.1 ++ (w_Bs g sr s1 ++ (w_Tr g a2 o1.2 ++ (rest)))) H := hI
  refine lv_goto (tgt := 205) hx hb d_Rd_readElement_180 (by decide) ?_
  exact t_Rd_readElement_205 X (lv_sub hl [] rfl) hI hS h
set_option maxRecDepth 100000 in
set_option maxHeartbeats 4000000 in
theorem t_Rd_readElement_169 {p : Program} {l : Launch} {e : Env} {s : State} {m : MethodId} {args : Array Value} {below : List Frame} {meth : Method} {c : Code} {D : va_G} {A : Nat → Prop} {g : Nat → ClassId} {rest : va_W} {a0 : Nat → Nat} {sr : Nat → Nat} {a2 : Nat → Nat} {ls : Array Slot} {H : Heap} {locs : List Loc} {s1 : S_Bs} {s0 : S_Rd} {s2 : S_Tr} {x1 : Int32} {x2 : Int32} {x3 : Int32} {out : S_Rd × S_Tr} (X : Cx p s m args meth c prog_7_method_9_code 4 ws_Rd_readElement R_Rd none D g) (hl : lv_has ls 4 [(0, .ref (a0 0)), (1, .int x1), (2, .int x2), (3, .int x3)]) (hI : Iw D A (w_Rd g a0 (tw (a2 0) (sr 0)) s0 ++ (w_Bs g sr s1 ++ (w_Tr g a2 s2 ++ (rest)))) H) (hS : va_S A s.heap H locs) (h : B_Rd_readElement_169  s1 s0 s2 x1 x2 x3 = some out) : W p l e (headSpec ws_Rd_readElement { frames := 2, cells := 0, slots := 0, locals := 49 }).room s m args below meth c H locs 0 0 (MQ below (QcV D A g (fun (_ : Unit) => w_Rd g a0 (tw (a2 0) (sr 0)) out.1 ++ (w_Bs g sr s1 ++ (w_Tr g a2 out.2 ++ (rest))))) args s 0 0 A) (F0 m 169 ls []) := by
  have X1 := X
  obtain ⟨hx, hb, hml, hown, hts, hr, hlocks, hKK⟩ := X1
  have ht : ∀ w ∈ TB, w.before args s = true := fun w h => hts w (List.mem_cons_of_mem _ h)
  have hK := hKK.1
  unfold B_Rd_readElement_169 at h
  refine lv_iload_n hx hb d_Rd_readElement_169 rfl (lv_at hl 2 rfl) ?_
  refine lv_iconst (v := 2) hx hb d_Rd_readElement_170 (by decide) ?_
  refine lv_icmp_ne (tgt := 183) hx hb d_Rd_readElement_171 (by decide) (fun hc => ?_) (fun hc => ?_)
  · have h := it_f h hc
    exact t_Rd_readElement_183 X (lv_sub hl [0, 1, 3] rfl) hI hS h
  · have h := it_t h hc
    exact t_Rd_readElement_174 X (lv_sub hl [0, 1, 3] rfl) hI hS h
set_option maxRecDepth 100000 in
set_option maxHeartbeats 4000000 in
theorem t_Rd_readElement_160 {p : Program} {l : Launch} {e : Env} {s : State} {m : MethodId} {args : Array Value} {below : List Frame} {meth : Method} {c : Code} {D : va_G} {A : Nat → Prop} {g : Nat → ClassId} {rest : va_W} {a0 : Nat → Nat} {sr : Nat → Nat} {a2 : Nat → Nat} {ls : Array Slot} {H : Heap} {locs : List Loc} {s1 : S_Bs} {s0 : S_Rd} {s2 : S_Tr} {x1 : Int32} {x3 : Int32} {out : S_Rd × S_Tr} (X : Cx p s m args meth c prog_7_method_9_code 4 ws_Rd_readElement R_Rd none D g) (hl : lv_has ls 4 [(0, .ref (a0 0)), (1, .int x1), (3, .int x3)]) (hI : Iw D A (w_Rd g a0 (tw (a2 0) (sr 0)) s0 ++ (w_Bs g sr s1 ++ (w_Tr g a2 s2 ++ (rest)))) H) (hS : va_S A s.heap H locs) (h : B_Rd_readElement_160  s1 s0 s2 x1 x3 = some out) : W p l e (headSpec ws_Rd_readElement { frames := 2, cells := 0, slots := 0, locals := 49 }).room s m args below meth c H locs 0 0 (MQ below (QcV D A g (fun (_ : Unit) => w_Rd g a0 (tw (a2 0) (sr 0)) out.1 ++ (w_Bs g sr s1 ++ (w_Tr g a2 out.2 ++ (rest))))) args s 0 0 A) (F0 m 160 ls []) := by
  have X1 := X
  obtain ⟨hx, hb, hml, hown, hts, hr, hlocks, hKK⟩ := X1
  have ht : ∀ w ∈ TB, w.before args s = true := fun w h => hts w (List.mem_cons_of_mem _ h)
  have hK := hKK.1
  unfold B_Rd_readElement_160 at h
  refine lv_aload_n hx hb d_Rd_readElement_160 rfl (lv_at hl 0 rfl) ?_
  refine lv_iload_n hx hb d_Rd_readElement_161 rfl (lv_at hl 1 rfl) ?_
  refine lv_iload_n hx hb d_Rd_readElement_162 rfl (lv_at hl 2 rfl) ?_
  obtain ⟨o1, ho2, h⟩ := bd_s h
  refine cl_v (W1 := fun (_ : Unit) => w_Rd g a0 (tw (a2 0) (sr 0)) o1.1 ++ (w_Bs g sr s1 ++ (w_Tr g a2 o1.2 ++ (rest)))) (va_runV (As := [.int x1, .int x3]) (rest := []) ⟨hx, hb, hml, hown, ht⟩ (c_Rd_readNumber (l := l) (D := D) (A := A) (g := g) (rest := rest) (a0 := a0) (sr := sr) (a2 := a2) ho2) (cwV 2 ht (gd_V m_468 m_470 mp_22 m_8 m_471) rfl rfl rfl (by decide +kernel) ⟨(Nat.le_of_ble_eq_true rfl), (Nat.le_of_ble_eq_true rfl)⟩) (prV (ci := 5) (q0 := 0) hKK hI ((mv_2).trans ((mv_2).trans (mv_2))) rfl rfl rfl) rfl rfl hl.1 rfl (lv_room (Nat.le_of_ble_eq_true rfl)) d_Rd_readElement_163 ⟨(Nat.le_of_ble_eq_true rfl), (Nat.le_of_ble_eq_true rfl)⟩) hS (fun _ => (((mv_2).trans ((mv_2).trans (mv_2)))).symm) (fun _ H locs hI hS => ?_)
  have hI : Iw D A (w_Rd g a0 (tw (a2 0) (sr 0)) o1.1 ++ (w_Bs g sr s1 ++ (w_Tr g a2 o1.2 ++ (rest)))) H := hI
  refine lv_goto (tgt := 205) hx hb d_Rd_readElement_166 (by decide) ?_
  exact t_Rd_readElement_205 X (lv_sub hl [] rfl) hI hS h
set_option maxRecDepth 100000 in
set_option maxHeartbeats 4000000 in
theorem t_Rd_readElement_155 {p : Program} {l : Launch} {e : Env} {s : State} {m : MethodId} {args : Array Value} {below : List Frame} {meth : Method} {c : Code} {D : va_G} {A : Nat → Prop} {g : Nat → ClassId} {rest : va_W} {a0 : Nat → Nat} {sr : Nat → Nat} {a2 : Nat → Nat} {ls : Array Slot} {H : Heap} {locs : List Loc} {s1 : S_Bs} {s0 : S_Rd} {s2 : S_Tr} {x1 : Int32} {x2 : Int32} {x3 : Int32} {out : S_Rd × S_Tr} (X : Cx p s m args meth c prog_7_method_9_code 4 ws_Rd_readElement R_Rd none D g) (hl : lv_has ls 4 [(0, .ref (a0 0)), (1, .int x1), (2, .int x2), (3, .int x3)]) (hI : Iw D A (w_Rd g a0 (tw (a2 0) (sr 0)) s0 ++ (w_Bs g sr s1 ++ (w_Tr g a2 s2 ++ (rest)))) H) (hS : va_S A s.heap H locs) (h : B_Rd_readElement_155  s1 s0 s2 x1 x2 x3 = some out) : W p l e (headSpec ws_Rd_readElement { frames := 2, cells := 0, slots := 0, locals := 49 }).room s m args below meth c H locs 0 0 (MQ below (QcV D A g (fun (_ : Unit) => w_Rd g a0 (tw (a2 0) (sr 0)) out.1 ++ (w_Bs g sr s1 ++ (w_Tr g a2 out.2 ++ (rest))))) args s 0 0 A) (F0 m 155 ls []) := by
  have X1 := X
  obtain ⟨hx, hb, hml, hown, hts, hr, hlocks, hKK⟩ := X1
  have ht : ∀ w ∈ TB, w.before args s = true := fun w h => hts w (List.mem_cons_of_mem _ h)
  have hK := hKK.1
  unfold B_Rd_readElement_155 at h
  refine lv_iload_n hx hb d_Rd_readElement_155 rfl (lv_at hl 2 rfl) ?_
  refine lv_iconst (v := 1) hx hb d_Rd_readElement_156 (by decide) ?_
  refine lv_icmp_ne (tgt := 169) hx hb d_Rd_readElement_157 (by decide) (fun hc => ?_) (fun hc => ?_)
  · have h := it_f h hc
    exact t_Rd_readElement_169 X (lv_sub hl [0, 1, 2, 3] rfl) hI hS h
  · have h := it_t h hc
    exact t_Rd_readElement_160 X (lv_sub hl [0, 1, 3] rfl) hI hS h
set_option maxRecDepth 100000 in
set_option maxHeartbeats 4000000 in
theorem t_Rd_readElement_154 {p : Program} {l : Launch} {e : Env} {s : State} {m : MethodId} {args : Array Value} {below : List Frame} {meth : Method} {c : Code} {D : va_G} {A : Nat → Prop} {g : Nat → ClassId} {rest : va_W} {a0 : Nat → Nat} {sr : Nat → Nat} {a2 : Nat → Nat} {ls : Array Slot} {H : Heap} {locs : List Loc} {s1 : S_Bs} {s0 : S_Rd} {s2 : S_Tr} {out : S_Rd × S_Tr} (X : Cx p s m args meth c prog_7_method_9_code 4 ws_Rd_readElement R_Rd none D g) (hl : lv_has ls 4 []) (hI : Iw D A (w_Rd g a0 (tw (a2 0) (sr 0)) s0 ++ (w_Bs g sr s1 ++ (w_Tr g a2 s2 ++ (rest)))) H) (hS : va_S A s.heap H locs) (h : B_Rd_readElement_154  s1 s0 s2 = some out) : W p l e (headSpec ws_Rd_readElement { frames := 2, cells := 0, slots := 0, locals := 49 }).room s m args below meth c H locs 0 0 (MQ below (QcV D A g (fun (_ : Unit) => w_Rd g a0 (tw (a2 0) (sr 0)) out.1 ++ (w_Bs g sr s1 ++ (w_Tr g a2 out.2 ++ (rest))))) args s 0 0 A) (F0 m 154 ls []) := by
  have X1 := X
  obtain ⟨hx, hb, hml, hown, hts, hr, hlocks, hKK⟩ := X1
  have ht : ∀ w ∈ TB, w.before args s = true := fun w h => hts w (List.mem_cons_of_mem _ h)
  have hK := hKK.1
  unfold B_Rd_readElement_154 at h
  have h9 := Option.some.inj h
  subst h9
  exact W.vret hx hb hr (fun t ht hW => ⟨⟨(), rfl, trivial, ⟨by rw [ht]; exact hI, hKK.moved hW⟩⟩, hS.F ht⟩) hS.2.2 d_Rd_readElement_154
set_option maxRecDepth 100000 in
set_option maxHeartbeats 4000000 in
theorem t_Rd_readElement_143 {p : Program} {l : Launch} {e : Env} {s : State} {m : MethodId} {args : Array Value} {below : List Frame} {meth : Method} {c : Code} {D : va_G} {A : Nat → Prop} {g : Nat → ClassId} {rest : va_W} {a0 : Nat → Nat} {sr : Nat → Nat} {a2 : Nat → Nat} {ls : Array Slot} {H : Heap} {locs : List Loc} {s1 : S_Bs} {s0 : S_Rd} {s2 : S_Tr} {x1 : Int32} {x2 : Int32} {out : S_Rd × S_Tr} (X : Cx p s m args meth c prog_7_method_9_code 4 ws_Rd_readElement R_Rd none D g) (hl : lv_has ls 4 [(0, .ref (a0 0)), (1, .int x1), (2, .int x2)]) (hI : Iw D A (w_Rd g a0 (tw (a2 0) (sr 0)) s0 ++ (w_Bs g sr s1 ++ (w_Tr g a2 s2 ++ (rest)))) H) (hS : va_S A s.heap H locs) (h : B_Rd_readElement_143  s1 s0 s2 x1 x2 = some out) : W p l e (headSpec ws_Rd_readElement { frames := 2, cells := 0, slots := 0, locals := 49 }).room s m args below meth c H locs 0 0 (MQ below (QcV D A g (fun (_ : Unit) => w_Rd g a0 (tw (a2 0) (sr 0)) out.1 ++ (w_Bs g sr s1 ++ (w_Tr g a2 out.2 ++ (rest))))) args s 0 0 A) (F0 m 143 ls []) := by
  have X1 := X
  obtain ⟨hx, hb, hml, hown, hts, hr, hlocks, hKK⟩ := X1
  have ht : ∀ w ∈ TB, w.before args s = true := fun w h => hts w (List.mem_cons_of_mem _ h)
  have hK := hKK.1
  unfold B_Rd_readElement_143 at h
  refine lv_aload_n hx hb d_Rd_readElement_143 rfl (lv_at hl 0 rfl) ?_
  refine lv_iload_n hx hb d_Rd_readElement_144 rfl (lv_at hl 2 rfl) ?_
  obtain ⟨o1, ho2, h⟩ := bd_s h
  refine cl_i (W1 := fun (_ : Unit) => w_Rd g a0 (tw (a2 0) (sr 0)) o1.2 ++ (w_Bs g sr s1 ++ (w_Tr g a2 s2 ++ (rest)))) (va_runV (As := [.int x2]) (rest := []) ⟨hx, hb, hml, hown, ht⟩ (c_Rd_readLength (l := l) (D := D) (A := A) (g := g) (rest := w_Tr g a2 s2 ++ (rest)) (a0 := a0) (sr := sr) (a2 := a2) ho2) (cwV 1 ht (gd_V m_461 m_463 mp_21 m_8 m_464) rfl rfl rfl (by decide +kernel) ⟨(Nat.le_of_ble_eq_true rfl), (Nat.le_of_ble_eq_true rfl)⟩) (prV (ci := 5) (q0 := 0) hKK hI ((mv_1).trans (mv_1)) rfl rfl rfl) rfl rfl hl.1 rfl (lv_room (Nat.le_of_ble_eq_true rfl)) d_Rd_readElement_145 ⟨(Nat.le_of_ble_eq_true rfl), (Nat.le_of_ble_eq_true rfl)⟩) hS (fun _ => (((mv_1).trans (mv_1))).symm) (fun _ H locs hI hS => ?_)
  have hI : Iw D A (w_Rd g a0 (tw (a2 0) (sr 0)) o1.2 ++ (w_Bs g sr s1 ++ (w_Tr g a2 s2 ++ (rest)))) H := hI
  refine lv_istore_n hx hb d_Rd_readElement_148 rfl hl (Nat.le_of_ble_eq_true rfl) rfl (fun ls hl => ?_)
  have hl : lv_has ls 4 [(3, .int o1.1), (0, .ref (a0 0)), (1, .int x1), (2, .int x2)] := hl
  refine lv_iload_n hx hb d_Rd_readElement_149 rfl (lv_at hl 0 rfl) ?_
  refine lv_iconst (v := (-1)) hx hb d_Rd_readElement_150 (by decide) ?_
  refine lv_icmp_ne (tgt := 155) hx hb d_Rd_readElement_151 (by decide) (fun hc => ?_) (fun hc => ?_)
  · have h := it_f h hc
    exact t_Rd_readElement_155 X (lv_sub hl [1, 2, 3, 0] rfl) hI hS h
  · have h := it_t h hc
    exact t_Rd_readElement_154 X (lv_sub hl [] rfl) hI hS h
set_option maxRecDepth 100000 in
set_option maxHeartbeats 4000000 in
theorem t_Rd_readElement_142 {p : Program} {l : Launch} {e : Env} {s : State} {m : MethodId} {args : Array Value} {below : List Frame} {meth : Method} {c : Code} {D : va_G} {A : Nat → Prop} {g : Nat → ClassId} {rest : va_W} {a0 : Nat → Nat} {sr : Nat → Nat} {a2 : Nat → Nat} {ls : Array Slot} {H : Heap} {locs : List Loc} {s1 : S_Bs} {s0 : S_Rd} {s2 : S_Tr} {out : S_Rd × S_Tr} (X : Cx p s m args meth c prog_7_method_9_code 4 ws_Rd_readElement R_Rd none D g) (hl : lv_has ls 4 []) (hI : Iw D A (w_Rd g a0 (tw (a2 0) (sr 0)) s0 ++ (w_Bs g sr s1 ++ (w_Tr g a2 s2 ++ (rest)))) H) (hS : va_S A s.heap H locs) (h : B_Rd_readElement_142  s1 s0 s2 = some out) : W p l e (headSpec ws_Rd_readElement { frames := 2, cells := 0, slots := 0, locals := 49 }).room s m args below meth c H locs 0 0 (MQ below (QcV D A g (fun (_ : Unit) => w_Rd g a0 (tw (a2 0) (sr 0)) out.1 ++ (w_Bs g sr s1 ++ (w_Tr g a2 out.2 ++ (rest))))) args s 0 0 A) (F0 m 142 ls []) := by
  have X1 := X
  obtain ⟨hx, hb, hml, hown, hts, hr, hlocks, hKK⟩ := X1
  have ht : ∀ w ∈ TB, w.before args s = true := fun w h => hts w (List.mem_cons_of_mem _ h)
  have hK := hKK.1
  unfold B_Rd_readElement_142 at h
  have h9 := Option.some.inj h
  subst h9
  exact W.vret hx hb hr (fun t ht hW => ⟨⟨(), rfl, trivial, ⟨by rw [ht]; exact hI, hKK.moved hW⟩⟩, hS.F ht⟩) hS.2.2 d_Rd_readElement_142
set_option maxRecDepth 100000 in
set_option maxHeartbeats 4000000 in
theorem t_Rd_readElement_101 {p : Program} {l : Launch} {e : Env} {s : State} {m : MethodId} {args : Array Value} {below : List Frame} {meth : Method} {c : Code} {D : va_G} {A : Nat → Prop} {g : Nat → ClassId} {rest : va_W} {a0 : Nat → Nat} {sr : Nat → Nat} {a2 : Nat → Nat} {ls : Array Slot} {H : Heap} {locs : List Loc} {s1 : S_Bs} {s0 : S_Rd} {s2 : S_Tr} {x1 : Int32} {x2 : Int32} {out : S_Rd × S_Tr} (X : Cx p s m args meth c prog_7_method_9_code 4 ws_Rd_readElement R_Rd none D g) (hl : lv_has ls 4 [(0, .ref (a0 0)), (1, .int x1), (2, .int x2)]) (hI : Iw D A (w_Rd g a0 (tw (a2 0) (sr 0)) s0 ++ (w_Bs g sr s1 ++ (w_Tr g a2 s2 ++ (rest)))) H) (hS : va_S A s.heap H locs) (h : B_Rd_readElement_101  s1 s0 s2 x1 x2 = some out) : W p l e (headSpec ws_Rd_readElement { frames := 2, cells := 0, slots := 0, locals := 49 }).room s m args below meth c H locs 0 0 (MQ below (QcV D A g (fun (_ : Unit) => w_Rd g a0 (tw (a2 0) (sr 0)) out.1 ++ (w_Bs g sr s1 ++ (w_Tr g a2 out.2 ++ (rest))))) args s 0 0 A) (F0 m 101 ls []) := by
  have X1 := X
  obtain ⟨hx, hb, hml, hown, hts, hr, hlocks, hKK⟩ := X1
  have ht : ∀ w ∈ TB, w.before args s = true := fun w h => hts w (List.mem_cons_of_mem _ h)
  have hK := hKK.1
  unfold B_Rd_readElement_101 at h
  refine lv_aload_n hx hb d_Rd_readElement_101 rfl (lv_at hl 0 rfl) ?_
  refine va_get (D := D) (ci := 5) (v := .ref (a0 5)) (C := R_Rd) (T := T_Rd) (N := 11) hx hb ht in_Rd hown hK hI.1 0 rfl rfl 5 (by decide) (ht _ m_163) (fun _ h9 => h9) rfl d_Rd_readElement_102 ?_
  refine lv_aload_n hx hb d_Rd_readElement_105 rfl (lv_at hl 0 rfl) ?_
  refine va_get (D := D) (ci := 5) (v := .int (Rd_level s0)) (C := R_Rd) (T := T_Rd) (N := 11) hx hb ht in_Rd hown hK hI.1 0 rfl rfl 9 (by decide) (ht _ m_167) (fun _ h9 => h9) rfl d_Rd_readElement_106 ?_
  refine lv_iload_n hx hb d_Rd_readElement_109 rfl (lv_at hl 1 rfl) ?_
  by_cases hc1 : ((Rd_level s0) < 0 ∨ 5 ≤ (Rd_level s0).toNatClampNeg)
  · exact no_s (it_t h hc1)
  have h := it_f h hc1
  refine va_iast hx hb hK hI.1 hI.2 hS 5 0 rfl rfl hc1 d_Rd_readElement_110 (fun H locs hP hD hS => ?_)
  have hI : Iw D A (w_Rd g a0 (tw (a2 0) (sr 0)) (Rd_set_lastTags s0 (upd (Rd_lastTags s0) (Rd_level s0).toNatClampNeg x1)) ++ (w_Bs g sr s1 ++ (w_Tr g a2 s2 ++ (rest)))) H := ⟨hP, hD⟩
  refine lv_aload_n hx hb d_Rd_readElement_111 rfl (lv_at hl 0 rfl) ?_
  refine va_get (D := D) (ci := 5) (v := .ref (a0 4)) (C := R_Rd) (T := T_Rd) (N := 11) hx hb ht in_Rd hown hK hI.1 0 rfl rfl 4 (by decide) (ht _ m_162) (fun _ h9 => h9) rfl d_Rd_readElement_112 ?_
  refine lv_aload_n hx hb d_Rd_readElement_115 rfl (lv_at hl 0 rfl) ?_
  refine va_get (D := D) (ci := 5) (v := .int (Rd_level (Rd_set_lastTags s0 (upd (Rd_lastTags s0) (Rd_level s0).toNatClampNeg x1)))) (C := R_Rd) (T := T_Rd) (N := 11) hx hb ht in_Rd hown hK hI.1 0 rfl rfl 9 (by decide) (ht _ m_167) (fun _ h9 => h9) rfl d_Rd_readElement_116 ?_
  refine lv_dup2_11 hx hb d_Rd_readElement_119 rfl rfl ?_
  by_cases hc2 : ((Rd_level (Rd_set_lastTags s0 (upd (Rd_lastTags s0) (Rd_level s0).toNatClampNeg x1))) < 0 ∨ 5 ≤ (Rd_level (Rd_set_lastTags s0 (upd (Rd_lastTags s0) (Rd_level s0).toNatClampNeg x1))).toNatClampNeg)
  · exact no_s (it_t h hc2)
  have h := it_f h hc2
  refine va_iald hx hb hK hI.1 4 0 rfl rfl hc2 d_Rd_readElement_120 ?_
  refine lv_iconst (v := 1) hx hb d_Rd_readElement_121 (by decide) ?_
  refine lv_iadd hx hb d_Rd_readElement_122 ?_
  by_cases hc3 : ((Rd_level (Rd_set_lastTags s0 (upd (Rd_lastTags s0) (Rd_level s0).toNatClampNeg x1))) < 0 ∨ 5 ≤ (Rd_level (Rd_set_lastTags s0 (upd (Rd_lastTags s0) (Rd_level s0).toNatClampNeg x1))).toNatClampNeg)
  · exact no_s (it_t h hc3)
  have h := it_f h hc3
  refine va_iast hx hb hK hI.1 hI.2 hS 4 0 rfl rfl hc3 d_Rd_readElement_123 (fun H locs hP hD hS => ?_)
  have hI : Iw D A (w_Rd g a0 (tw (a2 0) (sr 0)) (Rd_set_counts (Rd_set_lastTags s0 (upd (Rd_lastTags s0) (Rd_level s0).toNatClampNeg x1)) (upd (Rd_counts (Rd_set_lastTags s0 (upd (Rd_lastTags s0) (Rd_level s0).toNatClampNeg x1))) (Rd_level (Rd_set_lastTags s0 (upd (Rd_lastTags s0) (Rd_level s0).toNatClampNeg x1))).toNatClampNeg (((Rd_counts (Rd_set_lastTags s0 (upd (Rd_lastTags s0) (Rd_level s0).toNatClampNeg x1))) (Rd_level (Rd_set_lastTags s0 (upd (Rd_lastTags s0) (Rd_level s0).toNatClampNeg x1))).toNatClampNeg) + (1 : Int32)))) ++ (w_Bs g sr s1 ++ (w_Tr g a2 s2 ++ (rest)))) H := ⟨hP, hD⟩
  refine lv_aload_n hx hb d_Rd_readElement_124 rfl (lv_at hl 0 rfl) ?_
  refine lv_dup hx hb d_Rd_readElement_125 rfl ?_
  refine va_get (D := D) (ci := 5) (v := .int (Rd_position (Rd_set_counts (Rd_set_lastTags s0 (upd (Rd_lastTags s0) (Rd_level s0).toNatClampNeg x1)) (upd (Rd_counts (Rd_set_lastTags s0 (upd (Rd_lastTags s0) (Rd_level s0).toNatClampNeg x1))) (Rd_level (Rd_set_lastTags s0 (upd (Rd_lastTags s0) (Rd_level s0).toNatClampNeg x1))).toNatClampNeg (((Rd_counts (Rd_set_lastTags s0 (upd (Rd_lastTags s0) (Rd_level s0).toNatClampNeg x1))) (Rd_level (Rd_set_lastTags s0 (upd (Rd_lastTags s0) (Rd_level s0).toNatClampNeg x1))).toNatClampNeg) + (1 : Int32)))))) (C := R_Rd) (T := T_Rd) (N := 11) hx hb ht in_Rd hown hK hI.1 0 rfl rfl 8 (by decide) (ht _ m_166) (fun _ h9 => h9) rfl d_Rd_readElement_126 ?_
  refine lv_iconst (v := 1) hx hb d_Rd_readElement_129 (by decide) ?_
  refine lv_iadd hx hb d_Rd_readElement_130 ?_
  refine va_put (D := D) (ci := 5) (v := .int ((Rd_position (Rd_set_counts (Rd_set_lastTags s0 (upd (Rd_lastTags s0) (Rd_level s0).toNatClampNeg x1)) (upd (Rd_counts (Rd_set_lastTags s0 (upd (Rd_lastTags s0) (Rd_level s0).toNatClampNeg x1))) (Rd_level (Rd_set_lastTags s0 (upd (Rd_lastTags s0) (Rd_level s0).toNatClampNeg x1))).toNatClampNeg (((Rd_counts (Rd_set_lastTags s0 (upd (Rd_lastTags s0) (Rd_level s0).toNatClampNeg x1))) (Rd_level (Rd_set_lastTags s0 (upd (Rd_lastTags s0) (Rd_level s0).toNatClampNeg x1))).toNatClampNeg) + (1 : Int32))))) + (1 : Int32))) (ty := .int) (C := R_Rd) (T := T_Rd) (N := 11) hx hb ht in_Rd ty_Rd tyok_Rd nm_Rd hown hK hI.1 hI.2 hS 0 rfl rfl 8 (by decide) (ht _ m_166) (fun _ h9 => h9) rfl (by decide +kernel) rfl rfl (Nat.le_of_ble_eq_true rfl) d_Rd_readElement_131 (fun H locs hP hD hS => ?_)
  have hI : Iw D A (w_Rd g a0 (tw (a2 0) (sr 0)) (Rd_set_position (Rd_set_counts (Rd_set_lastTags s0 (upd (Rd_lastTags s0) (Rd_level s0).toNatClampNeg x1)) (upd (Rd_counts (Rd_set_lastTags s0 (upd (Rd_lastTags s0) (Rd_level s0).toNatClampNeg x1))) (Rd_level (Rd_set_lastTags s0 (upd (Rd_lastTags s0) (Rd_level s0).toNatClampNeg x1))).toNatClampNeg (((Rd_counts (Rd_set_lastTags s0 (upd (Rd_lastTags s0) (Rd_level s0).toNatClampNeg x1))) (Rd_level (Rd_set_lastTags s0 (upd (Rd_lastTags s0) (Rd_level s0).toNatClampNeg x1))).toNatClampNeg) + (1 : Int32)))) ((Rd_position (Rd_set_counts (Rd_set_lastTags s0 (upd (Rd_lastTags s0) (Rd_level s0).toNatClampNeg x1)) (upd (Rd_counts (Rd_set_lastTags s0 (upd (Rd_lastTags s0) (Rd_level s0).toNatClampNeg x1))) (Rd_level (Rd_set_lastTags s0 (upd (Rd_lastTags s0) (Rd_level s0).toNatClampNeg x1))).toNatClampNeg (((Rd_counts (Rd_set_lastTags s0 (upd (Rd_lastTags s0) (Rd_level s0).toNatClampNeg x1))) (Rd_level (Rd_set_lastTags s0 (upd (Rd_lastTags s0) (Rd_level s0).toNatClampNeg x1))).toNatClampNeg) + (1 : Int32))))) + (1 : Int32))) ++ (w_Bs g sr s1 ++ (w_Tr g a2 s2 ++ (rest)))) H := ⟨hP, hD⟩
  refine lv_aload_n hx hb d_Rd_readElement_134 rfl (lv_at hl 0 rfl) ?_
  refine lv_iload_n hx hb d_Rd_readElement_135 rfl (lv_at hl 2 rfl) ?_
  obtain ⟨o4, ho5, h⟩ := bd_s h
  refine cl_i (W1 := fun (_ : Unit) => w_Rd g a0 (tw (a2 0) (sr 0)) o4.2 ++ (w_Bs g sr s1 ++ (w_Tr g a2 s2 ++ (rest)))) (va_runV (As := [.int x2]) (rest := []) ⟨hx, hb, hml, hown, ht⟩ (c_Rd_readKind (l := l) (D := D) (A := A) (g := g) (rest := w_Tr g a2 s2 ++ (rest)) (a0 := a0) (sr := sr) (a2 := a2) ho5) (cwV 1 ht (gd_V m_457 m_459 mp_20 m_8 m_460) rfl rfl rfl (by decide +kernel) ⟨(Nat.le_of_ble_eq_true rfl), (Nat.le_of_ble_eq_true rfl)⟩) (prV (ci := 5) (q0 := 0) hKK hI ((mv_1).trans (mv_1)) rfl rfl rfl) rfl rfl hl.1 rfl (lv_room (Nat.le_of_ble_eq_true rfl)) d_Rd_readElement_136 ⟨(Nat.le_of_ble_eq_true rfl), (Nat.le_of_ble_eq_true rfl)⟩) hS (fun _ => (((mv_1).trans (mv_1))).symm) (fun _ H locs hI hS => ?_)
  have hI : Iw D A (w_Rd g a0 (tw (a2 0) (sr 0)) o4.2 ++ (w_Bs g sr s1 ++ (w_Tr g a2 s2 ++ (rest)))) H := hI
  refine lv_if_ne (tgt := 143) hx hb d_Rd_readElement_139 (by decide) (fun hc => ?_) (fun hc => ?_)
  · have h := it_f h hc
    exact t_Rd_readElement_143 X (lv_sub hl [0, 1, 2] rfl) hI hS h
  · have h := it_t h hc
    exact t_Rd_readElement_142 X (lv_sub hl [] rfl) hI hS h
set_option maxRecDepth 100000 in
set_option maxHeartbeats 4000000 in
theorem t_Rd_readElement_90 {p : Program} {l : Launch} {e : Env} {s : State} {m : MethodId} {args : Array Value} {below : List Frame} {meth : Method} {c : Code} {D : va_G} {A : Nat → Prop} {g : Nat → ClassId} {rest : va_W} {a0 : Nat → Nat} {sr : Nat → Nat} {a2 : Nat → Nat} {ls : Array Slot} {H : Heap} {locs : List Loc} {s1 : S_Bs} {s0 : S_Rd} {s2 : S_Tr} {out : S_Rd × S_Tr} (X : Cx p s m args meth c prog_7_method_9_code 4 ws_Rd_readElement R_Rd none D g) (hl : lv_has ls 4 [(0, .ref (a0 0))]) (hI : Iw D A (w_Rd g a0 (tw (a2 0) (sr 0)) s0 ++ (w_Bs g sr s1 ++ (w_Tr g a2 s2 ++ (rest)))) H) (hS : va_S A s.heap H locs) (h : B_Rd_readElement_90  s1 s0 s2 = some out) : W p l e (headSpec ws_Rd_readElement { frames := 2, cells := 0, slots := 0, locals := 49 }).room s m args below meth c H locs 0 0 (MQ below (QcV D A g (fun (_ : Unit) => w_Rd g a0 (tw (a2 0) (sr 0)) out.1 ++ (w_Bs g sr s1 ++ (w_Tr g a2 out.2 ++ (rest))))) args s 0 0 A) (F0 m 90 ls []) := by
  have X1 := X
  obtain ⟨hx, hb, hml, hown, hts, hr, hlocks, hKK⟩ := X1
  have ht : ∀ w ∈ TB, w.before args s = true := fun w h => hts w (List.mem_cons_of_mem _ h)
  have hK := hKK.1
  unfold B_Rd_readElement_90 at h
  refine lv_aload_n hx hb d_Rd_readElement_90 rfl (lv_at hl 0 rfl) ?_
  refine lv_bipush (v := 8) hx hb d_Rd_readElement_91 (by decide) ?_
  refine lv_aload_n hx hb d_Rd_readElement_93 rfl (lv_at hl 0 rfl) ?_
  refine va_get (D := D) (ci := 5) (v := .int (Rd_position s0)) (C := R_Rd) (T := T_Rd) (N := 11) hx hb ht in_Rd hown hK hI.1 0 rfl rfl 8 (by decide) (ht _ m_166) (fun _ h9 => h9) rfl d_Rd_readElement_94 ?_
  obtain ⟨o1, ho2, h⟩ := bd_s h
  refine cl_v (W1 := fun (_ : Unit) => w_Rd g a0 (tw (a2 0) (sr 0)) o1 ++ (w_Bs g sr s1 ++ (w_Tr g a2 s2 ++ (rest)))) (va_runV (As := [.int (8 : Int32), .int (Rd_position s0)]) (rest := []) ⟨hx, hb, hml, hown, ht⟩ (c_Rd_fail (l := l) (D := D) (A := A) (g := g) (rest := w_Bs g sr s1 ++ (w_Tr g a2 s2 ++ (rest))) (a0 := a0) (a1 := a2) (sr := sr) ho2) (cwV 2 ht (gd_V m_433 m_435 mp_16 m_8 m_436) rfl rfl rfl (by decide +kernel) ⟨(Nat.le_of_ble_eq_true rfl), (Nat.le_of_ble_eq_true rfl)⟩) (prV (ci := 5) (q0 := 0) hKK hI (List.Perm.refl _) rfl rfl rfl) rfl rfl hl.1 rfl (lv_room (Nat.le_of_ble_eq_true rfl)) d_Rd_readElement_97 ⟨(Nat.le_of_ble_eq_true rfl), (Nat.le_of_ble_eq_true rfl)⟩) hS (fun _ => ((List.Perm.refl _)).symm) (fun _ H locs hI hS => ?_)
  have hI : Iw D A (w_Rd g a0 (tw (a2 0) (sr 0)) o1 ++ (w_Bs g sr s1 ++ (w_Tr g a2 s2 ++ (rest)))) H := hI
  have h9 := Option.some.inj h
  subst h9
  exact W.vret hx hb hr (fun t ht hW => ⟨⟨(), rfl, trivial, ⟨by rw [ht]; exact hI, hKK.moved hW⟩⟩, hS.F ht⟩) hS.2.2 d_Rd_readElement_100
set_option maxRecDepth 100000 in
set_option maxHeartbeats 4000000 in
theorem t_Rd_readElement_82 {p : Program} {l : Launch} {e : Env} {s : State} {m : MethodId} {args : Array Value} {below : List Frame} {meth : Method} {c : Code} {D : va_G} {A : Nat → Prop} {g : Nat → ClassId} {rest : va_W} {a0 : Nat → Nat} {sr : Nat → Nat} {a2 : Nat → Nat} {ls : Array Slot} {H : Heap} {locs : List Loc} {s1 : S_Bs} {s0 : S_Rd} {s2 : S_Tr} {x1 : Int32} {x2 : Int32} {out : S_Rd × S_Tr} (X : Cx p s m args meth c prog_7_method_9_code 4 ws_Rd_readElement R_Rd none D g) (hl : lv_has ls 4 [(0, .ref (a0 0)), (1, .int x1), (2, .int x2)]) (hI : Iw D A (w_Rd g a0 (tw (a2 0) (sr 0)) s0 ++ (w_Bs g sr s1 ++ (w_Tr g a2 s2 ++ (rest)))) H) (hS : va_S A s.heap H locs) (h : B_Rd_readElement_82  s1 s0 s2 x1 x2 = some out) : W p l e (headSpec ws_Rd_readElement { frames := 2, cells := 0, slots := 0, locals := 49 }).room s m args below meth c H locs 0 0 (MQ below (QcV D A g (fun (_ : Unit) => w_Rd g a0 (tw (a2 0) (sr 0)) out.1 ++ (w_Bs g sr s1 ++ (w_Tr g a2 out.2 ++ (rest))))) args s 0 0 A) (F0 m 82 ls []) := by
  have X1 := X
  obtain ⟨hx, hb, hml, hown, hts, hr, hlocks, hKK⟩ := X1
  have ht : ∀ w ∈ TB, w.before args s = true := fun w h => hts w (List.mem_cons_of_mem _ h)
  have hK := hKK.1
  unfold B_Rd_readElement_82 at h
  refine lv_aload_n hx hb d_Rd_readElement_82 rfl (lv_at hl 0 rfl) ?_
  refine va_get (D := D) (ci := 5) (v := .int (Rd_level s0)) (C := R_Rd) (T := T_Rd) (N := 11) hx hb ht in_Rd hown hK hI.1 0 rfl rfl 9 (by decide) (ht _ m_167) (fun _ h9 => h9) rfl d_Rd_readElement_83 ?_
  refine lv_iconst (v := 4) hx hb d_Rd_readElement_86 (by decide) ?_
  refine lv_icmp_ne (tgt := 101) hx hb d_Rd_readElement_87 (by decide) (fun hc => ?_) (fun hc => ?_)
  · have h := it_f h hc
    exact t_Rd_readElement_101 X (lv_sub hl [0, 1, 2] rfl) hI hS h
  · have h := it_t h hc
    exact t_Rd_readElement_90 X (lv_sub hl [0] rfl) hI hS h
set_option maxRecDepth 100000 in
set_option maxHeartbeats 4000000 in
theorem t_Rd_readElement_77 {p : Program} {l : Launch} {e : Env} {s : State} {m : MethodId} {args : Array Value} {below : List Frame} {meth : Method} {c : Code} {D : va_G} {A : Nat → Prop} {g : Nat → ClassId} {rest : va_W} {a0 : Nat → Nat} {sr : Nat → Nat} {a2 : Nat → Nat} {ls : Array Slot} {H : Heap} {locs : List Loc} {s1 : S_Bs} {s0 : S_Rd} {s2 : S_Tr} {x1 : Int32} {x2 : Int32} {out : S_Rd × S_Tr} (X : Cx p s m args meth c prog_7_method_9_code 4 ws_Rd_readElement R_Rd none D g) (hl : lv_has ls 4 [(0, .ref (a0 0)), (1, .int x1), (2, .int x2)]) (hI : Iw D A (w_Rd g a0 (tw (a2 0) (sr 0)) s0 ++ (w_Bs g sr s1 ++ (w_Tr g a2 s2 ++ (rest)))) H) (hS : va_S A s.heap H locs) (h : B_Rd_readElement_77  s1 s0 s2 x1 x2 = some out) : W p l e (headSpec ws_Rd_readElement { frames := 2, cells := 0, slots := 0, locals := 49 }).room s m args below meth c H locs 0 0 (MQ below (QcV D A g (fun (_ : Unit) => w_Rd g a0 (tw (a2 0) (sr 0)) out.1 ++ (w_Bs g sr s1 ++ (w_Tr g a2 out.2 ++ (rest))))) args s 0 0 A) (F0 m 77 ls []) := by
  have X1 := X
  obtain ⟨hx, hb, hml, hown, hts, hr, hlocks, hKK⟩ := X1
  have ht : ∀ w ∈ TB, w.before args s = true := fun w h => hts w (List.mem_cons_of_mem _ h)
  have hK := hKK.1
  unfold B_Rd_readElement_77 at h
  refine lv_iload_n hx hb d_Rd_readElement_77 rfl (lv_at hl 2 rfl) ?_
  refine lv_iconst (v := 3) hx hb d_Rd_readElement_78 (by decide) ?_
  refine lv_icmp_ne (tgt := 101) hx hb d_Rd_readElement_79 (by decide) (fun hc => ?_) (fun hc => ?_)
  · have h := it_f h hc
    exact t_Rd_readElement_101 X (lv_sub hl [0, 1, 2] rfl) hI hS h
  · have h := it_t h hc
    exact t_Rd_readElement_82 X (lv_sub hl [0, 1, 2] rfl) hI hS h
set_option maxRecDepth 100000 in
set_option maxHeartbeats 4000000 in
theorem t_Rd_readElement_66 {p : Program} {l : Launch} {e : Env} {s : State} {m : MethodId} {args : Array Value} {below : List Frame} {meth : Method} {c : Code} {D : va_G} {A : Nat → Prop} {g : Nat → ClassId} {rest : va_W} {a0 : Nat → Nat} {sr : Nat → Nat} {a2 : Nat → Nat} {ls : Array Slot} {H : Heap} {locs : List Loc} {s1 : S_Bs} {s0 : S_Rd} {s2 : S_Tr} {out : S_Rd × S_Tr} (X : Cx p s m args meth c prog_7_method_9_code 4 ws_Rd_readElement R_Rd none D g) (hl : lv_has ls 4 [(0, .ref (a0 0))]) (hI : Iw D A (w_Rd g a0 (tw (a2 0) (sr 0)) s0 ++ (w_Bs g sr s1 ++ (w_Tr g a2 s2 ++ (rest)))) H) (hS : va_S A s.heap H locs) (h : B_Rd_readElement_66  s1 s0 s2 = some out) : W p l e (headSpec ws_Rd_readElement { frames := 2, cells := 0, slots := 0, locals := 49 }).room s m args below meth c H locs 0 0 (MQ below (QcV D A g (fun (_ : Unit) => w_Rd g a0 (tw (a2 0) (sr 0)) out.1 ++ (w_Bs g sr s1 ++ (w_Tr g a2 out.2 ++ (rest))))) args s 0 0 A) (F0 m 66 ls []) := by
  have X1 := X
  obtain ⟨hx, hb, hml, hown, hts, hr, hlocks, hKK⟩ := X1
  have ht : ∀ w ∈ TB, w.before args s = true := fun w h => hts w (List.mem_cons_of_mem _ h)
  have hK := hKK.1
  unfold B_Rd_readElement_66 at h
  refine lv_aload_n hx hb d_Rd_readElement_66 rfl (lv_at hl 0 rfl) ?_
  refine lv_bipush (v := 7) hx hb d_Rd_readElement_67 (by decide) ?_
  refine lv_aload_n hx hb d_Rd_readElement_69 rfl (lv_at hl 0 rfl) ?_
  refine va_get (D := D) (ci := 5) (v := .int (Rd_position s0)) (C := R_Rd) (T := T_Rd) (N := 11) hx hb ht in_Rd hown hK hI.1 0 rfl rfl 8 (by decide) (ht _ m_166) (fun _ h9 => h9) rfl d_Rd_readElement_70 ?_
  obtain ⟨o1, ho2, h⟩ := bd_s h
  refine cl_v (W1 := fun (_ : Unit) => w_Rd g a0 (tw (a2 0) (sr 0)) o1 ++ (w_Bs g sr s1 ++ (w_Tr g a2 s2 ++ (rest)))) (va_runV (As := [.int (7 : Int32), .int (Rd_position s0)]) (rest := []) ⟨hx, hb, hml, hown, ht⟩ (c_Rd_fail (l := l) (D := D) (A := A) (g := g) (rest := w_Bs g sr s1 ++ (w_Tr g a2 s2 ++ (rest))) (a0 := a0) (a1 := a2) (sr := sr) ho2) (cwV 2 ht (gd_V m_433 m_435 mp_16 m_8 m_436) rfl rfl rfl (by decide +kernel) ⟨(Nat.le_of_ble_eq_true rfl), (Nat.le_of_ble_eq_true rfl)⟩) (prV (ci := 5) (q0 := 0) hKK hI (List.Perm.refl _) rfl rfl rfl) rfl rfl hl.1 rfl (lv_room (Nat.le_of_ble_eq_true rfl)) d_Rd_readElement_73 ⟨(Nat.le_of_ble_eq_true rfl), (Nat.le_of_ble_eq_true rfl)⟩) hS (fun _ => ((List.Perm.refl _)).symm) (fun _ H locs hI hS => ?_)
  have hI : Iw D A (w_Rd g a0 (tw (a2 0) (sr 0)) o1 ++ (w_Bs g sr s1 ++ (w_Tr g a2 s2 ++ (rest)))) H := hI
  have h9 := Option.some.inj h
  subst h9
  exact W.vret hx hb hr (fun t ht hW => ⟨⟨(), rfl, trivial, ⟨by rw [ht]; exact hI, hKK.moved hW⟩⟩, hS.F ht⟩) hS.2.2 d_Rd_readElement_76
set_option maxRecDepth 100000 in
set_option maxHeartbeats 4000000 in
theorem t_Rd_readElement_52 {p : Program} {l : Launch} {e : Env} {s : State} {m : MethodId} {args : Array Value} {below : List Frame} {meth : Method} {c : Code} {D : va_G} {A : Nat → Prop} {g : Nat → ClassId} {rest : va_W} {a0 : Nat → Nat} {sr : Nat → Nat} {a2 : Nat → Nat} {ls : Array Slot} {H : Heap} {locs : List Loc} {s1 : S_Bs} {s0 : S_Rd} {s2 : S_Tr} {x1 : Int32} {x2 : Int32} {out : S_Rd × S_Tr} (X : Cx p s m args meth c prog_7_method_9_code 4 ws_Rd_readElement R_Rd none D g) (hl : lv_has ls 4 [(0, .ref (a0 0)), (1, .int x1), (2, .int x2)]) (hI : Iw D A (w_Rd g a0 (tw (a2 0) (sr 0)) s0 ++ (w_Bs g sr s1 ++ (w_Tr g a2 s2 ++ (rest)))) H) (hS : va_S A s.heap H locs) (h : B_Rd_readElement_52  s1 s0 s2 x1 x2 = some out) : W p l e (headSpec ws_Rd_readElement { frames := 2, cells := 0, slots := 0, locals := 49 }).room s m args below meth c H locs 0 0 (MQ below (QcV D A g (fun (_ : Unit) => w_Rd g a0 (tw (a2 0) (sr 0)) out.1 ++ (w_Bs g sr s1 ++ (w_Tr g a2 out.2 ++ (rest))))) args s 0 0 A) (F0 m 52 ls []) := by
  have X1 := X
  obtain ⟨hx, hb, hml, hown, hts, hr, hlocks, hKK⟩ := X1
  have ht : ∀ w ∈ TB, w.before args s = true := fun w h => hts w (List.mem_cons_of_mem _ h)
  have hK := hKK.1
  unfold B_Rd_readElement_52 at h
  refine lv_aload_n hx hb d_Rd_readElement_52 rfl (lv_at hl 0 rfl) ?_
  refine va_get (D := D) (ci := 5) (v := .ref (a0 4)) (C := R_Rd) (T := T_Rd) (N := 11) hx hb ht in_Rd hown hK hI.1 0 rfl rfl 4 (by decide) (ht _ m_162) (fun _ h9 => h9) rfl d_Rd_readElement_53 ?_
  refine lv_aload_n hx hb d_Rd_readElement_56 rfl (lv_at hl 0 rfl) ?_
  refine va_get (D := D) (ci := 5) (v := .int (Rd_level s0)) (C := R_Rd) (T := T_Rd) (N := 11) hx hb ht in_Rd hown hK hI.1 0 rfl rfl 9 (by decide) (ht _ m_167) (fun _ h9 => h9) rfl d_Rd_readElement_57 ?_
  by_cases hc1 : ((Rd_level s0) < 0 ∨ 5 ≤ (Rd_level s0).toNatClampNeg)
  · exact no_s (it_t h hc1)
  have h := it_f h hc1
  refine va_iald hx hb hK hI.1 4 0 rfl rfl hc1 d_Rd_readElement_60 ?_
  refine lv_bipush (v := 10) hx hb d_Rd_readElement_61 (by decide) ?_
  refine lv_icmp_ne (tgt := 77) hx hb d_Rd_readElement_63 (by decide) (fun hc => ?_) (fun hc => ?_)
  · have h := it_f h hc
    exact t_Rd_readElement_77 X (lv_sub hl [0, 1, 2] rfl) hI hS h
  · have h := it_t h hc
    exact t_Rd_readElement_66 X (lv_sub hl [0] rfl) hI hS h
set_option maxRecDepth 100000 in
set_option maxHeartbeats 4000000 in
theorem t_Rd_readElement_29 {p : Program} {l : Launch} {e : Env} {s : State} {m : MethodId} {args : Array Value} {below : List Frame} {meth : Method} {c : Code} {D : va_G} {A : Nat → Prop} {g : Nat → ClassId} {rest : va_W} {a0 : Nat → Nat} {sr : Nat → Nat} {a2 : Nat → Nat} {ls : Array Slot} {H : Heap} {locs : List Loc} {s1 : S_Bs} {s0 : S_Rd} {s2 : S_Tr} {x1 : Int32} {x2 : Int32} {out : S_Rd × S_Tr} (X : Cx p s m args meth c prog_7_method_9_code 4 ws_Rd_readElement R_Rd none D g) (hl : lv_has ls 4 [(0, .ref (a0 0)), (1, .int x1), (2, .int x2)]) (hI : Iw D A (w_Rd g a0 (tw (a2 0) (sr 0)) s0 ++ (w_Bs g sr s1 ++ (w_Tr g a2 s2 ++ (rest)))) H) (hS : va_S A s.heap H locs) (h : B_Rd_readElement_29  s1 s0 s2 x1 x2 = some out) : W p l e (headSpec ws_Rd_readElement { frames := 2, cells := 0, slots := 0, locals := 49 }).room s m args below meth c H locs 0 0 (MQ below (QcV D A g (fun (_ : Unit) => w_Rd g a0 (tw (a2 0) (sr 0)) out.1 ++ (w_Bs g sr s1 ++ (w_Tr g a2 out.2 ++ (rest))))) args s 0 0 A) (F0 m 29 ls []) := by
  have X1 := X
  obtain ⟨hx, hb, hml, hown, hts, hr, hlocks, hKK⟩ := X1
  have ht : ∀ w ∈ TB, w.before args s = true := fun w h => hts w (List.mem_cons_of_mem _ h)
  have hK := hKK.1
  unfold B_Rd_readElement_29 at h
  refine lv_iload_n hx hb d_Rd_readElement_29 rfl (lv_at hl 1 rfl) ?_
  refine lv_aload_n hx hb d_Rd_readElement_30 rfl (lv_at hl 0 rfl) ?_
  refine va_get (D := D) (ci := 5) (v := .ref (a0 5)) (C := R_Rd) (T := T_Rd) (N := 11) hx hb ht in_Rd hown hK hI.1 0 rfl rfl 5 (by decide) (ht _ m_163) (fun _ h9 => h9) rfl d_Rd_readElement_31 ?_
  refine lv_aload_n hx hb d_Rd_readElement_34 rfl (lv_at hl 0 rfl) ?_
  refine va_get (D := D) (ci := 5) (v := .int (Rd_level s0)) (C := R_Rd) (T := T_Rd) (N := 11) hx hb ht in_Rd hown hK hI.1 0 rfl rfl 9 (by decide) (ht _ m_167) (fun _ h9 => h9) rfl d_Rd_readElement_35 ?_
  by_cases hc1 : ((Rd_level s0) < 0 ∨ 5 ≤ (Rd_level s0).toNatClampNeg)
  · exact no_s (it_t h hc1)
  have h := it_f h hc1
  refine va_iald hx hb hK hI.1 5 0 rfl rfl hc1 d_Rd_readElement_38 ?_
  refine lv_icmp_gt (tgt := 52) hx hb d_Rd_readElement_39 (by decide) (fun hc => ?_) (fun hc => ?_)
  · have h := it_t h hc
    exact t_Rd_readElement_52 X (lv_sub hl [0, 1, 2] rfl) hI hS h
  · have h := it_f h hc
    exact t_Rd_readElement_42 X (lv_sub hl [0] rfl) hI hS h
set_option maxRecDepth 100000 in
set_option maxHeartbeats 4000000 in
theorem t_Rd_readElement_22 {p : Program} {l : Launch} {e : Env} {s : State} {m : MethodId} {args : Array Value} {below : List Frame} {meth : Method} {c : Code} {D : va_G} {A : Nat → Prop} {g : Nat → ClassId} {rest : va_W} {a0 : Nat → Nat} {sr : Nat → Nat} {a2 : Nat → Nat} {ls : Array Slot} {H : Heap} {locs : List Loc} {s1 : S_Bs} {s0 : S_Rd} {s2 : S_Tr} {x1 : Int32} {x2 : Int32} {out : S_Rd × S_Tr} (X : Cx p s m args meth c prog_7_method_9_code 4 ws_Rd_readElement R_Rd none D g) (hl : lv_has ls 4 [(0, .ref (a0 0)), (1, .int x1), (2, .int x2)]) (hI : Iw D A (w_Rd g a0 (tw (a2 0) (sr 0)) s0 ++ (w_Bs g sr s1 ++ (w_Tr g a2 s2 ++ (rest)))) H) (hS : va_S A s.heap H locs) (h : B_Rd_readElement_22  s1 s0 s2 x1 x2 = some out) : W p l e (headSpec ws_Rd_readElement { frames := 2, cells := 0, slots := 0, locals := 49 }).room s m args below meth c H locs 0 0 (MQ below (QcV D A g (fun (_ : Unit) => w_Rd g a0 (tw (a2 0) (sr 0)) out.1 ++ (w_Bs g sr s1 ++ (w_Tr g a2 out.2 ++ (rest))))) args s 0 0 A) (F0 m 22 ls []) := by
  have X1 := X
  obtain ⟨hx, hb, hml, hown, hts, hr, hlocks, hKK⟩ := X1
  have ht : ∀ w ∈ TB, w.before args s = true := fun w h => hts w (List.mem_cons_of_mem _ h)
  have hK := hKK.1
  unfold B_Rd_readElement_22 at h
  refine lv_iload_n hx hb d_Rd_readElement_22 rfl (lv_at hl 1 rfl) ?_
  refine lv_sipush (v := 200) hx hb d_Rd_readElement_23 (by decide) ?_
  refine lv_icmp_gt (tgt := 42) hx hb d_Rd_readElement_26 (by decide) (fun hc => ?_) (fun hc => ?_)
  · have h := it_t h hc
    exact t_Rd_readElement_42 X (lv_sub hl [0] rfl) hI hS h
  · have h := it_f h hc
    exact t_Rd_readElement_29 X (lv_sub hl [0, 1, 2] rfl) hI hS h
set_option maxRecDepth 100000 in
set_option maxHeartbeats 4000000 in
theorem t_Rd_readElement_0 {p : Program} {l : Launch} {e : Env} {s : State} {m : MethodId} {args : Array Value} {below : List Frame} {meth : Method} {c : Code} {D : va_G} {A : Nat → Prop} {g : Nat → ClassId} {rest : va_W} {a0 : Nat → Nat} {sr : Nat → Nat} {a2 : Nat → Nat} {ls : Array Slot} {H : Heap} {locs : List Loc} {s1 : S_Bs} {s0 : S_Rd} {s2 : S_Tr} {out : S_Rd × S_Tr} (X : Cx p s m args meth c prog_7_method_9_code 4 ws_Rd_readElement R_Rd none D g) (hl : lv_has ls 4 [(0, .ref (a0 0))]) (hI : Iw D A (w_Rd g a0 (tw (a2 0) (sr 0)) s0 ++ (w_Bs g sr s1 ++ (w_Tr g a2 s2 ++ (rest)))) H) (hS : va_S A s.heap H locs) (h : B_Rd_readElement_0  s1 s0 s2 = some out) : W p l e (headSpec ws_Rd_readElement { frames := 2, cells := 0, slots := 0, locals := 49 }).room s m args below meth c H locs 0 0 (MQ below (QcV D A g (fun (_ : Unit) => w_Rd g a0 (tw (a2 0) (sr 0)) out.1 ++ (w_Bs g sr s1 ++ (w_Tr g a2 out.2 ++ (rest))))) args s 0 0 A) (F0 m 0 ls []) := by
  have X1 := X
  obtain ⟨hx, hb, hml, hown, hts, hr, hlocks, hKK⟩ := X1
  have ht : ∀ w ∈ TB, w.before args s = true := fun w h => hts w (List.mem_cons_of_mem _ h)
  have hK := hKK.1
  unfold B_Rd_readElement_0 at h
  refine lv_aload_n hx hb d_Rd_readElement_0 rfl (lv_at hl 0 rfl) ?_
  refine va_get (D := D) (ci := 5) (v := .ref (sr 0)) (C := R_Rd) (T := T_Rd) (N := 11) hx hb ht in_Rd hown hK hI.1 0 rfl rfl 6 (by decide) (ht _ m_164) (fun _ h9 => h9) rfl d_Rd_readElement_1 ?_
  refine lv_aload_n hx hb d_Rd_readElement_4 rfl (lv_at hl 0 rfl) ?_
  refine va_get (D := D) (ci := 5) (v := .int (Rd_position s0)) (C := R_Rd) (T := T_Rd) (N := 11) hx hb ht in_Rd hown hK hI.1 0 rfl rfl 8 (by decide) (ht _ m_166) (fun _ h9 => h9) rfl d_Rd_readElement_5 ?_
  obtain ⟨o1, ho2, h⟩ := bd_s h
  refine cl_i (W1 := fun (_ : Unit) => w_Rd g a0 (tw (a2 0) (sr 0)) s0 ++ (w_Bs g sr s1 ++ (w_Tr g a2 s2 ++ (rest)))) (va_runV (As := [.int (Rd_position s0)]) (rest := []) ⟨hx, hb, hml, hown, ht⟩ (c_Bs_get (l := l) (D := D) (A := A) (g := g) (rest := w_Rd g a0 (tw (a2 0) (sr 0)) s0 ++ (w_Tr g a2 s2 ++ (rest))) (a0 := sr) ho2) (cwV 1 ht (gd_V m_445 m_307 m_308 m_2 m_309) rfl rfl rfl (by decide +kernel) ⟨(Nat.le_of_ble_eq_true rfl), (Nat.le_of_ble_eq_true rfl)⟩) (prV (ci := 0) (q0 := 0) hKK hI (mv_1) rfl rfl rfl) rfl rfl hl.1 rfl (lv_room (Nat.le_of_ble_eq_true rfl)) d_Rd_readElement_8 ⟨(Nat.le_of_ble_eq_true rfl), (Nat.le_of_ble_eq_true rfl)⟩) hS (fun _ => ((mv_1)).symm) (fun _ H locs hI hS => ?_)
  have hI : Iw D A (w_Rd g a0 (tw (a2 0) (sr 0)) s0 ++ (w_Bs g sr s1 ++ (w_Tr g a2 s2 ++ (rest)))) H := hI
  refine lv_istore_n hx hb d_Rd_readElement_11 rfl hl (Nat.le_of_ble_eq_true rfl) rfl (fun ls hl => ?_)
  have hl : lv_has ls 4 [(1, .int o1), (0, .ref (a0 0))] := hl
  refine lv_iload_n hx hb d_Rd_readElement_12 rfl (lv_at hl 0 rfl) ?_
  obtain ⟨o3, ho4, h⟩ := bd_s h
  refine cl_i (W1 := fun (_ : Unit) => w_Rd g a0 (tw (a2 0) (sr 0)) s0 ++ (w_Bs g sr s1 ++ (w_Tr g a2 s2 ++ (rest)))) (va_runSN (As := [.int o1]) (rest := []) ⟨hx, hb, hml, hown, ht⟩ (c_Rn_kindOf (l := l) (D := D) (A := A) (g := g) (rest := w_Rd g a0 (tw (a2 0) (sr 0)) s0 ++ (w_Bs g sr s1 ++ (w_Tr g a2 s2 ++ (rest))))  ho4) ⟨va_cnB 1 ht (gd_0 m_456) rfl rfl rfl hKK.2.1 (ht _ m_1) (by decide +kernel) ⟨(Nat.le_of_ble_eq_true rfl), (Nat.le_of_ble_eq_true rfl)⟩, ht _ m_455, trivial⟩ (prS hKK hI (List.Perm.refl _)) rfl rfl hl.1 rfl (lv_room (Nat.le_of_ble_eq_true rfl)) d_Rd_readElement_13 ⟨(Nat.le_of_ble_eq_true rfl), (Nat.le_of_ble_eq_true rfl)⟩) hS (fun _ => ((List.Perm.refl _)).symm) (fun _ H locs hI hS => ?_)
  have hI : Iw D A (w_Rd g a0 (tw (a2 0) (sr 0)) s0 ++ (w_Bs g sr s1 ++ (w_Tr g a2 s2 ++ (rest)))) H := hI
  refine lv_istore_n hx hb d_Rd_readElement_16 rfl hl (Nat.le_of_ble_eq_true rfl) rfl (fun ls hl => ?_)
  have hl : lv_has ls 4 [(2, .int o3), (1, .int o1), (0, .ref (a0 0))] := hl
  refine lv_iload_n hx hb d_Rd_readElement_17 rfl (lv_at hl 1 rfl) ?_
  refine lv_iconst (v := 1) hx hb d_Rd_readElement_18 (by decide) ?_
  refine lv_icmp_lt (tgt := 42) hx hb d_Rd_readElement_19 (by decide) (fun hc => ?_) (fun hc => ?_)
  · have h := it_t h hc
    exact t_Rd_readElement_42 X (lv_sub hl [2] rfl) hI hS h
  · have h := it_f h hc
    exact t_Rd_readElement_22 X (lv_sub hl [2, 1, 0] rfl) hI hS h
set_option maxRecDepth 100000 in
set_option maxHeartbeats 4000000 in
theorem c_Rd_readElement {l : Launch} {D : va_G} {A : Nat → Prop} {g : Nat → ClassId} {rest : va_W} {a0 : Nat → Nat} {sr : Nat → Nat} {a2 : Nat → Nat} {s0 : S_Rd} {s1 : S_Bs} {s2 : S_Tr} {out : S_Rd × S_Tr} (h : F_Rd_readElement s0 s1 s2 = some out) : Met l y_Rd_readElement ws_Rd_readElement { frames := 2, cells := 0, slots := 0, locals := 49 } (PcW D A g [.ref (a0 0)] (w_Rd g a0 (tw (a2 0) (sr 0)) s0 ++ (w_Bs g sr s1 ++ (w_Tr g a2 s2 ++ (rest))))) (QcV D A g (fun (_ : Unit) => w_Rd g a0 (tw (a2 0) (sr 0)) out.1 ++ (w_Bs g sr s1 ++ (w_Tr g a2 out.2 ++ (rest))))) 0 0 A := by
  refine Met.ofW (cc := prog_7_method_9_code) (maxL := 4) (ret := none) (by decide) rfl ?_
  intro p e s m args below meth c s₁ B hml hv
  obtain ⟨rfl, hI, hK⟩ := hv
  have hl := lv_entry [.ref (a0 0)] (n := 4) (Nat.le_of_ble_eq_true rfl)
  rw [lg_entry_eq]
  generalize (lg_sl [.ref (a0 0)] ++ List.replicate (4 - (lg_sl [.ref (a0 0)]).length) Slot.unset).toArray = ls at hl ⊢
  have hl : lv_has ls 4 [(0, .ref (a0 0))] := hl
  exact t_Rd_readElement_0 ⟨B.exec, B.bytes, hml, findClass_of_methodNamed B.named, atoms_spec (ws := ws_Rd_readElement) B.pre, B.returns, B.notSynchronized, hK⟩ (lv_sub hl [0] rfl) hI va_S.rf h
def ws_Rd_readItem : List Cond := .code y_Rd_readItem prog_7_method_10_code 2 none :: TB
def B_Rd_readItem_110 (s1 : S_Bs) (s0 : S_Rd) (s2 : S_Tr) : Option (S_Rd × S_Tr) :=
  some (s0, s2)
def B_Rd_readItem_107 (s1 : S_Bs) (s0 : S_Rd) (s2 : S_Tr) (y0 : Int32) (y1 : Int32) (y2 : Int32) : Option (S_Rd × S_Tr) :=
  ((F_Rd_enter s0 s2 y2 y1 y0).bind fun o1 => (B_Rd_readItem_110 s1 o1.1 o1.2))
def B_Rd_readItem_106 (s1 : S_Bs) (s0 : S_Rd) (s2 : S_Tr) (y0 : Int32) (y1 : Int32) : Option (S_Rd × S_Tr) :=
  (B_Rd_readItem_107 s1 s0 s2 (0 : Int32) y0 y1)
def B_Rd_readItem_102 (s1 : S_Bs) (s0 : S_Rd) (s2 : S_Tr) (y0 : Int32) (y1 : Int32) : Option (S_Rd × S_Tr) :=
  (B_Rd_readItem_107 s1 s0 s2 (1 : Int32) y0 y1)
def B_Rd_readItem_86 (s1 : S_Bs) (s0 : S_Rd) (s2 : S_Tr) (x1 : Int32) : Option (S_Rd × S_Tr) :=
  ((F_Rd_endOf s0 x1).bind fun o1 => (if x1 = (255 : Int32) then (B_Rd_readItem_102 s1 s0 s2 o1 (254 : Int32)) else (B_Rd_readItem_106 s1 s0 s2 o1 (254 : Int32))))
def B_Rd_readItem_52 (s1 : S_Bs) (s0 : S_Rd) (s2 : S_Tr) : Option (S_Rd × S_Tr) :=
  (if ((Rd_level s0) < 0 ∨ 5 ≤ (Rd_level s0).toNatClampNeg) then none else (if ((Rd_level s0) < 0 ∨ 5 ≤ (Rd_level s0).toNatClampNeg) then none else ((F_Rd_readLength (Rd_set_position (Rd_set_counts s0 (upd (Rd_counts s0) (Rd_level s0).toNatClampNeg (((Rd_counts s0) (Rd_level s0).toNatClampNeg) + (1 : Int32)))) ((Rd_position (Rd_set_counts s0 (upd (Rd_counts s0) (Rd_level s0).toNatClampNeg (((Rd_counts s0) (Rd_level s0).toNatClampNeg) + (1 : Int32))))) + (1 : Int32))) s1 (4 : Int32)).bind fun o3 => (if o3.1 = ((-1) : Int32) then (B_Rd_readItem_110 s1 o3.2 s2) else (B_Rd_readItem_86 s1 o3.2 s2 o3.1)))))
def B_Rd_readItem_41 (s1 : S_Bs) (s0 : S_Rd) (s2 : S_Tr) : Option (S_Rd × S_Tr) :=
  ((F_Rd_fail s0 (7 : Int32) (Rd_position s0)).bind fun o1 => some (o1, s2))
def B_Rd_readItem_28 (s1 : S_Bs) (s0 : S_Rd) (s2 : S_Tr) : Option (S_Rd × S_Tr) :=
  (if ((Rd_level s0) < 0 ∨ 5 ≤ (Rd_level s0).toNatClampNeg) then none else (if ((Rd_counts s0) (Rd_level s0).toNatClampNeg) = (4 : Int32) then (B_Rd_readItem_41 s1 s0 s2) else (B_Rd_readItem_52 s1 s0 s2)))
def B_Rd_readItem_17 (s1 : S_Bs) (s0 : S_Rd) (s2 : S_Tr) : Option (S_Rd × S_Tr) :=
  ((F_Rd_fail s0 (6 : Int32) (Rd_position s0)).bind fun o1 => some (o1, s2))
def B_Rd_readItem_0 (s1 : S_Bs) (s0 : S_Rd) (s2 : S_Tr) : Option (S_Rd × S_Tr) :=
  ((F_Bs_get s1 (Rd_position s0)).bind fun o1 => (if o1 = (254 : Int32) then (B_Rd_readItem_28 s1 s0 s2) else (B_Rd_readItem_17 s1 s0 s2)))
def F_Rd_readItem (s0 : S_Rd) (s1 : S_Bs) (s2 : S_Tr) : Option (S_Rd × S_Tr) := B_Rd_readItem_0 s1 s0 s2
set_option maxRecDepth 100000 in
set_option maxHeartbeats 4000000 in
theorem t_Rd_readItem_110 {p : Program} {l : Launch} {e : Env} {s : State} {m : MethodId} {args : Array Value} {below : List Frame} {meth : Method} {c : Code} {D : va_G} {A : Nat → Prop} {g : Nat → ClassId} {rest : va_W} {a0 : Nat → Nat} {sr : Nat → Nat} {a2 : Nat → Nat} {ls : Array Slot} {H : Heap} {locs : List Loc} {s1 : S_Bs} {s0 : S_Rd} {s2 : S_Tr} {out : S_Rd × S_Tr} (X : Cx p s m args meth c prog_7_method_10_code 2 ws_Rd_readItem R_Rd none D g) (hl : lv_has ls 2 []) (hI : Iw D A (w_Rd g a0 (tw (a2 0) (sr 0)) s0 ++ (w_Bs g sr s1 ++ (w_Tr g a2 s2 ++ (rest)))) H) (hS : va_S A s.heap H locs) (h : B_Rd_readItem_110  s1 s0 s2 = some out) : W p l e (headSpec ws_Rd_readItem { frames := 2, cells := 0, slots := 0, locals := 47 }).room s m args below meth c H locs 0 0 (MQ below (QcV D A g (fun (_ : Unit) => w_Rd g a0 (tw (a2 0) (sr 0)) out.1 ++ (w_Bs g sr s1 ++ (w_Tr g a2 out.2 ++ (rest))))) args s 0 0 A) (F0 m 110 ls []) := by
  have X1 := X
  obtain ⟨hx, hb, hml, hown, hts, hr, hlocks, hKK⟩ := X1
  have ht : ∀ w ∈ TB, w.before args s = true := fun w h => hts w (List.mem_cons_of_mem _ h)
  have hK := hKK.1
  unfold B_Rd_readItem_110 at h
  have h9 := Option.some.inj h
  subst h9
  exact W.vret hx hb hr (fun t ht hW => ⟨⟨(), rfl, trivial, ⟨by rw [ht]; exact hI, hKK.moved hW⟩⟩, hS.F ht⟩) hS.2.2 d_Rd_readItem_110
set_option maxRecDepth 100000 in
set_option maxHeartbeats 4000000 in
theorem t_Rd_readItem_107 {p : Program} {l : Launch} {e : Env} {s : State} {m : MethodId} {args : Array Value} {below : List Frame} {meth : Method} {c : Code} {D : va_G} {A : Nat → Prop} {g : Nat → ClassId} {rest : va_W} {a0 : Nat → Nat} {sr : Nat → Nat} {a2 : Nat → Nat} {ls : Array Slot} {H : Heap} {locs : List Loc} {s1 : S_Bs} {s0 : S_Rd} {s2 : S_Tr} {y0 : Int32} {y1 : Int32} {y2 : Int32} {out : S_Rd × S_Tr} (X : Cx p s m args meth c prog_7_method_10_code 2 ws_Rd_readItem R_Rd none D g) (hl : lv_has ls 2 []) (hI : Iw D A (w_Rd g a0 (tw (a2 0) (sr 0)) s0 ++ (w_Bs g sr s1 ++ (w_Tr g a2 s2 ++ (rest)))) H) (hS : va_S A s.heap H locs) (h : B_Rd_readItem_107  s1 s0 s2 y0 y1 y2 = some out) : W p l e (headSpec ws_Rd_readItem { frames := 2, cells := 0, slots := 0, locals := 47 }).room s m args below meth c H locs 0 0 (MQ below (QcV D A g (fun (_ : Unit) => w_Rd g a0 (tw (a2 0) (sr 0)) out.1 ++ (w_Bs g sr s1 ++ (w_Tr g a2 out.2 ++ (rest))))) args s 0 0 A) (F0 m 107 ls [.int y0, .int y1, .int y2, .ref (a0 0)]) := by
  have X1 := X
  obtain ⟨hx, hb, hml, hown, hts, hr, hlocks, hKK⟩ := X1
  have ht : ∀ w ∈ TB, w.before args s = true := fun w h => hts w (List.mem_cons_of_mem _ h)
  have hK := hKK.1
  unfold B_Rd_readItem_107 at h
  obtain ⟨o1, ho2, h⟩ := bd_s h
  refine cl_v (W1 := fun (_ : Unit) => w_Rd g a0 (tw (a2 0) (sr 0)) o1.1 ++ (w_Bs g sr s1 ++ (w_Tr g a2 o1.2 ++ (rest)))) (va_runV (As := [.int y2, .int y1, .int y0]) (rest := []) ⟨hx, hb, hml, hown, ht⟩ (c_Rd_enter (l := l) (D := D) (A := A) (g := g) (rest := w_Bs g sr s1 ++ (rest)) (a0 := a0) (a1 := a2) (sr := sr) ho2) (cwV 3 ht (gd_V m_421 m_423 mp_14 m_8 m_424) rfl rfl rfl (by decide +kernel) ⟨(Nat.le_of_ble_eq_true rfl), (Nat.le_of_ble_eq_true rfl)⟩) (prV (ci := 5) (q0 := 0) hKK hI ((mv_2).trans (mv_1)) rfl rfl rfl) rfl rfl hl.1 rfl (lv_room (Nat.le_of_ble_eq_true rfl)) d_Rd_readItem_107 ⟨(Nat.le_of_ble_eq_true rfl), (Nat.le_of_ble_eq_true rfl)⟩) hS (fun _ => (((mv_2).trans (mv_1))).symm) (fun _ H locs hI hS => ?_)
  have hI : Iw D A (w_Rd g a0 (tw (a2 0) (sr 0)) o1.1 ++ (w_Bs g sr s1 ++ (w_Tr g a2 o1.2 ++ (rest)))) H := hI
  exact t_Rd_readItem_110 X (lv_sub hl [] rfl) hI hS h
set_option maxRecDepth 100000 in
set_option maxHeartbeats 4000000 in
theorem t_Rd_readItem_106 {p : Program} {l : Launch} {e : Env} {s : State} {m : MethodId} {args : Array Value} {below : List Frame} {meth : Method} {c : Code} {D : va_G} {A : Nat → Prop} {g : Nat → ClassId} {rest : va_W} {a0 : Nat → Nat} {sr : Nat → Nat} {a2 : Nat → Nat} {ls : Array Slot} {H : Heap} {locs : List Loc} {s1 : S_Bs} {s0 : S_Rd} {s2 : S_Tr} {y0 : Int32} {y1 : Int32} {out : S_Rd × S_Tr} (X : Cx p s m args meth c prog_7_method_10_code 2 ws_Rd_readItem R_Rd none D g) (hl : lv_has ls 2 []) (hI : Iw D A (w_Rd g a0 (tw (a2 0) (sr 0)) s0 ++ (w_Bs g sr s1 ++ (w_Tr g a2 s2 ++ (rest)))) H) (hS : va_S A s.heap H locs) (h : B_Rd_readItem_106  s1 s0 s2 y0 y1 = some out) : W p l e (headSpec ws_Rd_readItem { frames := 2, cells := 0, slots := 0, locals := 47 }).room s m args below meth c H locs 0 0 (MQ below (QcV D A g (fun (_ : Unit) => w_Rd g a0 (tw (a2 0) (sr 0)) out.1 ++ (w_Bs g sr s1 ++ (w_Tr g a2 out.2 ++ (rest))))) args s 0 0 A) (F0 m 106 ls [.int y0, .int y1, .ref (a0 0)]) := by
  have X1 := X
  obtain ⟨hx, hb, hml, hown, hts, hr, hlocks, hKK⟩ := X1
  have ht : ∀ w ∈ TB, w.before args s = true := fun w h => hts w (List.mem_cons_of_mem _ h)
  have hK := hKK.1
  unfold B_Rd_readItem_106 at h
  refine lv_iconst (v := 0) hx hb d_Rd_readItem_106 (by decide) ?_
  exact t_Rd_readItem_107 X (lv_sub hl [] rfl) hI hS h
set_option maxRecDepth 100000 in
set_option maxHeartbeats 4000000 in
theorem t_Rd_readItem_102 {p : Program} {l : Launch} {e : Env} {s : State} {m : MethodId} {args : Array Value} {below : List Frame} {meth : Method} {c : Code} {D : va_G} {A : Nat → Prop} {g : Nat → ClassId} {rest : va_W} {a0 : Nat → Nat} {sr : Nat → Nat} {a2 : Nat → Nat} {ls : Array Slot} {H : Heap} {locs : List Loc} {s1 : S_Bs} {s0 : S_Rd} {s2 : S_Tr} {y0 : Int32} {y1 : Int32} {out : S_Rd × S_Tr} (X : Cx p s m args meth c prog_7_method_10_code 2 ws_Rd_readItem R_Rd none D g) (hl : lv_has ls 2 []) (hI : Iw D A (w_Rd g a0 (tw (a2 0) (sr 0)) s0 ++ (w_Bs g sr s1 ++ (w_Tr g a2 s2 ++ (rest)))) H) (hS : va_S A s.heap H locs) (h : B_Rd_readItem_102  s1 s0 s2 y0 y1 = some out) : W p l e (headSpec ws_Rd_readItem { frames := 2, cells := 0, slots := 0, locals := 47 }).room s m args below meth c H locs 0 0 (MQ below (QcV D A g (fun (_ : Unit) => w_Rd g a0 (tw (a2 0) (sr 0)) out.1 ++ (w_Bs g sr s1 ++ (w_Tr g a2 out.2 ++ (rest))))) args s 0 0 A) (F0 m 102 ls [.int y0, .int y1, .ref (a0 0)]) := by
  have X1 := X
  obtain ⟨hx, hb, hml, hown, hts, hr, hlocks, hKK⟩ := X1
  have ht : ∀ w ∈ TB, w.before args s = true := fun w h => hts w (List.mem_cons_of_mem _ h)
  have hK := hKK.1
  unfold B_Rd_readItem_102 at h
  refine lv_iconst (v := 1) hx hb d_Rd_readItem_102 (by decide) ?_
  refine lv_goto (tgt := 107) hx hb d_Rd_readItem_103 (by decide) ?_
  exact t_Rd_readItem_107 X (lv_sub hl [] rfl) hI hS h
set_option maxRecDepth 100000 in
set_option maxHeartbeats 4000000 in
theorem t_Rd_readItem_86 {p : Program} {l : Launch} {e : Env} {s : State} {m : MethodId} {args : Array Value} {below : List Frame} {meth : Method} {c : Code} {D : va_G} {A : Nat → Prop} {g : Nat → ClassId} {rest : va_W} {a0 : Nat → Nat} {sr : Nat → Nat} {a2 : Nat → Nat} {ls : Array Slot} {H : Heap} {locs : List Loc} {s1 : S_Bs} {s0 : S_Rd} {s2 : S_Tr} {x1 : Int32} {out : S_Rd × S_Tr} (X : Cx p s m args meth c prog_7_method_10_code 2 ws_Rd_readItem R_Rd none D g) (hl : lv_has ls 2 [(0, .ref (a0 0)), (1, .int x1)]) (hI : Iw D A (w_Rd g a0 (tw (a2 0) (sr 0)) s0 ++ (w_Bs g sr s1 ++ (w_Tr g a2 s2 ++ (rest)))) H) (hS : va_S A s.heap H locs) (h : B_Rd_readItem_86  s1 s0 s2 x1 = some out) : W p l e (headSpec ws_Rd_readItem { frames := 2, cells := 0, slots := 0, locals := 47 }).room s m args below meth c H locs 0 0 (MQ below (QcV D A g (fun (_ : Unit) => w_Rd g a0 (tw (a2 0) (sr 0)) out.1 ++ (w_Bs g sr s1 ++ (w_Tr g a2 out.2 ++ (rest))))) args s 0 0 A) (F0 m 86 ls []) := by
  have X1 := X
  obtain ⟨hx, hb, hml, hown, hts, hr, hlocks, hKK⟩ := X1
  have ht : ∀ w ∈ TB, w.before args s = true := fun w h => hts w (List.mem_cons_of_mem _ h)
  have hK := hKK.1
  unfold B_Rd_readItem_86 at h
  refine lv_aload_n hx hb d_Rd_readItem_86 rfl (lv_at hl 0 rfl) ?_
  refine lv_sipush (v := 254) hx hb d_Rd_readItem_87 (by decide) ?_
  refine lv_aload_n hx hb d_Rd_readItem_90 rfl (lv_at hl 0 rfl) ?_
  refine lv_iload_n hx hb d_Rd_readItem_91 rfl (lv_at hl 1 rfl) ?_
  obtain ⟨o1, ho2, h⟩ := bd_s h
  refine cl_i (W1 := fun (_ : Unit) => w_Rd g a0 (tw (a2 0) (sr 0)) s0 ++ (w_Bs g sr s1 ++ (w_Tr g a2 s2 ++ (rest)))) (va_runV (As := [.int x1]) (rest := [.int (254 : Int32), .ref (a0 0)]) ⟨hx, hb, hml, hown, ht⟩ (c_Rd_endOf (l := l) (D := D) (A := A) (g := g) (rest := w_Bs g sr s1 ++ (w_Tr g a2 s2 ++ (rest))) (a0 := a0) (a1 := a2) (sr := sr) ho2) (cwV 1 ht (gd_V m_487 m_489 mp_24 m_8 m_490) rfl rfl rfl (by decide +kernel) ⟨(Nat.le_of_ble_eq_true rfl), (Nat.le_of_ble_eq_true rfl)⟩) (prV (ci := 5) (q0 := 0) hKK hI (List.Perm.refl _) rfl rfl rfl) rfl rfl hl.1 rfl (lv_room (Nat.le_of_ble_eq_true rfl)) d_Rd_readItem_92 ⟨(Nat.le_of_ble_eq_true rfl), (Nat.le_of_ble_eq_true rfl)⟩) hS (fun _ => ((List.Perm.refl _)).symm) (fun _ H locs hI hS => ?_)
  have hI : Iw D A (w_Rd g a0 (tw (a2 0) (sr 0)) s0 ++ (w_Bs g sr s1 ++ (w_Tr g a2 s2 ++ (rest)))) H := hI
  refine lv_iload_n hx hb d_Rd_readItem_95 rfl (lv_at hl 1 rfl) ?_
  refine lv_sipush (v := 255) hx hb d_Rd_readItem_96 (by decide) ?_
  refine lv_icmp_ne (tgt := 106) hx hb d_Rd_readItem_99 (by decide) (fun hc => ?_) (fun hc => ?_)
  · have h := it_f h hc
    exact t_Rd_readItem_106 X (lv_sub hl [] rfl) hI hS h
  · have h := it_t h hc
    exact t_Rd_readItem_102 X (lv_sub hl [] rfl) hI hS h
set_option maxRecDepth 100000 in
set_option maxHeartbeats 4000000 in
theorem t_Rd_readItem_52 {p : Program} {l : Launch} {e : Env} {s : State} {m : MethodId} {args : Array Value} {below : List Frame} {meth : Method} {c : Code} {D : va_G} {A : Nat → Prop} {g : Nat → ClassId} {rest : va_W} {a0 : Nat → Nat} {sr : Nat → Nat} {a2 : Nat → Nat} {ls : Array Slot} {H : Heap} {locs : List Loc} {s1 : S_Bs} {s0 : S_Rd} {s2 : S_Tr} {out : S_Rd × S_Tr} (X : Cx p s m args meth c prog_7_method_10_code 2 ws_Rd_readItem R_Rd none D g) (hl : lv_has ls 2 [(0, .ref (a0 0))]) (hI : Iw D A (w_Rd g a0 (tw (a2 0) (sr 0)) s0 ++ (w_Bs g sr s1 ++ (w_Tr g a2 s2 ++ (rest)))) H) (hS : va_S A s.heap H locs) (h : B_Rd_readItem_52  s1 s0 s2 = some out) : W p l e (headSpec ws_Rd_readItem { frames := 2, cells := 0, slots := 0, locals := 47 }).room s m args below meth c H locs 0 0 (MQ below (QcV D A g (fun (_ : Unit) => w_Rd g a0 (tw (a2 0) (sr 0)) out.1 ++ (w_Bs g sr s1 ++ (w_Tr g a2 out.2 ++ (rest))))) args s 0 0 A) (F0 m 52 ls []) := by
  have X1 := X
  obtain ⟨hx, hb, hml, hown, hts, hr, hlocks, hKK⟩ := X1
  have ht : ∀ w ∈ TB, w.before args s = true := fun w h => hts w (List.mem_cons_of_mem _ h)
  have hK := hKK.1
  unfold B_Rd_readItem_52 at h
  refine lv_aload_n hx hb d_Rd_readItem_52 rfl (lv_at hl 0 rfl) ?_
  refine va_get (D := D) (ci := 5) (v := .ref (a0 4)) (C := R_Rd) (T := T_Rd) (N := 11) hx hb ht in_Rd hown hK hI.1 0 rfl rfl 4 (by decide) (ht _ m_162) (fun _ h9 => h9) rfl d_Rd_readItem_53 ?_
  refine lv_aload_n hx hb d_Rd_readItem_56 rfl (lv_at hl 0 rfl) ?_
  refine va_get (D := D) (ci := 5) (v := .int (Rd_level s0)) (C := R_Rd) (T := T_Rd) (N := 11) hx hb ht in_Rd hown hK hI.1 0 rfl rfl 9 (by decide) (ht _ m_167) (fun _ h9 => h9) rfl d_Rd_readItem_57 ?_
  refine lv_dup2_11 hx hb d_Rd_readItem_60 rfl rfl ?_
  by_cases hc1 : ((Rd_level s0) < 0 ∨ 5 ≤ (Rd_level s0).toNatClampNeg)
  · exact no_s (it_t h hc1)
  have h := it_f h hc1
  refine va_iald hx hb hK hI.1 4 0 rfl rfl hc1 d_Rd_readItem_61 ?_
  refine lv_iconst (v := 1) hx hb d_Rd_readItem_62 (by decide) ?_
  refine lv_iadd hx hb d_Rd_readItem_63 ?_
  by_cases hc2 : ((Rd_level s0) < 0 ∨ 5 ≤ (Rd_level s0).toNatClampNeg)
  · exact no_s (it_t h hc2)
  have h := it_f h hc2
  refine va_iast hx hb hK hI.1 hI.2 hS 4 0 rfl rfl hc2 d_Rd_readItem_64 (fun H locs hP hD hS => ?_)
  have hI : Iw D A (w_Rd g a0 (tw (a2 0) (sr 0)) (Rd_set_counts s0 (upd (Rd_counts s0) (Rd_level s0).toNatClampNeg (((Rd_counts s0) (Rd_level s0).toNatClampNeg) + (1 : Int32)))) ++ (w_Bs g sr s1 ++ (w_Tr g a2 s2 ++ (rest)))) H := ⟨hP, hD⟩
  refine lv_aload_n hx hb d_Rd_readItem_65 rfl (lv_at hl 0 rfl) ?_
  refine lv_dup hx hb d_Rd_readItem_66 rfl ?_
  refine va_get (D := D) (ci := 5) (v := .int (Rd_position (Rd_set_counts s0 (upd (Rd_counts s0) (Rd_level s0).toNatClampNeg (((Rd_counts s0) (Rd_level s0).toNatClampNeg) + (1 : Int32)))))) (C := R_Rd) (T := T_Rd) (N := 11) hx hb ht in_Rd hown hK hI.1 0 rfl rfl 8 (by decide) (ht _ m_166) (fun _ h9 => h9) rfl d_Rd_readItem_67 ?_
  refine lv_iconst (v := 1) hx hb d_Rd_readItem_70 (by decide) ?_
  refine lv_iadd hx hb d_Rd_readItem_71 ?_
  refine va_put (D := D) (ci := 5) (v := .int ((Rd_position (Rd_set_counts s0 (upd (Rd_counts s0) (Rd_level s0).toNatClampNeg (((Rd_counts s0) (Rd_level s0).toNatClampNeg) + (1 : Int32))))) + (1 : Int32))) (ty := .int) (C := R_Rd) (T := T_Rd) (N := 11) hx hb ht in_Rd ty_Rd tyok_Rd nm_Rd hown hK hI.1 hI.2 hS 0 rfl rfl 8 (by decide) (ht _ m_166) (fun _ h9 => h9) rfl (by decide +kernel) rfl rfl (Nat.le_of_ble_eq_true rfl) d_Rd_readItem_72 (fun H locs hP hD hS => ?_)
  have hI : Iw D A (w_Rd g a0 (tw (a2 0) (sr 0)) (Rd_set_position (Rd_set_counts s0 (upd (Rd_counts s0) (Rd_level s0).toNatClampNeg (((Rd_counts s0) (Rd_level s0).toNatClampNeg) + (1 : Int32)))) ((Rd_position (Rd_set_counts s0 (upd (Rd_counts s0) (Rd_level s0).toNatClampNeg (((Rd_counts s0) (Rd_level s0).toNatClampNeg) + (1 : Int32))))) + (1 : Int32))) ++ (w_Bs g sr s1 ++ (w_Tr g a2 s2 ++ (rest)))) H := ⟨hP, hD⟩
  refine lv_aload_n hx hb d_Rd_readItem_75 rfl (lv_at hl 0 rfl) ?_
  refine lv_iconst (v := 4) hx hb d_Rd_readItem_76 (by decide) ?_
  obtain ⟨o3, ho4, h⟩ := bd_s h
  refine cl_i (W1 := fun (_ : Unit) => w_Rd g a0 (tw (a2 0) (sr 0)) o3.2 ++ (w_Bs g sr s1 ++ (w_Tr g a2 s2 ++ (rest)))) (va_runV (As := [.int (4 : Int32)]) (rest := []) ⟨hx, hb, hml, hown, ht⟩ (c_Rd_readLength (l := l) (D := D) (A := A) (g := g) (rest := w_Tr g a2 s2 ++ (rest)) (a0 := a0) (sr := sr) (a2 := a2) ho4) (cwV 1 ht (gd_V m_461 m_463 mp_21 m_8 m_464) rfl rfl rfl (by decide +kernel) ⟨(Nat.le_of_ble_eq_true rfl), (Nat.le_of_ble_eq_true rfl)⟩) (prV (ci := 5) (q0 := 0) hKK hI ((mv_1).trans (mv_1)) rfl rfl rfl) rfl rfl hl.1 rfl (lv_room (Nat.le_of_ble_eq_true rfl)) d_Rd_readItem_77 ⟨(Nat.le_of_ble_eq_true rfl), (Nat.le_of_ble_eq_true rfl)⟩) hS (fun _ => (((mv_1).trans (mv_1))).symm) (fun _ H locs hI hS => ?_)
  have hI : Iw D A (w_Rd g a0 (tw (a2 0) (sr 0)) o3.2 ++ (w_Bs g sr s1 ++ (w_Tr g a2 s2 ++ (rest)))) H := hI
  refine lv_istore_n hx hb d_Rd_readItem_80 rfl hl (Nat.le_of_ble_eq_true rfl) rfl (fun ls hl => ?_)
  have hl : lv_has ls 2 [(1, .int o3.1), (0, .ref (a0 0))] := hl
  refine lv_iload_n hx hb d_Rd_readItem_81 rfl (lv_at hl 0 rfl) ?_
  refine lv_iconst (v := (-1)) hx hb d_Rd_readItem_82 (by decide) ?_
  refine lv_icmp_eq (tgt := 110) hx hb d_Rd_readItem_83 (by decide) (fun hc => ?_) (fun hc => ?_)
  · have h := it_t h hc
    exact t_Rd_readItem_110 X (lv_sub hl [] rfl) hI hS h
  · have h := it_f h hc
    exact t_Rd_readItem_86 X (lv_sub hl [1, 0] rfl) hI hS h
set_option maxRecDepth 100000 in
set_option maxHeartbeats 4000000 in
theorem t_Rd_readItem_41 {p : Program} {l : Launch} {e : Env} {s : State} {m : MethodId} {args : Array Value} {below : List Frame} {meth : Method} {c : Code} {D : va_G} {A : Nat → Prop} {g : Nat → ClassId} {rest : va_W} {a0 : Nat → Nat} {sr : Nat → Nat} {a2 : Nat → Nat} {ls : Array Slot} {H : Heap} {locs : List Loc} {s1 : S_Bs} {s0 : S_Rd} {s2 : S_Tr} {out : S_Rd × S_Tr} (X : Cx p s m args meth c prog_7_method_10_code 2 ws_Rd_readItem R_Rd none D g) (hl : lv_has ls 2 [(0, .ref (a0 0))]) (hI : Iw D A (w_Rd g a0 (tw (a2 0) (sr 0)) s0 ++ (w_Bs g sr s1 ++ (w_Tr g a2 s2 ++ (rest)))) H) (hS : va_S A s.heap H locs) (h : B_Rd_readItem_41  s1 s0 s2 = some out) : W p l e (headSpec ws_Rd_readItem { frames := 2, cells := 0, slots := 0, locals := 47 }).room s m args below meth c H locs 0 0 (MQ below (QcV D A g (fun (_ : Unit) => w_Rd g a0 (tw (a2 0) (sr 0)) out.1 ++ (w_Bs g sr s1 ++ (w_Tr g a2 out.2 ++ (rest))))) args s 0 0 A) (F0 m 41 ls []) := by
  have X1 := X
  obtain ⟨hx, hb, hml, hown, hts, hr, hlocks, hKK⟩ := X1
  have ht : ∀ w ∈ TB, w.before args s = true := fun w h => hts w (List.mem_cons_of_mem _ h)
  have hK := hKK.1
  unfold B_Rd_readItem_41 at h
  refine lv_aload_n hx hb d_Rd_readItem_41 rfl (lv_at hl 0 rfl) ?_
  refine lv_bipush (v := 7) hx hb d_Rd_readItem_42 (by decide) ?_
  refine lv_aload_n hx hb d_Rd_readItem_44 rfl (lv_at hl 0 rfl) ?_
  refine va_get (D := D) (ci := 5) (v := .int (Rd_position s0)) (C := R_Rd) (T := T_Rd) (N := 11) hx hb ht in_Rd hown hK hI.1 0 rfl rfl 8 (by decide) (ht _ m_166) (fun _ h9 => h9) rfl d_Rd_readItem_45 ?_
  obtain ⟨o1, ho2, h⟩ := bd_s h
  refine cl_v (W1 := fun (_ : Unit) => w_Rd g a0 (tw (a2 0) (sr 0)) o1 ++ (w_Bs g sr s1 ++ (w_Tr g a2 s2 ++ (rest)))) (va_runV (As := [.int (7 : Int32), .int (Rd_position s0)]) (rest := []) ⟨hx, hb, hml, hown, ht⟩ (c_Rd_fail (l := l) (D := D) (A := A) (g := g) (rest := w_Bs g sr s1 ++ (w_Tr g a2 s2 ++ (rest))) (a0 := a0) (a1 := a2) (sr := sr) ho2) (cwV 2 ht (gd_V m_433 m_435 mp_16 m_8 m_436) rfl rfl rfl (by decide +kernel) ⟨(Nat.le_of_ble_eq_true rfl), (Nat.le_of_ble_eq_true rfl)⟩) (prV (ci := 5) (q0 := 0) hKK hI (List.Perm.refl _) rfl rfl rfl) rfl rfl hl.1 rfl (lv_room (Nat.le_of_ble_eq_true rfl)) d_Rd_readItem_48 ⟨(Nat.le_of_ble_eq_true rfl), (Nat.le_of_ble_eq_true rfl)⟩) hS (fun _ => ((List.Perm.refl _)).symm) (fun _ H locs hI hS => ?_)
  have hI : Iw D A (w_Rd g a0 (tw (a2 0) (sr 0)) o1 ++ (w_Bs g sr s1 ++ (w_Tr g a2 s2 ++ (rest)))) H := hI
  have h9 := Option.some.inj h
  subst h9
  exact W.vret hx hb hr (fun t ht hW => ⟨⟨(), rfl, trivial, ⟨by rw [ht]; exact hI, hKK.moved hW⟩⟩, hS.F ht⟩) hS.2.2 d_Rd_readItem_51
set_option maxRecDepth 100000 in
set_option maxHeartbeats 4000000 in
theorem t_Rd_readItem_28 {p : Program} {l : Launch} {e : Env} {s : State} {m : MethodId} {args : Array Value} {below : List Frame} {meth : Method} {c : Code} {D : va_G} {A : Nat → Prop} {g : Nat → ClassId} {rest : va_W} {a0 : Nat → Nat} {sr : Nat → Nat} {a2 : Nat → Nat} {ls : Array Slot} {H : Heap} {locs : List Loc} {s1 : S_Bs} {s0 : S_Rd} {s2 : S_Tr} {out : S_Rd × S_Tr} (X : Cx p s m args meth c prog_7_method_10_code 2 ws_Rd_readItem R_Rd none D g) (hl : lv_has ls 2 [(0, .ref (a0 0))]) (hI : Iw D A (w_Rd g a0 (tw (a2 0) (sr 0)) s0 ++ (w_Bs g sr s1 ++ (w_Tr g a2 s2 ++ (rest)))) H) (hS : va_S A s.heap H locs) (h : B_Rd_readItem_28  s1 s0 s2 = some out) : W p l e (headSpec ws_Rd_readItem { frames := 2, cells := 0, slots := 0, locals := 47 }).room s m args below meth c H locs 0 0 (MQ below (QcV D A g (fun (_ : Unit) => w_Rd g a0 (tw (a2 0) (sr 0)) out.1 ++ (w_Bs g sr s1 ++ (w_Tr g a2 out.2 ++ (rest))))) args s 0 0 A) (F0 m 28 ls []) := by
  have X1 := X
  obtain ⟨hx, hb, hml, hown, hts, hr, hlocks, hKK⟩ := X1
  have ht : ∀ w ∈ TB, w.before args s = true := fun w h => hts w (List.mem_cons_of_mem _ h)
  have hK := hKK.1
  unfold B_Rd_readItem_28 at h
  refine lv_aload_n hx hb d_Rd_readItem_28 rfl (lv_at hl 0 rfl) ?_
  refine va_get (D := D) (ci := 5) (v := .ref (a0 4)) (C := R_Rd) (T := T_Rd) (N := 11) hx hb ht in_Rd hown hK hI.1 0 rfl rfl 4 (by decide) (ht _ m_162) (fun _ h9 => h9) rfl d_Rd_readItem_29 ?_
  refine lv_aload_n hx hb d_Rd_readItem_32 rfl (lv_at hl 0 rfl) ?_
  refine va_get (D := D) (ci := 5) (v := .int (Rd_level s0)) (C := R_Rd) (T := T_Rd) (N := 11) hx hb ht in_Rd hown hK hI.1 0 rfl rfl 9 (by decide) (ht _ m_167) (fun _ h9 => h9) rfl d_Rd_readItem_33 ?_
  by_cases hc1 : ((Rd_level s0) < 0 ∨ 5 ≤ (Rd_level s0).toNatClampNeg)
  · exact no_s (it_t h hc1)
  have h := it_f h hc1
  refine va_iald hx hb hK hI.1 4 0 rfl rfl hc1 d_Rd_readItem_36 ?_
  refine lv_iconst (v := 4) hx hb d_Rd_readItem_37 (by decide) ?_
  refine lv_icmp_ne (tgt := 52) hx hb d_Rd_readItem_38 (by decide) (fun hc => ?_) (fun hc => ?_)
  · have h := it_f h hc
    exact t_Rd_readItem_52 X (lv_sub hl [0] rfl) hI hS h
  · have h := it_t h hc
    exact t_Rd_readItem_41 X (lv_sub hl [0] rfl) hI hS h
set_option maxRecDepth 100000 in
set_option maxHeartbeats 4000000 in
theorem t_Rd_readItem_17 {p : Program} {l : Launch} {e : Env} {s : State} {m : MethodId} {args : Array Value} {below : List Frame} {meth : Method} {c : Code} {D : va_G} {A : Nat → Prop} {g : Nat → ClassId} {rest : va_W} {a0 : Nat → Nat} {sr : Nat → Nat} {a2 : Nat → Nat} {ls : Array Slot} {H : Heap} {locs : List Loc} {s1 : S_Bs} {s0 : S_Rd} {s2 : S_Tr} {out : S_Rd × S_Tr} (X : Cx p s m args meth c prog_7_method_10_code 2 ws_Rd_readItem R_Rd none D g) (hl : lv_has ls 2 [(0, .ref (a0 0))]) (hI : Iw D A (w_Rd g a0 (tw (a2 0) (sr 0)) s0 ++ (w_Bs g sr s1 ++ (w_Tr g a2 s2 ++ (rest)))) H) (hS : va_S A s.heap H locs) (h : B_Rd_readItem_17  s1 s0 s2 = some out) : W p l e (headSpec ws_Rd_readItem { frames := 2, cells := 0, slots := 0, locals := 47 }).room s m args below meth c H locs 0 0 (MQ below (QcV D A g (fun (_ : Unit) => w_Rd g a0 (tw (a2 0) (sr 0)) out.1 ++ (w_Bs g sr s1 ++ (w_Tr g a2 out.2 ++ (rest))))) args s 0 0 A) (F0 m 17 ls []) := by
  have X1 := X
  obtain ⟨hx, hb, hml, hown, hts, hr, hlocks, hKK⟩ := X1
  have ht : ∀ w ∈ TB, w.before args s = true := fun w h => hts w (List.mem_cons_of_mem _ h)
  have hK := hKK.1
  unfold B_Rd_readItem_17 at h
  refine lv_aload_n hx hb d_Rd_readItem_17 rfl (lv_at hl 0 rfl) ?_
  refine lv_bipush (v := 6) hx hb d_Rd_readItem_18 (by decide) ?_
  refine lv_aload_n hx hb d_Rd_readItem_20 rfl (lv_at hl 0 rfl) ?_
  refine va_get (D := D) (ci := 5) (v := .int (Rd_position s0)) (C := R_Rd) (T := T_Rd) (N := 11) hx hb ht in_Rd hown hK hI.1 0 rfl rfl 8 (by decide) (ht _ m_166) (fun _ h9 => h9) rfl d_Rd_readItem_21 ?_
  obtain ⟨o1, ho2, h⟩ := bd_s h
  refine cl_v (W1 := fun (_ : Unit) => w_Rd g a0 (tw (a2 0) (sr 0)) o1 ++ (w_Bs g sr s1 ++ (w_Tr g a2 s2 ++ (rest)))) (va_runV (As := [.int (6 : Int32), .int (Rd_position s0)]) (rest := []) ⟨hx, hb, hml, hown, ht⟩ (c_Rd_fail (l := l) (D := D) (A := A) (g := g) (rest := w_Bs g sr s1 ++ (w_Tr g a2 s2 ++ (rest))) (a0 := a0) (a1 := a2) (sr := sr) ho2) (cwV 2 ht (gd_V m_433 m_435 mp_16 m_8 m_436) rfl rfl rfl (by decide +kernel) ⟨(Nat.le_of_ble_eq_true rfl), (Nat.le_of_ble_eq_true rfl)⟩) (prV (ci := 5) (q0 := 0) hKK hI (List.Perm.refl _) rfl rfl rfl) rfl rfl hl.1 rfl (lv_room (Nat.le_of_ble_eq_true rfl)) d_Rd_readItem_24 ⟨(Nat.le_of_ble_eq_true rfl), (Nat.le_of_ble_eq_true rfl)⟩) hS (fun _ => ((List.Perm.refl _)).symm) (fun _ H locs hI hS => ?_)
  have hI : Iw D A (w_Rd g a0 (tw (a2 0) (sr 0)) o1 ++ (w_Bs g sr s1 ++ (w_Tr g a2 s2 ++ (rest)))) H := hI
  have h9 := Option.some.inj h
  subst h9
  exact W.vret hx hb hr (fun t ht hW => ⟨⟨(), rfl, trivial, ⟨by rw [ht]; exact hI, hKK.moved hW⟩⟩, hS.F ht⟩) hS.2.2 d_Rd_readItem_27
set_option maxRecDepth 100000 in
set_option maxHeartbeats 4000000 in
theorem t_Rd_readItem_0 {p : Program} {l : Launch} {e : Env} {s : State} {m : MethodId} {args : Array Value} {below : List Frame} {meth : Method} {c : Code} {D : va_G} {A : Nat → Prop} {g : Nat → ClassId} {rest : va_W} {a0 : Nat → Nat} {sr : Nat → Nat} {a2 : Nat → Nat} {ls : Array Slot} {H : Heap} {locs : List Loc} {s1 : S_Bs} {s0 : S_Rd} {s2 : S_Tr} {out : S_Rd × S_Tr} (X : Cx p s m args meth c prog_7_method_10_code 2 ws_Rd_readItem R_Rd none D g) (hl : lv_has ls 2 [(0, .ref (a0 0))]) (hI : Iw D A (w_Rd g a0 (tw (a2 0) (sr 0)) s0 ++ (w_Bs g sr s1 ++ (w_Tr g a2 s2 ++ (rest)))) H) (hS : va_S A s.heap H locs) (h : B_Rd_readItem_0  s1 s0 s2 = some out) : W p l e (headSpec ws_Rd_readItem { frames := 2, cells := 0, slots := 0, locals := 47 }).room s m args below meth c H locs 0 0 (MQ below (QcV D A g (fun (_ : Unit) => w_Rd g a0 (tw (a2 0) (sr 0)) out.1 ++ (w_Bs g sr s1 ++ (w_Tr g a2 out.2 ++ (rest))))) args s 0 0 A) (F0 m 0 ls []) := by
  have X1 := X
  obtain ⟨hx, hb, hml, hown, hts, hr, hlocks, hKK⟩ := X1
  have ht : ∀ w ∈ TB, w.before args s = true := fun w h => hts w (List.mem_cons_of_mem _ h)
  have hK := hKK.1
  unfold B_Rd_readItem_0 at h
  refine lv_aload_n hx hb d_Rd_readItem_0 rfl (lv_at hl 0 rfl) ?_
  refine va_get (D := D) (ci := 5) (v := .ref (sr 0)) (C := R_Rd) (T := T_Rd) (N := 11) hx hb ht in_Rd hown hK hI.1 0 rfl rfl 6 (by decide) (ht _ m_164) (fun _ h9 => h9) rfl d_Rd_readItem_1 ?_
  refine lv_aload_n hx hb d_Rd_readItem_4 rfl (lv_at hl 0 rfl) ?_
  refine va_get (D := D) (ci := 5) (v := .int (Rd_position s0)) (C := R_Rd) (T := T_Rd) (N := 11) hx hb ht in_Rd hown hK hI.1 0 rfl rfl 8 (by decide) (ht _ m_166) (fun _ h9 => h9) rfl d_Rd_readItem_5 ?_
  obtain ⟨o1, ho2, h⟩ := bd_s h
  refine cl_i (W1 := fun (_ : Unit) => w_Rd g a0 (tw (a2 0) (sr 0)) s0 ++ (w_Bs g sr s1 ++ (w_Tr g a2 s2 ++ (rest)))) (va_runV (As := [.int (Rd_position s0)]) (rest := []) ⟨hx, hb, hml, hown, ht⟩ (c_Bs_get (l := l) (D := D) (A := A) (g := g) (rest := w_Rd g a0 (tw (a2 0) (sr 0)) s0 ++ (w_Tr g a2 s2 ++ (rest))) (a0 := sr) ho2) (cwV 1 ht (gd_V m_445 m_307 m_308 m_2 m_309) rfl rfl rfl (by decide +kernel) ⟨(Nat.le_of_ble_eq_true rfl), (Nat.le_of_ble_eq_true rfl)⟩) (prV (ci := 0) (q0 := 0) hKK hI (mv_1) rfl rfl rfl) rfl rfl hl.1 rfl (lv_room (Nat.le_of_ble_eq_true rfl)) d_Rd_readItem_8 ⟨(Nat.le_of_ble_eq_true rfl), (Nat.le_of_ble_eq_true rfl)⟩) hS (fun _ => ((mv_1)).symm) (fun _ H locs hI hS => ?_)
  have hI : Iw D A (w_Rd g a0 (tw (a2 0) (sr 0)) s0 ++ (w_Bs g sr s1 ++ (w_Tr g a2 s2 ++ (rest)))) H := hI
  refine lv_sipush (v := 254) hx hb d_Rd_readItem_11 (by decide) ?_
  refine lv_icmp_eq (tgt := 28) hx hb d_Rd_readItem_14 (by decide) (fun hc => ?_) (fun hc => ?_)
  · have h := it_t h hc
    exact t_Rd_readItem_28 X (lv_sub hl [0] rfl) hI hS h
  · have h := it_f h hc
    exact t_Rd_readItem_17 X (lv_sub hl [0] rfl) hI hS h
set_option maxRecDepth 100000 in
set_option maxHeartbeats 4000000 in
theorem c_Rd_readItem {l : Launch} {D : va_G} {A : Nat → Prop} {g : Nat → ClassId} {rest : va_W} {a0 : Nat → Nat} {sr : Nat → Nat} {a2 : Nat → Nat} {s0 : S_Rd} {s1 : S_Bs} {s2 : S_Tr} {out : S_Rd × S_Tr} (h : F_Rd_readItem s0 s1 s2 = some out) : Met l y_Rd_readItem ws_Rd_readItem { frames := 2, cells := 0, slots := 0, locals := 47 } (PcW D A g [.ref (a0 0)] (w_Rd g a0 (tw (a2 0) (sr 0)) s0 ++ (w_Bs g sr s1 ++ (w_Tr g a2 s2 ++ (rest))))) (QcV D A g (fun (_ : Unit) => w_Rd g a0 (tw (a2 0) (sr 0)) out.1 ++ (w_Bs g sr s1 ++ (w_Tr g a2 out.2 ++ (rest))))) 0 0 A := by
  refine Met.ofW (cc := prog_7_method_10_code) (maxL := 2) (ret := none) (by decide) rfl ?_
  intro p e s m args below meth c s₁ B hml hv
  obtain ⟨rfl, hI, hK⟩ := hv
  have hl := lv_entry [.ref (a0 0)] (n := 2) (Nat.le_of_ble_eq_true rfl)
  rw [lg_entry_eq]
  generalize (lg_sl [.ref (a0 0)] ++ List.replicate (2 - (lg_sl [.ref (a0 0)]).length) Slot.unset).toArray = ls at hl ⊢
  have hl : lv_has ls 2 [(0, .ref (a0 0))] := hl
  exact t_Rd_readItem_0 ⟨B.exec, B.bytes, hml, findClass_of_methodNamed B.named, atoms_spec (ws := ws_Rd_readItem) B.pre, B.returns, B.notSynchronized, hK⟩ (lv_sub hl [0] rfl) hI va_S.rf h
def ws_Rd_read : List Cond := .code y_Rd_read prog_7_method_3_code 5 (some .int) :: TB
def B_Rd_read_160 (s2 : S_Bs) (s0 : S_Rd) (s1 : S_Tr) : Option (Int32 × S_Rd × S_Tr) :=
  some ((Rd_result s0), s0, s1)
def B_Rd_read_154 (k56 : S_Rd × S_Tr × Int32 × Int32 → Option (Int32 × S_Rd × S_Tr)) (s2 : S_Bs) (s0 : S_Rd) (s1 : S_Tr) (x3 : Int32) (x4 : Int32) : Option (Int32 × S_Rd × S_Tr) :=
  (k56 (s0, s1, x3, (x4 + 1)))
def B_Rd_read_150 (k56 : S_Rd × S_Tr × Int32 × Int32 → Option (Int32 × S_Rd × S_Tr)) (s2 : S_Bs) (s0 : S_Rd) (s1 : S_Tr) (x3 : Int32) (x4 : Int32) : Option (Int32 × S_Rd × S_Tr) :=
  ((F_Rd_readItem s0 s2 s1).bind fun o1 => (B_Rd_read_154 k56 s2 o1.1 o1.2 x3 x4))
def B_Rd_read_143 (k56 : S_Rd × S_Tr × Int32 × Int32 → Option (Int32 × S_Rd × S_Tr)) (s2 : S_Bs) (s0 : S_Rd) (s1 : S_Tr) (x3 : Int32) (x4 : Int32) : Option (Int32 × S_Rd × S_Tr) :=
  ((F_Rd_readElement s0 s2 s1).bind fun o1 => (B_Rd_read_154 k56 s2 o1.1 o1.2 x3 x4))
def B_Rd_read_134 (k56 : S_Rd × S_Tr × Int32 × Int32 → Option (Int32 × S_Rd × S_Tr)) (s2 : S_Bs) (s0 : S_Rd) (s1 : S_Tr) (x3 : Int32) (x4 : Int32) : Option (Int32 × S_Rd × S_Tr) :=
  (if ((Rd_level s0) - (Rd_level s0) / (2 : Int32) * (2 : Int32)) = 0 then (B_Rd_read_143 k56 s2 s0 s1 x3 x4) else (B_Rd_read_150 k56 s2 s0 s1 x3 x4))
def B_Rd_read_117 (k56 : S_Rd × S_Tr × Int32 × Int32 → Option (Int32 × S_Rd × S_Tr)) (s2 : S_Bs) (s0 : S_Rd) (s1 : S_Tr) (x3 : Int32) (x4 : Int32) : Option (Int32 × S_Rd × S_Tr) :=
  ((F_Rd_leave (Rd_set_position s0 ((Rd_position s0) + (1 : Int32))) s1).bind fun o1 => (B_Rd_read_154 k56 s2 o1.1 o1.2 x3 x4))
def B_Rd_read_99 (k56 : S_Rd × S_Tr × Int32 × Int32 → Option (Int32 × S_Rd × S_Tr)) (s2 : S_Bs) (s0 : S_Rd) (s1 : S_Tr) (x3 : Int32) (x4 : Int32) : Option (Int32 × S_Rd × S_Tr) :=
  ((F_Bs_get s2 (Rd_position s0)).bind fun o1 => ((F_Rd_isEndMark s0 o1).bind fun o3 => (if o3 = 0 then (B_Rd_read_134 k56 s2 s0 s1 x3 x4) else (B_Rd_read_117 k56 s2 s0 s1 x3 x4))))
def B_Rd_read_92 (k56 : S_Rd × S_Tr × Int32 × Int32 → Option (Int32 × S_Rd × S_Tr)) (s2 : S_Bs) (s0 : S_Rd) (s1 : S_Tr) (x3 : Int32) (x4 : Int32) : Option (Int32 × S_Rd × S_Tr) :=
  ((F_Rd_endLevel s0 s1).bind fun o1 => (B_Rd_read_154 k56 s2 o1.1 o1.2 x3 x4))
def B_Rd_read_76 (k56 : S_Rd × S_Tr × Int32 × Int32 → Option (Int32 × S_Rd × S_Tr)) (s2 : S_Bs) (s0 : S_Rd) (s1 : S_Tr) (x3 : Int32) (x4 : Int32) : Option (Int32 × S_Rd × S_Tr) :=
  (if ((Rd_level s0) < 0 ∨ 5 ≤ (Rd_level s0).toNatClampNeg) then none else (if (Rd_position s0) < ((Rd_ends s0) (Rd_level s0).toNatClampNeg) then (B_Rd_read_99 k56 s2 s0 s1 x3 x4) else (B_Rd_read_92 k56 s2 s0 s1 x3 x4)))
def B_Rd_read_69 (k56 : S_Rd × S_Tr × Int32 × Int32 → Option (Int32 × S_Rd × S_Tr)) (s2 : S_Bs) (s0 : S_Rd) (s1 : S_Tr) (x3 : Int32) (x4 : Int32) : Option (Int32 × S_Rd × S_Tr) :=
  (if (Rd_result s0) = 0 then (B_Rd_read_76 k56 s2 s0 s1 x3 x4) else (B_Rd_read_160 s2 s0 s1))
def B_Rd_read_62 (k56 : S_Rd × S_Tr × Int32 × Int32 → Option (Int32 × S_Rd × S_Tr)) (s2 : S_Bs) (s0 : S_Rd) (s1 : S_Tr) (x3 : Int32) (x4 : Int32) : Option (Int32 × S_Rd × S_Tr) :=
  (if (Rd_level s0) < 0 then (B_Rd_read_160 s2 s0 s1) else (B_Rd_read_69 k56 s2 s0 s1 x3 x4))
def B_Rd_read_56 (k56 : S_Rd × S_Tr × Int32 × Int32 → Option (Int32 × S_Rd × S_Tr)) (s2 : S_Bs) (s0 : S_Rd) (s1 : S_Tr) (x3 : Int32) (x4 : Int32) : Option (Int32 × S_Rd × S_Tr) :=
  (if x3 ≤ x4 then (B_Rd_read_160 s2 s0 s1) else (B_Rd_read_62 k56 s2 s0 s1 x3 x4))
def L_Rd_read_56 (s2 : S_Bs) (v : S_Rd × S_Tr × Int32 × Int32) : Option (Int32 × S_Rd × S_Tr) := lp (fun k56 v => B_Rd_read_56  k56 s2 v.1 v.2.1 v.2.2.1 v.2.2.2) FU v
def B_Rd_read_0 (s2 : S_Bs) (s0 : S_Rd) (s1 : S_Tr) (x2 : Int32) : Option (Int32 × S_Rd × S_Tr) :=
  ((F_Tr_reset s1).bind fun o1 => ((F_Bs_count s2).bind fun o3 => ((F_Rd_enter (Rd_set_level (Rd_set_result (Rd_set_position (Rd_set_syntax s0 x2) (0 : Int32)) (0 : Int32)) ((-1) : Int32)) o1 (254 : Int32) o3 (0 : Int32)).bind fun o5 => ((F_Bs_count s2).bind fun o7 => (L_Rd_read_56 s2 (o5.1, o5.2, (((2 : Int32) * o7) + (2 : Int32)), (0 : Int32)))))))
def F_Rd_read (s0 : S_Rd) (s1 : S_Tr) (s2 : S_Bs) (x2 : Int32) : Option (Int32 × S_Rd × S_Tr) := B_Rd_read_0 s2 s0 s1 x2
set_option maxRecDepth 100000 in
set_option maxHeartbeats 4000000 in
theorem t_Rd_read_160 {p : Program} {l : Launch} {e : Env} {s : State} {m : MethodId} {args : Array Value} {below : List Frame} {meth : Method} {c : Code} {D : va_G} {A : Nat → Prop} {g : Nat → ClassId} {rest : va_W} {a0 : Nat → Nat} {a1 : Nat → Nat} {a2 : Nat → Nat} {u0 : Nat} {ls : Array Slot} {H : Heap} {locs : List Loc} {s2 : S_Bs} {s0 : S_Rd} {s1 : S_Tr} {out : Int32 × S_Rd × S_Tr} (X : Cx p s m args meth c prog_7_method_3_code 5 ws_Rd_read R_Rd (some .int) D g) (hl : lv_has ls 5 [(0, .ref (a0 0))]) (hI : Iw D A (w_Rd g a0 (tw (a1 0) (a2 0)) s0 ++ (w_Tr g a1 s1 ++ (w_Bs g a2 s2 ++ (rest)))) H) (hS : va_S A s.heap H locs) (h : B_Rd_read_160  s2 s0 s1 = some out) : W p l e (headSpec ws_Rd_read { frames := 3, cells := 0, slots := 0, locals := 72 }).room s m args below meth c H locs 0 0 (MQ below (QcI D A g out.1 (fun (_ : Unit) => w_Rd g a0 (tw (a1 0) (a2 0)) out.2.1 ++ (w_Tr g a1 out.2.2 ++ (w_Bs g a2 s2 ++ (rest))))) args s 0 0 A) (F0 m 160 ls []) := by
  have X1 := X
  obtain ⟨hx, hb, hml, hown, hts, hr, hlocks, hKK⟩ := X1
  have ht : ∀ w ∈ TB, w.before args s = true := fun w h => hts w (List.mem_cons_of_mem _ h)
  have hK := hKK.1
  unfold B_Rd_read_160 at h
  refine lv_aload_n hx hb d_Rd_read_160 rfl (lv_at hl 0 rfl) ?_
  refine va_get (D := D) (ci := 5) (v := .int (Rd_result s0)) (C := R_Rd) (T := T_Rd) (N := 11) hx hb ht in_Rd hown hK hI.1 0 rfl rfl 10 (by decide) (ht _ m_168) (fun _ h9 => h9) rfl d_Rd_read_161 ?_
  have h9 := Option.some.inj h
  subst h9
  exact W.iret (v := (Rd_result s0)) hx hb hr (fun t ht hW => ⟨⟨_, (), rfl, rfl, ⟨by rw [ht]; exact hI, hKK.moved hW⟩⟩, hS.F ht⟩) hS.2.2 d_Rd_read_164
set_option maxRecDepth 100000 in
set_option maxHeartbeats 4000000 in
theorem t_Rd_read_154 {p : Program} {l : Launch} {e : Env} {s : State} {m : MethodId} {args : Array Value} {below : List Frame} {meth : Method} {c : Code} {D : va_G} {A : Nat → Prop} {g : Nat → ClassId} {rest : va_W} {a0 : Nat → Nat} {a1 : Nat → Nat} {a2 : Nat → Nat} {u0 : Nat} {ls : Array Slot} {H : Heap} {locs : List Loc} {k56 : S_Rd × S_Tr × Int32 × Int32 → Option (Int32 × S_Rd × S_Tr)} {s2 : S_Bs} {s0 : S_Rd} {s1 : S_Tr} {x3 : Int32} {x4 : Int32} {out : Int32 × S_Rd × S_Tr} (X : Cx p s m args meth c prog_7_method_3_code 5 ws_Rd_read R_Rd (some .int) D g) (hk56 : ∀ (v : S_Rd × S_Tr × Int32 × Int32) (ls : Array Slot) (H : Heap) (locs : List Loc), lv_has ls 5 [(0, .ref (a0 0)), (3, .int v.2.2.1), (4, .int v.2.2.2)] → Iw D A (w_Rd g a0 (tw (a1 0) (a2 0)) v.1 ++ (w_Tr g a1 v.2.1 ++ (w_Bs g a2 s2 ++ (rest)))) H → va_S A s.heap H locs → k56 v = some out → W p l e (headSpec ws_Rd_read { frames := 3, cells := 0, slots := 0, locals := 72 }).room s m args below meth c H locs 0 0 (MQ below (QcI D A g out.1 (fun (_ : Unit) => w_Rd g a0 (tw (a1 0) (a2 0)) out.2.1 ++ (w_Tr g a1 out.2.2 ++ (w_Bs g a2 s2 ++ (rest))))) args s 0 0 A) (F0 m 56 ls [])) (hl : lv_has ls 5 [(0, .ref (a0 0)), (3, .int x3), (4, .int x4)]) (hI : Iw D A (w_Rd g a0 (tw (a1 0) (a2 0)) s0 ++ (w_Tr g a1 s1 ++ (w_Bs g a2 s2 ++ (rest)))) H) (hS : va_S A s.heap H locs) (h : B_Rd_read_154 k56 s2 s0 s1 x3 x4 = some out) : W p l e (headSpec ws_Rd_read { frames := 3, cells := 0, slots := 0, locals := 72 }).room s m args below meth c H locs 0 0 (MQ below (QcI D A g out.1 (fun (_ : Unit) => w_Rd g a0 (tw (a1 0) (a2 0)) out.2.1 ++ (w_Tr g a1 out.2.2 ++ (w_Bs g a2 s2 ++ (rest))))) args s 0 0 A) (F0 m 154 ls []) := by
  have X1 := X
  obtain ⟨hx, hb, hml, hown, hts, hr, hlocks, hKK⟩ := X1
  have ht : ∀ w ∈ TB, w.before args s = true := fun w h => hts w (List.mem_cons_of_mem _ h)
  have hK := hKK.1
  unfold B_Rd_read_154 at h
  refine lv_iinc (k := 2) (v := (x4 + 1)) hx hb d_Rd_read_154 hl rfl (congrArg (fun z => x4 + z) (by decide)) (Nat.le_of_ble_eq_true rfl) rfl (fun ls hl => ?_)
  have hl : lv_has ls 5 [(4, .int (x4 + 1)), (0, .ref (a0 0)), (3, .int x3)] := hl
  refine lv_goto (tgt := 56) hx hb d_Rd_read_157 (by decide) ?_
  exact hk56 (s0, s1, x3, (x4 + 1)) _ _ _ (lv_sub hl [1, 2, 0] rfl) hI hS h
set_option maxRecDepth 100000 in
set_option maxHeartbeats 4000000 in
theorem t_Rd_read_150 {p : Program} {l : Launch} {e : Env} {s : State} {m : MethodId} {args : Array Value} {below : List Frame} {meth : Method} {c : Code} {D : va_G} {A : Nat → Prop} {g : Nat → ClassId} {rest : va_W} {a0 : Nat → Nat} {a1 : Nat → Nat} {a2 : Nat → Nat} {u0 : Nat} {ls : Array Slot} {H : Heap} {locs : List Loc} {k56 : S_Rd × S_Tr × Int32 × Int32 → Option (Int32 × S_Rd × S_Tr)} {s2 : S_Bs} {s0 : S_Rd} {s1 : S_Tr} {x3 : Int32} {x4 : Int32} {out : Int32 × S_Rd × S_Tr} (X : Cx p s m args meth c prog_7_method_3_code 5 ws_Rd_read R_Rd (some .int) D g) (hk56 : ∀ (v : S_Rd × S_Tr × Int32 × Int32) (ls : Array Slot) (H : Heap) (locs : List Loc), lv_has ls 5 [(0, .ref (a0 0)), (3, .int v.2.2.1), (4, .int v.2.2.2)] → Iw D A (w_Rd g a0 (tw (a1 0) (a2 0)) v.1 ++ (w_Tr g a1 v.2.1 ++ (w_Bs g a2 s2 ++ (rest)))) H → va_S A s.heap H locs → k56 v = some out → W p l e (headSpec ws_Rd_read { frames := 3, cells := 0, slots := 0, locals := 72 }).room s m args below meth c H locs 0 0 (MQ below (QcI D A g out.1 (fun (_ : Unit) => w_Rd g a0 (tw (a1 0) (a2 0)) out.2.1 ++ (w_Tr g a1 out.2.2 ++ (w_Bs g a2 s2 ++ (rest))))) args s 0 0 A) (F0 m 56 ls [])) (hl : lv_has ls 5 [(0, .ref (a0 0)), (3, .int x3), (4, .int x4)]) (hI : Iw D A (w_Rd g a0 (tw (a1 0) (a2 0)) s0 ++ (w_Tr g a1 s1 ++ (w_Bs g a2 s2 ++ (rest)))) H) (hS : va_S A s.heap H locs) (h : B_Rd_read_150 k56 s2 s0 s1 x3 x4 = some out) : W p l e (headSpec ws_Rd_read { frames := 3, cells := 0, slots := 0, locals := 72 }).room s m args below meth c H locs 0 0 (MQ below (QcI D A g out.1 (fun (_ : Unit) => w_Rd g a0 (tw (a1 0) (a2 0)) out.2.1 ++ (w_Tr g a1 out.2.2 ++ (w_Bs g a2 s2 ++ (rest))))) args s 0 0 A) (F0 m 150 ls []) := by
  have X1 := X
  obtain ⟨hx, hb, hml, hown, hts, hr, hlocks, hKK⟩ := X1
  have ht : ∀ w ∈ TB, w.before args s = true := fun w h => hts w (List.mem_cons_of_mem _ h)
  have hK := hKK.1
  unfold B_Rd_read_150 at h
  refine lv_aload_n hx hb d_Rd_read_150 rfl (lv_at hl 0 rfl) ?_
  obtain ⟨o1, ho2, h⟩ := bd_s h
  refine cl_v (W1 := fun (_ : Unit) => w_Rd g a0 (tw (a1 0) (a2 0)) o1.1 ++ (w_Tr g a1 o1.2 ++ (w_Bs g a2 s2 ++ (rest)))) (va_runV (As := []) (rest := []) ⟨hx, hb, hml, hown, ht⟩ (c_Rd_readItem (l := l) (D := D) (A := A) (g := g) (rest := rest) (a0 := a0) (sr := a2) (a2 := a1) ho2) (cwV 0 ht (gd_V m_491 m_493 mp_25 m_8 m_494) rfl rfl rfl (by decide +kernel) ⟨(Nat.le_of_ble_eq_true rfl), (Nat.le_of_ble_eq_true rfl)⟩) (prV (ci := 5) (q0 := 0) hKK hI ((mv_1).trans ((mv_2).trans (mv_2))) rfl rfl rfl) rfl rfl hl.1 rfl (lv_room (Nat.le_of_ble_eq_true rfl)) d_Rd_read_151 ⟨(Nat.le_of_ble_eq_true rfl), (Nat.le_of_ble_eq_true rfl)⟩) hS (fun _ => (((mv_1).trans ((mv_2).trans (mv_2)))).symm) (fun _ H locs hI hS => ?_)
  have hI : Iw D A (w_Rd g a0 (tw (a1 0) (a2 0)) o1.1 ++ (w_Tr g a1 o1.2 ++ (w_Bs g a2 s2 ++ (rest)))) H := hI
  exact t_Rd_read_154 (u0 := u0) X hk56 (lv_sub hl [0, 1, 2] rfl) hI hS h
set_option maxRecDepth 100000 in
set_option maxHeartbeats 4000000 in
theorem t_Rd_read_143 {p : Program} {l : Launch} {e : Env} {s : State} {m : MethodId} {args : Array Value} {below : List Frame} {meth : Method} {c : Code} {D : va_G} {A : Nat → Prop} {g : Nat → ClassId} {rest : va_W} {a0 : Nat → Nat} {a1 : Nat → Nat} {a2 : Nat → Nat} {u0 : Nat} {ls : Array Slot} {H : Heap} {locs : List Loc} {k56 : S_Rd × S_Tr × Int32 × Int32 → Option (Int32 × S_Rd × S_Tr)} {s2 : S_Bs} {s0 : S_Rd} {s1 : S_Tr} {x3 : Int32} {x4 : Int32} {out : Int32 × S_Rd × S_Tr} (X : Cx p s m args meth c prog_7_method_3_code 5 ws_Rd_read R_Rd (some .int) D g) (hk56 : ∀ (v : S_Rd × S_Tr × Int32 × Int32) (ls : Array Slot) (H : Heap) (locs : List Loc), lv_has ls 5 [(0, .ref (a0 0)), (3, .int v.2.2.1), (4, .int v.2.2.2)] → Iw D A (w_Rd g a0 (tw (a1 0) (a2 0)) v.1 ++ (w_Tr g a1 v.2.1 ++ (w_Bs g a2 s2 ++ (rest)))) H → va_S A s.heap H locs → k56 v = some out → W p l e (headSpec ws_Rd_read { frames := 3, cells := 0, slots := 0, locals := 72 }).room s m args below meth c H locs 0 0 (MQ below (QcI D A g out.1 (fun (_ : Unit) => w_Rd g a0 (tw (a1 0) (a2 0)) out.2.1 ++ (w_Tr g a1 out.2.2 ++ (w_Bs g a2 s2 ++ (rest))))) args s 0 0 A) (F0 m 56 ls [])) (hl : lv_has ls 5 [(0, .ref (a0 0)), (3, .int x3), (4, .int x4)]) (hI : Iw D A (w_Rd g a0 (tw (a1 0) (a2 0)) s0 ++ (w_Tr g a1 s1 ++ (w_Bs g a2 s2 ++ (rest)))) H) (hS : va_S A s.heap H locs) (h : B_Rd_read_143 k56 s2 s0 s1 x3 x4 = some out) : W p l e (headSpec ws_Rd_read { frames := 3, cells := 0, slots := 0, locals := 72 }).room s m args below meth c H locs 0 0 (MQ below (QcI D A g out.1 (fun (_ : Unit) => w_Rd g a0 (tw (a1 0) (a2 0)) out.2.1 ++ (w_Tr g a1 out.2.2 ++ (w_Bs g a2 s2 ++ (rest))))) args s 0 0 A) (F0 m 143 ls []) := by
  have X1 := X
  obtain ⟨hx, hb, hml, hown, hts, hr, hlocks, hKK⟩ := X1
  have ht : ∀ w ∈ TB, w.before args s = true := fun w h => hts w (List.mem_cons_of_mem _ h)
  have hK := hKK.1
  unfold B_Rd_read_143 at h
  refine lv_aload_n hx hb d_Rd_read_143 rfl (lv_at hl 0 rfl) ?_
  obtain ⟨o1, ho2, h⟩ := bd_s h
  refine cl_v (W1 := fun (_ : Unit) => w_Rd g a0 (tw (a1 0) (a2 0)) o1.1 ++ (w_Tr g a1 o1.2 ++ (w_Bs g a2 s2 ++ (rest)))) (va_runV (As := []) (rest := []) ⟨hx, hb, hml, hown, ht⟩ (c_Rd_readElement (l := l) (D := D) (A := A) (g := g) (rest := rest) (a0 := a0) (sr := a2) (a2 := a1) ho2) (cwV 0 ht (gd_V m_450 m_452 mp_19 m_8 m_453) rfl rfl rfl (by decide +kernel) ⟨(Nat.le_of_ble_eq_true rfl), (Nat.le_of_ble_eq_true rfl)⟩) (prV (ci := 5) (q0 := 0) hKK hI ((mv_1).trans ((mv_2).trans (mv_2))) rfl rfl rfl) rfl rfl hl.1 rfl (lv_room (Nat.le_of_ble_eq_true rfl)) d_Rd_read_144 ⟨(Nat.le_of_ble_eq_true rfl), (Nat.le_of_ble_eq_true rfl)⟩) hS (fun _ => (((mv_1).trans ((mv_2).trans (mv_2)))).symm) (fun _ H locs hI hS => ?_)
  have hI : Iw D A (w_Rd g a0 (tw (a1 0) (a2 0)) o1.1 ++ (w_Tr g a1 o1.2 ++ (w_Bs g a2 s2 ++ (rest)))) H := hI
  refine lv_goto (tgt := 154) hx hb d_Rd_read_147 (by decide) ?_
  exact t_Rd_read_154 (u0 := u0) X hk56 (lv_sub hl [0, 1, 2] rfl) hI hS h
set_option maxRecDepth 100000 in
set_option maxHeartbeats 4000000 in
theorem t_Rd_read_134 {p : Program} {l : Launch} {e : Env} {s : State} {m : MethodId} {args : Array Value} {below : List Frame} {meth : Method} {c : Code} {D : va_G} {A : Nat → Prop} {g : Nat → ClassId} {rest : va_W} {a0 : Nat → Nat} {a1 : Nat → Nat} {a2 : Nat → Nat} {u0 : Nat} {ls : Array Slot} {H : Heap} {locs : List Loc} {k56 : S_Rd × S_Tr × Int32 × Int32 → Option (Int32 × S_Rd × S_Tr)} {s2 : S_Bs} {s0 : S_Rd} {s1 : S_Tr} {x3 : Int32} {x4 : Int32} {out : Int32 × S_Rd × S_Tr} (X : Cx p s m args meth c prog_7_method_3_code 5 ws_Rd_read R_Rd (some .int) D g) (hk56 : ∀ (v : S_Rd × S_Tr × Int32 × Int32) (ls : Array Slot) (H : Heap) (locs : List Loc), lv_has ls 5 [(0, .ref (a0 0)), (3, .int v.2.2.1), (4, .int v.2.2.2)] → Iw D A (w_Rd g a0 (tw (a1 0) (a2 0)) v.1 ++ (w_Tr g a1 v.2.1 ++ (w_Bs g a2 s2 ++ (rest)))) H → va_S A s.heap H locs → k56 v = some out → W p l e (headSpec ws_Rd_read { frames := 3, cells := 0, slots := 0, locals := 72 }).room s m args below meth c H locs 0 0 (MQ below (QcI D A g out.1 (fun (_ : Unit) => w_Rd g a0 (tw (a1 0) (a2 0)) out.2.1 ++ (w_Tr g a1 out.2.2 ++ (w_Bs g a2 s2 ++ (rest))))) args s 0 0 A) (F0 m 56 ls [])) (hl : lv_has ls 5 [(0, .ref (a0 0)), (3, .int x3), (4, .int x4)]) (hI : Iw D A (w_Rd g a0 (tw (a1 0) (a2 0)) s0 ++ (w_Tr g a1 s1 ++ (w_Bs g a2 s2 ++ (rest)))) H) (hS : va_S A s.heap H locs) (h : B_Rd_read_134 k56 s2 s0 s1 x3 x4 = some out) : W p l e (headSpec ws_Rd_read { frames := 3, cells := 0, slots := 0, locals := 72 }).room s m args below meth c H locs 0 0 (MQ below (QcI D A g out.1 (fun (_ : Unit) => w_Rd g a0 (tw (a1 0) (a2 0)) out.2.1 ++ (w_Tr g a1 out.2.2 ++ (w_Bs g a2 s2 ++ (rest))))) args s 0 0 A) (F0 m 134 ls []) := by
  have X1 := X
  obtain ⟨hx, hb, hml, hown, hts, hr, hlocks, hKK⟩ := X1
  have ht : ∀ w ∈ TB, w.before args s = true := fun w h => hts w (List.mem_cons_of_mem _ h)
  have hK := hKK.1
  unfold B_Rd_read_134 at h
  refine lv_aload_n hx hb d_Rd_read_134 rfl (lv_at hl 0 rfl) ?_
  refine va_get (D := D) (ci := 5) (v := .int (Rd_level s0)) (C := R_Rd) (T := T_Rd) (N := 11) hx hb ht in_Rd hown hK hI.1 0 rfl rfl 9 (by decide) (ht _ m_167) (fun _ h9 => h9) rfl d_Rd_read_135 ?_
  refine lv_iconst (v := 2) hx hb d_Rd_read_138 (by decide) ?_
  refine lv_irem hx hb d_Rd_read_139 (by decide) ?_
  refine lv_if_ne (tgt := 150) hx hb d_Rd_read_140 (by decide) (fun hc => ?_) (fun hc => ?_)
  · have h := it_f h hc
    exact t_Rd_read_150 (u0 := u0) X hk56 (lv_sub hl [0, 1, 2] rfl) hI hS h
  · have h := it_t h hc
    exact t_Rd_read_143 (u0 := u0) X hk56 (lv_sub hl [0, 1, 2] rfl) hI hS h
set_option maxRecDepth 100000 in
set_option maxHeartbeats 4000000 in
theorem t_Rd_read_117 {p : Program} {l : Launch} {e : Env} {s : State} {m : MethodId} {args : Array Value} {below : List Frame} {meth : Method} {c : Code} {D : va_G} {A : Nat → Prop} {g : Nat → ClassId} {rest : va_W} {a0 : Nat → Nat} {a1 : Nat → Nat} {a2 : Nat → Nat} {u0 : Nat} {ls : Array Slot} {H : Heap} {locs : List Loc} {k56 : S_Rd × S_Tr × Int32 × Int32 → Option (Int32 × S_Rd × S_Tr)} {s2 : S_Bs} {s0 : S_Rd} {s1 : S_Tr} {x3 : Int32} {x4 : Int32} {out : Int32 × S_Rd × S_Tr} (X : Cx p s m args meth c prog_7_method_3_code 5 ws_Rd_read R_Rd (some .int) D g) (hk56 : ∀ (v : S_Rd × S_Tr × Int32 × Int32) (ls : Array Slot) (H : Heap) (locs : List Loc), lv_has ls 5 [(0, .ref (a0 0)), (3, .int v.2.2.1), (4, .int v.2.2.2)] → Iw D A (w_Rd g a0 (tw (a1 0) (a2 0)) v.1 ++ (w_Tr g a1 v.2.1 ++ (w_Bs g a2 s2 ++ (rest)))) H → va_S A s.heap H locs → k56 v = some out → W p l e (headSpec ws_Rd_read { frames := 3, cells := 0, slots := 0, locals := 72 }).room s m args below meth c H locs 0 0 (MQ below (QcI D A g out.1 (fun (_ : Unit) => w_Rd g a0 (tw (a1 0) (a2 0)) out.2.1 ++ (w_Tr g a1 out.2.2 ++ (w_Bs g a2 s2 ++ (rest))))) args s 0 0 A) (F0 m 56 ls [])) (hl : lv_has ls 5 [(0, .ref (a0 0)), (3, .int x3), (4, .int x4)]) (hI : Iw D A (w_Rd g a0 (tw (a1 0) (a2 0)) s0 ++ (w_Tr g a1 s1 ++ (w_Bs g a2 s2 ++ (rest)))) H) (hS : va_S A s.heap H locs) (h : B_Rd_read_117 k56 s2 s0 s1 x3 x4 = some out) : W p l e (headSpec ws_Rd_read { frames := 3, cells := 0, slots := 0, locals := 72 }).room s m args below meth c H locs 0 0 (MQ below (QcI D A g out.1 (fun (_ : Unit) => w_Rd g a0 (tw (a1 0) (a2 0)) out.2.1 ++ (w_Tr g a1 out.2.2 ++ (w_Bs g a2 s2 ++ (rest))))) args s 0 0 A) (F0 m 117 ls []) := by
  have X1 := X
  obtain ⟨hx, hb, hml, hown, hts, hr, hlocks, hKK⟩ := X1
  have ht : ∀ w ∈ TB, w.before args s = true := fun w h => hts w (List.mem_cons_of_mem _ h)
  have hK := hKK.1
  unfold B_Rd_read_117 at h
  refine lv_aload_n hx hb d_Rd_read_117 rfl (lv_at hl 0 rfl) ?_
  refine lv_dup hx hb d_Rd_read_118 rfl ?_
  refine va_get (D := D) (ci := 5) (v := .int (Rd_position s0)) (C := R_Rd) (T := T_Rd) (N := 11) hx hb ht in_Rd hown hK hI.1 0 rfl rfl 8 (by decide) (ht _ m_166) (fun _ h9 => h9) rfl d_Rd_read_119 ?_
  refine lv_iconst (v := 1) hx hb d_Rd_read_122 (by decide) ?_
  refine lv_iadd hx hb d_Rd_read_123 ?_
  refine va_put (D := D) (ci := 5) (v := .int ((Rd_position s0) + (1 : Int32))) (ty := .int) (C := R_Rd) (T := T_Rd) (N := 11) hx hb ht in_Rd ty_Rd tyok_Rd nm_Rd hown hK hI.1 hI.2 hS 0 rfl rfl 8 (by decide) (ht _ m_166) (fun _ h9 => h9) rfl (by decide +kernel) rfl rfl (Nat.le_of_ble_eq_true rfl) d_Rd_read_124 (fun H locs hP hD hS => ?_)
  have hI : Iw D A (w_Rd g a0 (tw (a1 0) (a2 0)) (Rd_set_position s0 ((Rd_position s0) + (1 : Int32))) ++ (w_Tr g a1 s1 ++ (w_Bs g a2 s2 ++ (rest)))) H := ⟨hP, hD⟩
  refine lv_aload_n hx hb d_Rd_read_127 rfl (lv_at hl 0 rfl) ?_
  obtain ⟨o1, ho2, h⟩ := bd_s h
  refine cl_v (W1 := fun (_ : Unit) => w_Rd g a0 (tw (a1 0) (a2 0)) o1.1 ++ (w_Tr g a1 o1.2 ++ (w_Bs g a2 s2 ++ (rest)))) (va_runV (As := []) (rest := []) ⟨hx, hb, hml, hown, ht⟩ (c_Rd_leave (l := l) (D := D) (A := A) (g := g) (rest := w_Bs g a2 s2 ++ (rest)) (a0 := a0) (a1 := a1) (sr := a2) ho2) (cwV 0 ht (gd_V m_437 m_439 mp_17 m_8 m_440) rfl rfl rfl (by decide +kernel) ⟨(Nat.le_of_ble_eq_true rfl), (Nat.le_of_ble_eq_true rfl)⟩) (prV (ci := 5) (q0 := 0) hKK hI ((mv_1).trans (mv_1)) rfl rfl rfl) rfl rfl hl.1 rfl (lv_room (Nat.le_of_ble_eq_true rfl)) d_Rd_read_128 ⟨(Nat.le_of_ble_eq_true rfl), (Nat.le_of_ble_eq_true rfl)⟩) hS (fun _ => (((mv_1).trans (mv_1))).symm) (fun _ H locs hI hS => ?_)
  have hI : Iw D A (w_Rd g a0 (tw (a1 0) (a2 0)) o1.1 ++ (w_Tr g a1 o1.2 ++ (w_Bs g a2 s2 ++ (rest)))) H := hI
  refine lv_goto (tgt := 154) hx hb d_Rd_read_131 (by decide) ?_
  exact t_Rd_read_154 (u0 := u0) X hk56 (lv_sub hl [0, 1, 2] rfl) hI hS h
set_option maxRecDepth 100000 in
set_option maxHeartbeats 4000000 in
theorem t_Rd_read_99 {p : Program} {l : Launch} {e : Env} {s : State} {m : MethodId} {args : Array Value} {below : List Frame} {meth : Method} {c : Code} {D : va_G} {A : Nat → Prop} {g : Nat → ClassId} {rest : va_W} {a0 : Nat → Nat} {a1 : Nat → Nat} {a2 : Nat → Nat} {u0 : Nat} {ls : Array Slot} {H : Heap} {locs : List Loc} {k56 : S_Rd × S_Tr × Int32 × Int32 → Option (Int32 × S_Rd × S_Tr)} {s2 : S_Bs} {s0 : S_Rd} {s1 : S_Tr} {x3 : Int32} {x4 : Int32} {out : Int32 × S_Rd × S_Tr} (X : Cx p s m args meth c prog_7_method_3_code 5 ws_Rd_read R_Rd (some .int) D g) (hk56 : ∀ (v : S_Rd × S_Tr × Int32 × Int32) (ls : Array Slot) (H : Heap) (locs : List Loc), lv_has ls 5 [(0, .ref (a0 0)), (3, .int v.2.2.1), (4, .int v.2.2.2)] → Iw D A (w_Rd g a0 (tw (a1 0) (a2 0)) v.1 ++ (w_Tr g a1 v.2.1 ++ (w_Bs g a2 s2 ++ (rest)))) H → va_S A s.heap H locs → k56 v = some out → W p l e (headSpec ws_Rd_read { frames := 3, cells := 0, slots := 0, locals := 72 }).room s m args below meth c H locs 0 0 (MQ below (QcI D A g out.1 (fun (_ : Unit) => w_Rd g a0 (tw (a1 0) (a2 0)) out.2.1 ++ (w_Tr g a1 out.2.2 ++ (w_Bs g a2 s2 ++ (rest))))) args s 0 0 A) (F0 m 56 ls [])) (hl : lv_has ls 5 [(0, .ref (a0 0)), (3, .int x3), (4, .int x4)]) (hI : Iw D A (w_Rd g a0 (tw (a1 0) (a2 0)) s0 ++ (w_Tr g a1 s1 ++ (w_Bs g a2 s2 ++ (rest)))) H) (hS : va_S A s.heap H locs) (h : B_Rd_read_99 k56 s2 s0 s1 x3 x4 = some out) : W p l e (headSpec ws_Rd_read { frames := 3, cells := 0, slots := 0, locals := 72 }).room s m args below meth c H locs 0 0 (MQ below (QcI D A g out.1 (fun (_ : Unit) => w_Rd g a0 (tw (a1 0) (a2 0)) out.2.1 ++ (w_Tr g a1 out.2.2 ++ (w_Bs g a2 s2 ++ (rest))))) args s 0 0 A) (F0 m 99 ls []) := by
  have X1 := X
  obtain ⟨hx, hb, hml, hown, hts, hr, hlocks, hKK⟩ := X1
  have ht : ∀ w ∈ TB, w.before args s = true := fun w h => hts w (List.mem_cons_of_mem _ h)
  have hK := hKK.1
  unfold B_Rd_read_99 at h
  refine lv_aload_n hx hb d_Rd_read_99 rfl (lv_at hl 0 rfl) ?_
  refine lv_aload_n hx hb d_Rd_read_100 rfl (lv_at hl 0 rfl) ?_
  refine va_get (D := D) (ci := 5) (v := .ref (a2 0)) (C := R_Rd) (T := T_Rd) (N := 11) hx hb ht in_Rd hown hK hI.1 0 rfl rfl 6 (by decide) (ht _ m_164) (fun _ h9 => h9) rfl d_Rd_read_101 ?_
  refine lv_aload_n hx hb d_Rd_read_104 rfl (lv_at hl 0 rfl) ?_
  refine va_get (D := D) (ci := 5) (v := .int (Rd_position s0)) (C := R_Rd) (T := T_Rd) (N := 11) hx hb ht in_Rd hown hK hI.1 0 rfl rfl 8 (by decide) (ht _ m_166) (fun _ h9 => h9) rfl d_Rd_read_105 ?_
  obtain ⟨o1, ho2, h⟩ := bd_s h
  refine cl_i (W1 := fun (_ : Unit) => w_Rd g a0 (tw (a1 0) (a2 0)) s0 ++ (w_Tr g a1 s1 ++ (w_Bs g a2 s2 ++ (rest)))) (va_runV (As := [.int (Rd_position s0)]) (rest := [.ref (a0 0)]) ⟨hx, hb, hml, hown, ht⟩ (c_Bs_get (l := l) (D := D) (A := A) (g := g) (rest := w_Rd g a0 (tw (a1 0) (a2 0)) s0 ++ (w_Tr g a1 s1 ++ (rest))) (a0 := a2) ho2) (cwV 1 ht (gd_V m_445 m_307 m_308 m_2 m_309) rfl rfl rfl (by decide +kernel) ⟨(Nat.le_of_ble_eq_true rfl), (Nat.le_of_ble_eq_true rfl)⟩) (prV (ci := 0) (q0 := 0) hKK hI (mv_2) rfl rfl rfl) rfl rfl hl.1 rfl (lv_room (Nat.le_of_ble_eq_true rfl)) d_Rd_read_108 ⟨(Nat.le_of_ble_eq_true rfl), (Nat.le_of_ble_eq_true rfl)⟩) hS (fun _ => ((mv_2)).symm) (fun _ H locs hI hS => ?_)
  have hI : Iw D A (w_Rd g a0 (tw (a1 0) (a2 0)) s0 ++ (w_Tr g a1 s1 ++ (w_Bs g a2 s2 ++ (rest)))) H := hI
  obtain ⟨o3, ho4, h⟩ := bd_s h
  refine cl_i (W1 := fun (_ : Unit) => w_Rd g a0 (tw (a1 0) (a2 0)) s0 ++ (w_Tr g a1 s1 ++ (w_Bs g a2 s2 ++ (rest)))) (va_runV (As := [.int o1]) (rest := []) ⟨hx, hb, hml, hown, ht⟩ (c_Rd_isEndMark (l := l) (D := D) (A := A) (g := g) (rest := w_Tr g a1 s1 ++ (w_Bs g a2 s2 ++ (rest))) (a0 := a0) (a1 := a1) (sr := a2) ho4) (cwV 1 ht (gd_V m_446 m_448 mp_18 m_8 m_449) rfl rfl rfl (by decide +kernel) ⟨(Nat.le_of_ble_eq_true rfl), (Nat.le_of_ble_eq_true rfl)⟩) (prV (ci := 5) (q0 := 0) hKK hI (List.Perm.refl _) rfl rfl rfl) rfl rfl hl.1 rfl (lv_room (Nat.le_of_ble_eq_true rfl)) d_Rd_read_111 ⟨(Nat.le_of_ble_eq_true rfl), (Nat.le_of_ble_eq_true rfl)⟩) hS (fun _ => ((List.Perm.refl _)).symm) (fun _ H locs hI hS => ?_)
  have hI : Iw D A (w_Rd g a0 (tw (a1 0) (a2 0)) s0 ++ (w_Tr g a1 s1 ++ (w_Bs g a2 s2 ++ (rest)))) H := hI
  refine lv_if_eq (tgt := 134) hx hb d_Rd_read_114 (by decide) (fun hc => ?_) (fun hc => ?_)
  · have h := it_t h hc
    exact t_Rd_read_134 (u0 := u0) X hk56 (lv_sub hl [0, 1, 2] rfl) hI hS h
  · have h := it_f h hc
    exact t_Rd_read_117 (u0 := u0) X hk56 (lv_sub hl [0, 1, 2] rfl) hI hS h
set_option maxRecDepth 100000 in
set_option maxHeartbeats 4000000 in
theorem t_Rd_read_92 {p : Program} {l : Launch} {e : Env} {s : State} {m : MethodId} {args : Array Value} {below : List Frame} {meth : Method} {c : Code} {D : va_G} {A : Nat → Prop} {g : Nat → ClassId} {rest : va_W} {a0 : Nat → Nat} {a1 : Nat → Nat} {a2 : Nat → Nat} {u0 : Nat} {ls : Array Slot} {H : Heap} {locs : List Loc} {k56 : S_Rd × S_Tr × Int32 × Int32 → Option (Int32 × S_Rd × S_Tr)} {s2 : S_Bs} {s0 : S_Rd} {s1 : S_Tr} {x3 : Int32} {x4 : Int32} {out : Int32 × S_Rd × S_Tr} (X : Cx p s m args meth c prog_7_method_3_code 5 ws_Rd_read R_Rd (some .int) D g) (hk56 : ∀ (v : S_Rd × S_Tr × Int32 × Int32) (ls : Array Slot) (H : Heap) (locs : List Loc), lv_has ls 5 [(0, .ref (a0 0)), (3, .int v.2.2.1), (4, .int v.2.2.2)] → Iw D A (w_Rd g a0 (tw (a1 0) (a2 0)) v.1 ++ (w_Tr g a1 v.2.1 ++ (w_Bs g a2 s2 ++ (rest)))) H → va_S A s.heap H locs → k56 v = some out → W p l e (headSpec ws_Rd_read { frames := 3, cells := 0, slots := 0, locals := 72 }).room s m args below meth c H locs 0 0 (MQ below (QcI D A g out.1 (fun (_ : Unit) => w_Rd g a0 (tw (a1 0) (a2 0)) out.2.1 ++ (w_Tr g a1 out.2.2 ++ (w_Bs g a2 s2 ++ (rest))))) args s 0 0 A) (F0 m 56 ls [])) (hl : lv_has ls 5 [(0, .ref (a0 0)), (3, .int x3), (4, .int x4)]) (hI : Iw D A (w_Rd g a0 (tw (a1 0) (a2 0)) s0 ++ (w_Tr g a1 s1 ++ (w_Bs g a2 s2 ++ (rest)))) H) (hS : va_S A s.heap H locs) (h : B_Rd_read_92 k56 s2 s0 s1 x3 x4 = some out) : W p l e (headSpec ws_Rd_read { frames := 3, cells := 0, slots := 0, locals := 72 }).room s m args below meth c H locs 0 0 (MQ below (QcI D A g out.1 (fun (_ : Unit) => w_Rd g a0 (tw (a1 0) (a2 0)) out.2.1 ++ (w_Tr g a1 out.2.2 ++ (w_Bs g a2 s2 ++ (rest))))) args s 0 0 A) (F0 m 92 ls []) := by
  have X1 := X
  obtain ⟨hx, hb, hml, hown, hts, hr, hlocks, hKK⟩ := X1
  have ht : ∀ w ∈ TB, w.before args s = true := fun w h => hts w (List.mem_cons_of_mem _ h)
  have hK := hKK.1
  unfold B_Rd_read_92 at h
  refine lv_aload_n hx hb d_Rd_read_92 rfl (lv_at hl 0 rfl) ?_
  obtain ⟨o1, ho2, h⟩ := bd_s h
  refine cl_v (W1 := fun (_ : Unit) => w_Rd g a0 (tw (a1 0) (a2 0)) o1.1 ++ (w_Tr g a1 o1.2 ++ (w_Bs g a2 s2 ++ (rest)))) (va_runV (As := []) (rest := []) ⟨hx, hb, hml, hown, ht⟩ (c_Rd_endLevel (l := l) (D := D) (A := A) (g := g) (rest := w_Bs g a2 s2 ++ (rest)) (a0 := a0) (a1 := a1) (sr := a2) ho2) (cwV 0 ht (gd_V m_429 m_431 mp_15 m_8 m_432) rfl rfl rfl (by decide +kernel) ⟨(Nat.le_of_ble_eq_true rfl), (Nat.le_of_ble_eq_true rfl)⟩) (prV (ci := 5) (q0 := 0) hKK hI ((mv_1).trans (mv_1)) rfl rfl rfl) rfl rfl hl.1 rfl (lv_room (Nat.le_of_ble_eq_true rfl)) d_Rd_read_93 ⟨(Nat.le_of_ble_eq_true rfl), (Nat.le_of_ble_eq_true rfl)⟩) hS (fun _ => (((mv_1).trans (mv_1))).symm) (fun _ H locs hI hS => ?_)
  have hI : Iw D A (w_Rd g a0 (tw (a1 0) (a2 0)) o1.1 ++ (w_Tr g a1 o1.2 ++ (w_Bs g a2 s2 ++ (rest)))) H := hI
  refine lv_goto (tgt := 154) hx hb d_Rd_read_96 (by decide) ?_
  exact t_Rd_read_154 (u0 := u0) X hk56 (lv_sub hl [0, 1, 2] rfl) hI hS h
set_option maxRecDepth 100000 in
set_option maxHeartbeats 4000000 in
theorem t_Rd_read_76 {p : Program} {l : Launch} {e : Env} {s : State} {m : MethodId} {args : Array Value} {below : List Frame} {meth : Method} {c : Code} {D : va_G} {A : Nat → Prop} {g : Nat → ClassId} {rest : va_W} {a0 : Nat → Nat} {a1 : Nat → Nat} {a2 : Nat → Nat} {u0 : Nat} {ls : Array Slot} {H : Heap} {locs : List Loc} {k56 : S_Rd × S_Tr × Int32 × Int32 → Option (Int32 × S_Rd × S_Tr)} {s2 : S_Bs} {s0 : S_Rd} {s1 : S_Tr} {x3 : Int32} {x4 : Int32} {out : Int32 × S_Rd × S_Tr} (X : Cx p s m args meth c prog_7_method_3_code 5 ws_Rd_read R_Rd (some .int) D g) (hk56 : ∀ (v : S_Rd × S_Tr × Int32 × Int32) (ls : Array Slot) (H : Heap) (locs : List Loc), lv_has ls 5 [(0, .ref (a0 0)), (3, .int v.2.2.1), (4, .int v.2.2.2)] → Iw D A (w_Rd g a0 (tw (a1 0) (a2 0)) v.1 ++ (w_Tr g a1 v.2.1 ++ (w_Bs g a2 s2 ++ (rest)))) H → va_S A s.heap H locs → k56 v = some out → W p l e (headSpec ws_Rd_read { frames := 3, cells := 0, slots := 0, locals := 72 }).room s m args below meth c H locs 0 0 (MQ below (QcI D A g out.1 (fun (_ : Unit) => w_Rd g a0 (tw (a1 0) (a2 0)) out.2.1 ++ (w_Tr g a1 out.2.2 ++ (w_Bs g a2 s2 ++ (rest))))) args s 0 0 A) (F0 m 56 ls [])) (hl : lv_has ls 5 [(0, .ref (a0 0)), (3, .int x3), (4, .int x4)]) (hI : Iw D A (w_Rd g a0 (tw (a1 0) (a2 0)) s0 ++ (w_Tr g a1 s1 ++ (w_Bs g a2 s2 ++ (rest)))) H) (hS : va_S A s.heap H locs) (h : B_Rd_read_76 k56 s2 s0 s1 x3 x4 = some out) : W p l e (headSpec ws_Rd_read { frames := 3, cells := 0, slots := 0, locals := 72 }).room s m args below meth c H locs 0 0 (MQ below (QcI D A g out.1 (fun (_ : Unit) => w_Rd g a0 (tw (a1 0) (a2 0)) out.2.1 ++ (w_Tr g a1 out.2.2 ++ (w_Bs g a2 s2 ++ (rest))))) args s 0 0 A) (F0 m 76 ls []) := by
  have X1 := X
  obtain ⟨hx, hb, hml, hown, hts, hr, hlocks, hKK⟩ := X1
  have ht : ∀ w ∈ TB, w.before args s = true := fun w h => hts w (List.mem_cons_of_mem _ h)
  have hK := hKK.1
  unfold B_Rd_read_76 at h
  refine lv_aload_n hx hb d_Rd_read_76 rfl (lv_at hl 0 rfl) ?_
  refine va_get (D := D) (ci := 5) (v := .int (Rd_position s0)) (C := R_Rd) (T := T_Rd) (N := 11) hx hb ht in_Rd hown hK hI.1 0 rfl rfl 8 (by decide) (ht _ m_166) (fun _ h9 => h9) rfl d_Rd_read_77 ?_
  refine lv_aload_n hx hb d_Rd_read_80 rfl (lv_at hl 0 rfl) ?_
  refine va_get (D := D) (ci := 5) (v := .ref (a0 2)) (C := R_Rd) (T := T_Rd) (N := 11) hx hb ht in_Rd hown hK hI.1 0 rfl rfl 2 (by decide) (ht _ m_160) (fun _ h9 => h9) rfl d_Rd_read_81 ?_
  refine lv_aload_n hx hb d_Rd_read_84 rfl (lv_at hl 0 rfl) ?_
  refine va_get (D := D) (ci := 5) (v := .int (Rd_level s0)) (C := R_Rd) (T := T_Rd) (N := 11) hx hb ht in_Rd hown hK hI.1 0 rfl rfl 9 (by decide) (ht _ m_167) (fun _ h9 => h9) rfl d_Rd_read_85 ?_
  by_cases hc1 : ((Rd_level s0) < 0 ∨ 5 ≤ (Rd_level s0).toNatClampNeg)
  · exact no_s (it_t h hc1)
  have h := it_f h hc1
  refine va_iald hx hb hK hI.1 2 0 rfl rfl hc1 d_Rd_read_88 ?_
  refine lv_icmp_lt (tgt := 99) hx hb d_Rd_read_89 (by decide) (fun hc => ?_) (fun hc => ?_)
  · have h := it_t h hc
    exact t_Rd_read_99 (u0 := u0) X hk56 (lv_sub hl [0, 1, 2] rfl) hI hS h
  · have h := it_f h hc
    exact t_Rd_read_92 (u0 := u0) X hk56 (lv_sub hl [0, 1, 2] rfl) hI hS h
set_option maxRecDepth 100000 in
set_option maxHeartbeats 4000000 in
theorem t_Rd_read_69 {p : Program} {l : Launch} {e : Env} {s : State} {m : MethodId} {args : Array Value} {below : List Frame} {meth : Method} {c : Code} {D : va_G} {A : Nat → Prop} {g : Nat → ClassId} {rest : va_W} {a0 : Nat → Nat} {a1 : Nat → Nat} {a2 : Nat → Nat} {u0 : Nat} {ls : Array Slot} {H : Heap} {locs : List Loc} {k56 : S_Rd × S_Tr × Int32 × Int32 → Option (Int32 × S_Rd × S_Tr)} {s2 : S_Bs} {s0 : S_Rd} {s1 : S_Tr} {x3 : Int32} {x4 : Int32} {out : Int32 × S_Rd × S_Tr} (X : Cx p s m args meth c prog_7_method_3_code 5 ws_Rd_read R_Rd (some .int) D g) (hk56 : ∀ (v : S_Rd × S_Tr × Int32 × Int32) (ls : Array Slot) (H : Heap) (locs : List Loc), lv_has ls 5 [(0, .ref (a0 0)), (3, .int v.2.2.1), (4, .int v.2.2.2)] → Iw D A (w_Rd g a0 (tw (a1 0) (a2 0)) v.1 ++ (w_Tr g a1 v.2.1 ++ (w_Bs g a2 s2 ++ (rest)))) H → va_S A s.heap H locs → k56 v = some out → W p l e (headSpec ws_Rd_read { frames := 3, cells := 0, slots := 0, locals := 72 }).room s m args below meth c H locs 0 0 (MQ below (QcI D A g out.1 (fun (_ : Unit) => w_Rd g a0 (tw (a1 0) (a2 0)) out.2.1 ++ (w_Tr g a1 out.2.2 ++ (w_Bs g a2 s2 ++ (rest))))) args s 0 0 A) (F0 m 56 ls [])) (hl : lv_has ls 5 [(0, .ref (a0 0)), (3, .int x3), (4, .int x4)]) (hI : Iw D A (w_Rd g a0 (tw (a1 0) (a2 0)) s0 ++ (w_Tr g a1 s1 ++ (w_Bs g a2 s2 ++ (rest)))) H) (hS : va_S A s.heap H locs) (h : B_Rd_read_69 k56 s2 s0 s1 x3 x4 = some out) : W p l e (headSpec ws_Rd_read { frames := 3, cells := 0, slots := 0, locals := 72 }).room s m args below meth c H locs 0 0 (MQ below (QcI D A g out.1 (fun (_ : Unit) => w_Rd g a0 (tw (a1 0) (a2 0)) out.2.1 ++ (w_Tr g a1 out.2.2 ++ (w_Bs g a2 s2 ++ (rest))))) args s 0 0 A) (F0 m 69 ls []) := by
  have X1 := X
  obtain ⟨hx, hb, hml, hown, hts, hr, hlocks, hKK⟩ := X1
  have ht : ∀ w ∈ TB, w.before args s = true := fun w h => hts w (List.mem_cons_of_mem _ h)
  have hK := hKK.1
  unfold B_Rd_read_69 at h
  refine lv_aload_n hx hb d_Rd_read_69 rfl (lv_at hl 0 rfl) ?_
  refine va_get (D := D) (ci := 5) (v := .int (Rd_result s0)) (C := R_Rd) (T := T_Rd) (N := 11) hx hb ht in_Rd hown hK hI.1 0 rfl rfl 10 (by decide) (ht _ m_168) (fun _ h9 => h9) rfl d_Rd_read_70 ?_
  refine lv_if_ne (tgt := 160) hx hb d_Rd_read_73 (by decide) (fun hc => ?_) (fun hc => ?_)
  · have h := it_f h hc
    exact t_Rd_read_160 (u0 := u0) X (lv_sub hl [0] rfl) hI hS h
  · have h := it_t h hc
    exact t_Rd_read_76 (u0 := u0) X hk56 (lv_sub hl [0, 1, 2] rfl) hI hS h
set_option maxRecDepth 100000 in
set_option maxHeartbeats 4000000 in
theorem t_Rd_read_62 {p : Program} {l : Launch} {e : Env} {s : State} {m : MethodId} {args : Array Value} {below : List Frame} {meth : Method} {c : Code} {D : va_G} {A : Nat → Prop} {g : Nat → ClassId} {rest : va_W} {a0 : Nat → Nat} {a1 : Nat → Nat} {a2 : Nat → Nat} {u0 : Nat} {ls : Array Slot} {H : Heap} {locs : List Loc} {k56 : S_Rd × S_Tr × Int32 × Int32 → Option (Int32 × S_Rd × S_Tr)} {s2 : S_Bs} {s0 : S_Rd} {s1 : S_Tr} {x3 : Int32} {x4 : Int32} {out : Int32 × S_Rd × S_Tr} (X : Cx p s m args meth c prog_7_method_3_code 5 ws_Rd_read R_Rd (some .int) D g) (hk56 : ∀ (v : S_Rd × S_Tr × Int32 × Int32) (ls : Array Slot) (H : Heap) (locs : List Loc), lv_has ls 5 [(0, .ref (a0 0)), (3, .int v.2.2.1), (4, .int v.2.2.2)] → Iw D A (w_Rd g a0 (tw (a1 0) (a2 0)) v.1 ++ (w_Tr g a1 v.2.1 ++ (w_Bs g a2 s2 ++ (rest)))) H → va_S A s.heap H locs → k56 v = some out → W p l e (headSpec ws_Rd_read { frames := 3, cells := 0, slots := 0, locals := 72 }).room s m args below meth c H locs 0 0 (MQ below (QcI D A g out.1 (fun (_ : Unit) => w_Rd g a0 (tw (a1 0) (a2 0)) out.2.1 ++ (w_Tr g a1 out.2.2 ++ (w_Bs g a2 s2 ++ (rest))))) args s 0 0 A) (F0 m 56 ls [])) (hl : lv_has ls 5 [(0, .ref (a0 0)), (3, .int x3), (4, .int x4)]) (hI : Iw D A (w_Rd g a0 (tw (a1 0) (a2 0)) s0 ++ (w_Tr g a1 s1 ++ (w_Bs g a2 s2 ++ (rest)))) H) (hS : va_S A s.heap H locs) (h : B_Rd_read_62 k56 s2 s0 s1 x3 x4 = some out) : W p l e (headSpec ws_Rd_read { frames := 3, cells := 0, slots := 0, locals := 72 }).room s m args below meth c H locs 0 0 (MQ below (QcI D A g out.1 (fun (_ : Unit) => w_Rd g a0 (tw (a1 0) (a2 0)) out.2.1 ++ (w_Tr g a1 out.2.2 ++ (w_Bs g a2 s2 ++ (rest))))) args s 0 0 A) (F0 m 62 ls []) := by
  have X1 := X
  obtain ⟨hx, hb, hml, hown, hts, hr, hlocks, hKK⟩ := X1
  have ht : ∀ w ∈ TB, w.before args s = true := fun w h => hts w (List.mem_cons_of_mem _ h)
  have hK := hKK.1
  unfold B_Rd_read_62 at h
  refine lv_aload_n hx hb d_Rd_read_62 rfl (lv_at hl 0 rfl) ?_
  refine va_get (D := D) (ci := 5) (v := .int (Rd_level s0)) (C := R_Rd) (T := T_Rd) (N := 11) hx hb ht in_Rd hown hK hI.1 0 rfl rfl 9 (by decide) (ht _ m_167) (fun _ h9 => h9) rfl d_Rd_read_63 ?_
  refine lv_if_lt (tgt := 160) hx hb d_Rd_read_66 (by decide) (fun hc => ?_) (fun hc => ?_)
  · have h := it_t h hc
    exact t_Rd_read_160 (u0 := u0) X (lv_sub hl [0] rfl) hI hS h
  · have h := it_f h hc
    exact t_Rd_read_69 (u0 := u0) X hk56 (lv_sub hl [0, 1, 2] rfl) hI hS h
set_option maxRecDepth 100000 in
set_option maxHeartbeats 4000000 in
theorem t_Rd_read_56 {p : Program} {l : Launch} {e : Env} {s : State} {m : MethodId} {args : Array Value} {below : List Frame} {meth : Method} {c : Code} {D : va_G} {A : Nat → Prop} {g : Nat → ClassId} {rest : va_W} {a0 : Nat → Nat} {a1 : Nat → Nat} {a2 : Nat → Nat} {u0 : Nat} {ls : Array Slot} {H : Heap} {locs : List Loc} {k56 : S_Rd × S_Tr × Int32 × Int32 → Option (Int32 × S_Rd × S_Tr)} {s2 : S_Bs} {s0 : S_Rd} {s1 : S_Tr} {x3 : Int32} {x4 : Int32} {out : Int32 × S_Rd × S_Tr} (X : Cx p s m args meth c prog_7_method_3_code 5 ws_Rd_read R_Rd (some .int) D g) (hk56 : ∀ (v : S_Rd × S_Tr × Int32 × Int32) (ls : Array Slot) (H : Heap) (locs : List Loc), lv_has ls 5 [(0, .ref (a0 0)), (3, .int v.2.2.1), (4, .int v.2.2.2)] → Iw D A (w_Rd g a0 (tw (a1 0) (a2 0)) v.1 ++ (w_Tr g a1 v.2.1 ++ (w_Bs g a2 s2 ++ (rest)))) H → va_S A s.heap H locs → k56 v = some out → W p l e (headSpec ws_Rd_read { frames := 3, cells := 0, slots := 0, locals := 72 }).room s m args below meth c H locs 0 0 (MQ below (QcI D A g out.1 (fun (_ : Unit) => w_Rd g a0 (tw (a1 0) (a2 0)) out.2.1 ++ (w_Tr g a1 out.2.2 ++ (w_Bs g a2 s2 ++ (rest))))) args s 0 0 A) (F0 m 56 ls [])) (hl : lv_has ls 5 [(0, .ref (a0 0)), (3, .int x3), (4, .int x4)]) (hI : Iw D A (w_Rd g a0 (tw (a1 0) (a2 0)) s0 ++ (w_Tr g a1 s1 ++ (w_Bs g a2 s2 ++ (rest)))) H) (hS : va_S A s.heap H locs) (h : B_Rd_read_56 k56 s2 s0 s1 x3 x4 = some out) : W p l e (headSpec ws_Rd_read { frames := 3, cells := 0, slots := 0, locals := 72 }).room s m args below meth c H locs 0 0 (MQ below (QcI D A g out.1 (fun (_ : Unit) => w_Rd g a0 (tw (a1 0) (a2 0)) out.2.1 ++ (w_Tr g a1 out.2.2 ++ (w_Bs g a2 s2 ++ (rest))))) args s 0 0 A) (F0 m 56 ls []) := by
  have X1 := X
  obtain ⟨hx, hb, hml, hown, hts, hr, hlocks, hKK⟩ := X1
  have ht : ∀ w ∈ TB, w.before args s = true := fun w h => hts w (List.mem_cons_of_mem _ h)
  have hK := hKK.1
  unfold B_Rd_read_56 at h
  refine lv_iload hx hb d_Rd_read_56 (lv_at hl 2 rfl) ?_
  refine lv_iload_n hx hb d_Rd_read_58 rfl (lv_at hl 1 rfl) ?_
  refine lv_icmp_ge (tgt := 160) hx hb d_Rd_read_59 (by decide) (fun hc => ?_) (fun hc => ?_)
  · have h := it_t h hc
    exact t_Rd_read_160 (u0 := u0) X (lv_sub hl [0] rfl) hI hS h
  · have h := it_f h hc
    exact t_Rd_read_62 (u0 := u0) X hk56 (lv_sub hl [0, 1, 2] rfl) hI hS h
set_option maxRecDepth 100000 in
set_option maxHeartbeats 4000000 in
theorem T_Rd_read_56 {p : Program} {l : Launch} {e : Env} {s : State} {m : MethodId} {args : Array Value} {below : List Frame} {meth : Method} {c : Code} {D : va_G} {A : Nat → Prop} {g : Nat → ClassId} {rest : va_W} {a0 : Nat → Nat} {a1 : Nat → Nat} {a2 : Nat → Nat} {u0 : Nat} {ls : Array Slot} {H : Heap} {locs : List Loc} {s2 : S_Bs} {s0 : S_Rd} {s1 : S_Tr} {x3 : Int32} {x4 : Int32} {out : Int32 × S_Rd × S_Tr} (X : Cx p s m args meth c prog_7_method_3_code 5 ws_Rd_read R_Rd (some .int) D g) (hl : lv_has ls 5 [(0, .ref (a0 0)), (3, .int x3), (4, .int x4)]) (hI : Iw D A (w_Rd g a0 (tw (a1 0) (a2 0)) s0 ++ (w_Tr g a1 s1 ++ (w_Bs g a2 s2 ++ (rest)))) H) (hS : va_S A s.heap H locs) (h : L_Rd_read_56  s2 (s0, s1, x3, x4) = some out) : W p l e (headSpec ws_Rd_read { frames := 3, cells := 0, slots := 0, locals := 72 }).room s m args below meth c H locs 0 0 (MQ below (QcI D A g out.1 (fun (_ : Unit) => w_Rd g a0 (tw (a1 0) (a2 0)) out.2.1 ++ (w_Tr g a1 out.2.2 ++ (w_Bs g a2 s2 ++ (rest))))) args s 0 0 A) (F0 m 56 ls []) := by
  unfold L_Rd_read_56 at h
  exact lp_ind (P := fun v => ∀ (ls : Array Slot) (H : Heap) (locs : List Loc), lv_has ls 5 [(0, .ref (a0 0)), (3, .int v.2.2.1), (4, .int v.2.2.2)] → Iw D A (w_Rd g a0 (tw (a1 0) (a2 0)) v.1 ++ (w_Tr g a1 v.2.1 ++ (w_Bs g a2 s2 ++ (rest)))) H → va_S A s.heap H locs → W p l e (headSpec ws_Rd_read { frames := 3, cells := 0, slots := 0, locals := 72 }).room s m args below meth c H locs 0 0 (MQ below (QcI D A g out.1 (fun (_ : Unit) => w_Rd g a0 (tw (a1 0) (a2 0)) out.2.1 ++ (w_Tr g a1 out.2.2 ++ (w_Bs g a2 s2 ++ (rest))))) args s 0 0 A) (F0 m 56 ls [])) (fun k v ih hb ls H locs  hl hI hS => t_Rd_read_56 (u0 := u0) X  (fun v' ls H locs  hl hI hS h' => ih v' h' ls H locs  hl hI hS) hl hI hS hb) FU _ h ls H locs  hl hI hS
set_option maxRecDepth 100000 in
set_option maxHeartbeats 4000000 in
theorem t_Rd_read_0 {p : Program} {l : Launch} {e : Env} {s : State} {m : MethodId} {args : Array Value} {below : List Frame} {meth : Method} {c : Code} {D : va_G} {A : Nat → Prop} {g : Nat → ClassId} {rest : va_W} {a0 : Nat → Nat} {a1 : Nat → Nat} {a2 : Nat → Nat} {u0 : Nat} {ls : Array Slot} {H : Heap} {locs : List Loc} {s2 : S_Bs} {s0 : S_Rd} {s1 : S_Tr} {x2 : Int32} {out : Int32 × S_Rd × S_Tr} (X : Cx p s m args meth c prog_7_method_3_code 5 ws_Rd_read R_Rd (some .int) D g) (hl : lv_has ls 5 [(0, .ref (a0 0)), (1, .ref (a2 0)), (2, .int x2)]) (hI : Iw D A (w_Rd g a0 (tw (a1 0) u0) s0 ++ (w_Tr g a1 s1 ++ (w_Bs g a2 s2 ++ (rest)))) H) (hS : va_S A s.heap H locs) (h : B_Rd_read_0  s2 s0 s1 x2 = some out) : W p l e (headSpec ws_Rd_read { frames := 3, cells := 0, slots := 0, locals := 72 }).room s m args below meth c H locs 0 0 (MQ below (QcI D A g out.1 (fun (_ : Unit) => w_Rd g a0 (tw (a1 0) (a2 0)) out.2.1 ++ (w_Tr g a1 out.2.2 ++ (w_Bs g a2 s2 ++ (rest))))) args s 0 0 A) (F0 m 0 ls []) := by
  have X1 := X
  obtain ⟨hx, hb, hml, hown, hts, hr, hlocks, hKK⟩ := X1
  have ht : ∀ w ∈ TB, w.before args s = true := fun w h => hts w (List.mem_cons_of_mem _ h)
  have hK := hKK.1
  unfold B_Rd_read_0 at h
  refine lv_aload_n hx hb d_Rd_read_0 rfl (lv_at hl 0 rfl) ?_
  refine lv_aload_n hx hb d_Rd_read_1 rfl (lv_at hl 1 rfl) ?_
  refine va_put (D := D) (ci := 5) (v := .ref (a2 0)) (ty := .object "RecordNode$Bytes") (C := R_Rd) (T := T_Rd) (N := 11) hx hb ht in_Rd ty_Rd tyok_Rd nm_Rd hown hK hI.1 hI.2 hS 0 rfl rfl 6 (by decide) (ht _ m_164) (fun _ h9 => h9) rfl (by decide +kernel) rfl rfl (Nat.le_of_ble_eq_true rfl) d_Rd_read_2 (fun H locs hP hD hS => ?_)
  have hI : Iw D A (w_Rd g a0 (tw (a1 0) (a2 0)) s0 ++ (w_Tr g a1 s1 ++ (w_Bs g a2 s2 ++ (rest)))) H := ⟨hP, hD⟩
  refine lv_aload_n hx hb d_Rd_read_5 rfl (lv_at hl 0 rfl) ?_
  refine lv_iload_n hx hb d_Rd_read_6 rfl (lv_at hl 2 rfl) ?_
  refine va_put (D := D) (ci := 5) (v := .int x2) (ty := .int) (C := R_Rd) (T := T_Rd) (N := 11) hx hb ht in_Rd ty_Rd tyok_Rd nm_Rd hown hK hI.1 hI.2 hS 0 rfl rfl 7 (by decide) (ht _ m_165) (fun _ h9 => h9) rfl (by decide +kernel) rfl rfl (Nat.le_of_ble_eq_true rfl) d_Rd_read_7 (fun H locs hP hD hS => ?_)
  have hI : Iw D A (w_Rd g a0 (tw (a1 0) (a2 0)) (Rd_set_syntax s0 x2) ++ (w_Tr g a1 s1 ++ (w_Bs g a2 s2 ++ (rest)))) H := ⟨hP, hD⟩
  refine lv_aload_n hx hb d_Rd_read_10 rfl (lv_at hl 0 rfl) ?_
  refine lv_iconst (v := 0) hx hb d_Rd_read_11 (by decide) ?_
  refine va_put (D := D) (ci := 5) (v := .int (0 : Int32)) (ty := .int) (C := R_Rd) (T := T_Rd) (N := 11) hx hb ht in_Rd ty_Rd tyok_Rd nm_Rd hown hK hI.1 hI.2 hS 0 rfl rfl 8 (by decide) (ht _ m_166) (fun _ h9 => h9) rfl (by decide +kernel) rfl rfl (Nat.le_of_ble_eq_true rfl) d_Rd_read_12 (fun H locs hP hD hS => ?_)
  have hI : Iw D A (w_Rd g a0 (tw (a1 0) (a2 0)) (Rd_set_position (Rd_set_syntax s0 x2) (0 : Int32)) ++ (w_Tr g a1 s1 ++ (w_Bs g a2 s2 ++ (rest)))) H := ⟨hP, hD⟩
  refine lv_aload_n hx hb d_Rd_read_15 rfl (lv_at hl 0 rfl) ?_
  refine lv_iconst (v := 0) hx hb d_Rd_read_16 (by decide) ?_
  refine va_put (D := D) (ci := 5) (v := .int (0 : Int32)) (ty := .int) (C := R_Rd) (T := T_Rd) (N := 11) hx hb ht in_Rd ty_Rd tyok_Rd nm_Rd hown hK hI.1 hI.2 hS 0 rfl rfl 10 (by decide) (ht _ m_168) (fun _ h9 => h9) rfl (by decide +kernel) rfl rfl (Nat.le_of_ble_eq_true rfl) d_Rd_read_17 (fun H locs hP hD hS => ?_)
  have hI : Iw D A (w_Rd g a0 (tw (a1 0) (a2 0)) (Rd_set_result (Rd_set_position (Rd_set_syntax s0 x2) (0 : Int32)) (0 : Int32)) ++ (w_Tr g a1 s1 ++ (w_Bs g a2 s2 ++ (rest)))) H := ⟨hP, hD⟩
  refine lv_aload_n hx hb d_Rd_read_20 rfl (lv_at hl 0 rfl) ?_
  refine lv_iconst (v := (-1)) hx hb d_Rd_read_21 (by decide) ?_
  refine va_put (D := D) (ci := 5) (v := .int ((-1) : Int32)) (ty := .int) (C := R_Rd) (T := T_Rd) (N := 11) hx hb ht in_Rd ty_Rd tyok_Rd nm_Rd hown hK hI.1 hI.2 hS 0 rfl rfl 9 (by decide) (ht _ m_167) (fun _ h9 => h9) rfl (by decide +kernel) rfl rfl (Nat.le_of_ble_eq_true rfl) d_Rd_read_22 (fun H locs hP hD hS => ?_)
  have hI : Iw D A (w_Rd g a0 (tw (a1 0) (a2 0)) (Rd_set_level (Rd_set_result (Rd_set_position (Rd_set_syntax s0 x2) (0 : Int32)) (0 : Int32)) ((-1) : Int32)) ++ (w_Tr g a1 s1 ++ (w_Bs g a2 s2 ++ (rest)))) H := ⟨hP, hD⟩
  refine lv_aload_n hx hb d_Rd_read_25 rfl (lv_at hl 0 rfl) ?_
  refine va_get (D := D) (ci := 5) (v := .ref (a1 0)) (C := R_Rd) (T := T_Rd) (N := 11) hx hb ht in_Rd hown hK hI.1 0 rfl rfl 0 (by decide) (ht _ m_158) (fun _ h9 => h9) rfl d_Rd_read_26 ?_
  obtain ⟨o1, ho2, h⟩ := bd_s h
  refine cl_v (W1 := fun (_ : Unit) => w_Rd g a0 (tw (a1 0) (a2 0)) (Rd_set_level (Rd_set_result (Rd_set_position (Rd_set_syntax s0 x2) (0 : Int32)) (0 : Int32)) ((-1) : Int32)) ++ (w_Tr g a1 o1 ++ (w_Bs g a2 s2 ++ (rest)))) (va_runV (As := []) (rest := []) ⟨hx, hb, hml, hown, ht⟩ (c_Tr_reset (l := l) (D := D) (A := A) (g := g) (rest := w_Rd g a0 (tw (a1 0) (a2 0)) (Rd_set_level (Rd_set_result (Rd_set_position (Rd_set_syntax s0 x2) (0 : Int32)) (0 : Int32)) ((-1) : Int32)) ++ (w_Bs g a2 s2 ++ (rest))) (a0 := a1) ho2) (cwV 0 ht (gd_V m_416 m_417 m_418 m_9 m_419) rfl rfl rfl (by decide +kernel) ⟨(Nat.le_of_ble_eq_true rfl), (Nat.le_of_ble_eq_true rfl)⟩) (prV (ci := 7) (q0 := 0) hKK hI (mv_1) rfl rfl rfl) rfl rfl hl.1 rfl (lv_room (Nat.le_of_ble_eq_true rfl)) d_Rd_read_29 ⟨(Nat.le_of_ble_eq_true rfl), (Nat.le_of_ble_eq_true rfl)⟩) hS (fun _ => ((mv_1)).symm) (fun _ H locs hI hS => ?_)
  have hI : Iw D A (w_Rd g a0 (tw (a1 0) (a2 0)) (Rd_set_level (Rd_set_result (Rd_set_position (Rd_set_syntax s0 x2) (0 : Int32)) (0 : Int32)) ((-1) : Int32)) ++ (w_Tr g a1 o1 ++ (w_Bs g a2 s2 ++ (rest)))) H := hI
  refine lv_aload_n hx hb d_Rd_read_32 rfl (lv_at hl 0 rfl) ?_
  refine lv_sipush (v := 254) hx hb d_Rd_read_33 (by decide) ?_
  refine lv_aload_n hx hb d_Rd_read_36 rfl (lv_at hl 1 rfl) ?_
  obtain ⟨o3, ho4, h⟩ := bd_s h
  refine cl_i (W1 := fun (_ : Unit) => w_Rd g a0 (tw (a1 0) (a2 0)) (Rd_set_level (Rd_set_result (Rd_set_position (Rd_set_syntax s0 x2) (0 : Int32)) (0 : Int32)) ((-1) : Int32)) ++ (w_Tr g a1 o1 ++ (w_Bs g a2 s2 ++ (rest)))) (va_runV (As := []) (rest := [.int (254 : Int32), .ref (a0 0)]) ⟨hx, hb, hml, hown, ht⟩ (c_Bs_count (l := l) (D := D) (A := A) (g := g) (rest := w_Rd g a0 (tw (a1 0) (a2 0)) (Rd_set_level (Rd_set_result (Rd_set_position (Rd_set_syntax s0 x2) (0 : Int32)) (0 : Int32)) ((-1) : Int32)) ++ (w_Tr g a1 o1 ++ (rest))) (a0 := a2) ho4) (cwV 0 ht (gd_V m_420 m_303 m_304 m_2 m_305) rfl rfl rfl (by decide +kernel) ⟨(Nat.le_of_ble_eq_true rfl), (Nat.le_of_ble_eq_true rfl)⟩) (prV (ci := 0) (q0 := 0) hKK hI (mv_2) rfl rfl rfl) rfl rfl hl.1 rfl (lv_room (Nat.le_of_ble_eq_true rfl)) d_Rd_read_37 ⟨(Nat.le_of_ble_eq_true rfl), (Nat.le_of_ble_eq_true rfl)⟩) hS (fun _ => ((mv_2)).symm) (fun _ H locs hI hS => ?_)
  have hI : Iw D A (w_Rd g a0 (tw (a1 0) (a2 0)) (Rd_set_level (Rd_set_result (Rd_set_position (Rd_set_syntax s0 x2) (0 : Int32)) (0 : Int32)) ((-1) : Int32)) ++ (w_Tr g a1 o1 ++ (w_Bs g a2 s2 ++ (rest)))) H := hI
  refine lv_iconst (v := 0) hx hb d_Rd_read_40 (by decide) ?_
  obtain ⟨o5, ho6, h⟩ := bd_s h
  refine cl_v (W1 := fun (_ : Unit) => w_Rd g a0 (tw (a1 0) (a2 0)) o5.1 ++ (w_Tr g a1 o5.2 ++ (w_Bs g a2 s2 ++ (rest)))) (va_runV (As := [.int (254 : Int32), .int o3, .int (0 : Int32)]) (rest := []) ⟨hx, hb, hml, hown, ht⟩ (c_Rd_enter (l := l) (D := D) (A := A) (g := g) (rest := w_Bs g a2 s2 ++ (rest)) (a0 := a0) (a1 := a1) (sr := a2) ho6) (cwV 3 ht (gd_V m_421 m_423 mp_14 m_8 m_424) rfl rfl rfl (by decide +kernel) ⟨(Nat.le_of_ble_eq_true rfl), (Nat.le_of_ble_eq_true rfl)⟩) (prV (ci := 5) (q0 := 0) hKK hI ((mv_1).trans (mv_1)) rfl rfl rfl) rfl rfl hl.1 rfl (lv_room (Nat.le_of_ble_eq_true rfl)) d_Rd_read_41 ⟨(Nat.le_of_ble_eq_true rfl), (Nat.le_of_ble_eq_true rfl)⟩) hS (fun _ => (((mv_1).trans (mv_1))).symm) (fun _ H locs hI hS => ?_)
  have hI : Iw D A (w_Rd g a0 (tw (a1 0) (a2 0)) o5.1 ++ (w_Tr g a1 o5.2 ++ (w_Bs g a2 s2 ++ (rest)))) H := hI
  refine lv_iconst (v := 2) hx hb d_Rd_read_44 (by decide) ?_
  refine lv_aload_n hx hb d_Rd_read_45 rfl (lv_at hl 1 rfl) ?_
  obtain ⟨o7, ho8, h⟩ := bd_s h
  refine cl_i (W1 := fun (_ : Unit) => w_Rd g a0 (tw (a1 0) (a2 0)) o5.1 ++ (w_Tr g a1 o5.2 ++ (w_Bs g a2 s2 ++ (rest)))) (va_runV (As := []) (rest := [.int (2 : Int32)]) ⟨hx, hb, hml, hown, ht⟩ (c_Bs_count (l := l) (D := D) (A := A) (g := g) (rest := w_Rd g a0 (tw (a1 0) (a2 0)) o5.1 ++ (w_Tr g a1 o5.2 ++ (rest))) (a0 := a2) ho8) (cwV 0 ht (gd_V m_420 m_303 m_304 m_2 m_305) rfl rfl rfl (by decide +kernel) ⟨(Nat.le_of_ble_eq_true rfl), (Nat.le_of_ble_eq_true rfl)⟩) (prV (ci := 0) (q0 := 0) hKK hI (mv_2) rfl rfl rfl) rfl rfl hl.1 rfl (lv_room (Nat.le_of_ble_eq_true rfl)) d_Rd_read_46 ⟨(Nat.le_of_ble_eq_true rfl), (Nat.le_of_ble_eq_true rfl)⟩) hS (fun _ => ((mv_2)).symm) (fun _ H locs hI hS => ?_)
  have hI : Iw D A (w_Rd g a0 (tw (a1 0) (a2 0)) o5.1 ++ (w_Tr g a1 o5.2 ++ (w_Bs g a2 s2 ++ (rest)))) H := hI
  refine lv_imul hx hb d_Rd_read_49 ?_
  refine lv_iconst (v := 2) hx hb d_Rd_read_50 (by decide) ?_
  refine lv_iadd hx hb d_Rd_read_51 ?_
  refine lv_istore_n hx hb d_Rd_read_52 rfl hl (Nat.le_of_ble_eq_true rfl) rfl (fun ls hl => ?_)
  have hl : lv_has ls 5 [(3, .int (((2 : Int32) * o7) + (2 : Int32))), (0, .ref (a0 0)), (1, .ref (a2 0)), (2, .int x2)] := hl
  refine lv_iconst (v := 0) hx hb d_Rd_read_53 (by decide) ?_
  refine lv_istore hx hb d_Rd_read_54 hl (Nat.le_of_ble_eq_true rfl) rfl (fun ls hl => ?_)
  have hl : lv_has ls 5 [(4, .int (0 : Int32)), (3, .int (((2 : Int32) * o7) + (2 : Int32))), (0, .ref (a0 0)), (1, .ref (a2 0)), (2, .int x2)] := hl
  exact T_Rd_read_56 (u0 := u0) X (lv_sub hl [2, 1, 0] rfl) hI hS h
set_option maxRecDepth 100000 in
set_option maxHeartbeats 4000000 in
theorem c_Rd_read {l : Launch} {D : va_G} {A : Nat → Prop} {g : Nat → ClassId} {rest : va_W} {a0 : Nat → Nat} {a1 : Nat → Nat} {a2 : Nat → Nat} {u0 : Nat} {s0 : S_Rd} {s1 : S_Tr} {s2 : S_Bs} {x2 : Int32} {out : Int32 × S_Rd × S_Tr} (h : F_Rd_read s0 s1 s2 x2 = some out) : Met l y_Rd_read ws_Rd_read { frames := 3, cells := 0, slots := 0, locals := 72 } (PcW D A g [.ref (a0 0), .ref (a2 0), .int x2] (w_Rd g a0 (tw (a1 0) u0) s0 ++ (w_Tr g a1 s1 ++ (w_Bs g a2 s2 ++ (rest))))) (QcI D A g out.1 (fun (_ : Unit) => w_Rd g a0 (tw (a1 0) (a2 0)) out.2.1 ++ (w_Tr g a1 out.2.2 ++ (w_Bs g a2 s2 ++ (rest))))) 0 0 A := by
  refine Met.ofW (cc := prog_7_method_3_code) (maxL := 5) (ret := (some .int)) (by decide) rfl ?_
  intro p e s m args below meth c s₁ B hml hv
  obtain ⟨rfl, hI, hK⟩ := hv
  have hl := lv_entry [.ref (a0 0), .ref (a2 0), .int x2] (n := 5) (Nat.le_of_ble_eq_true rfl)
  rw [lg_entry_eq]
  generalize (lg_sl [.ref (a0 0), .ref (a2 0), .int x2] ++ List.replicate (5 - (lg_sl [.ref (a0 0), .ref (a2 0), .int x2]).length) Slot.unset).toArray = ls at hl ⊢
  have hl : lv_has ls 5 [(0, .ref (a0 0)), (1, .ref (a2 0)), (2, .int x2)] := hl
  exact t_Rd_read_0 ⟨B.exec, B.bytes, hml, findClass_of_methodNamed B.named, atoms_spec (ws := ws_Rd_read) B.pre, B.returns, B.notSynchronized, hK⟩ (lv_sub hl [0, 1, 2] rfl) hI va_S.rf h
def ws_Rd_tree : List Cond := .code y_Rd_tree prog_7_method_2_code 1 (some (.object "RecordNode$Tree")) :: TB
def B_Rd_tree_0 (s0 : S_Rd) : Option Unit :=
  some ()
def F_Rd_tree (s0 : S_Rd) : Option Unit := B_Rd_tree_0 s0
set_option maxRecDepth 100000 in
set_option maxHeartbeats 4000000 in
theorem t_Rd_tree_0 {p : Program} {l : Launch} {e : Env} {s : State} {m : MethodId} {args : Array Value} {below : List Frame} {meth : Method} {c : Code} {D : va_G} {A : Nat → Prop} {g : Nat → ClassId} {rest : va_W} {a0 : Nat → Nat} {a1 : Nat → Nat} {sr : Nat → Nat} {ls : Array Slot} {H : Heap} {locs : List Loc} {s0 : S_Rd} {out : Unit} (X : Cx p s m args meth c prog_7_method_2_code 1 ws_Rd_tree R_Rd (some (.object "RecordNode$Tree")) D g) (hl : lv_has ls 1 [(0, .ref (a0 0))]) (hI : Iw D A (w_Rd g a0 (tw (a1 0) (sr 0)) s0 ++ (rest)) H) (hS : va_S A s.heap H locs) (h : B_Rd_tree_0  s0 = some out) : W p l e (headSpec ws_Rd_tree { frames := 0, cells := 0, slots := 0, locals := 0 }).room s m args below meth c H locs 0 0 (MQ below (QcA D A g (a1 0) (fun (_ : Unit) => w_Rd g a0 (tw (a1 0) (sr 0)) s0 ++ (rest))) args s 0 0 A) (F0 m 0 ls []) := by
  have X1 := X
  obtain ⟨hx, hb, hml, hown, hts, hr, hlocks, hKK⟩ := X1
  have ht : ∀ w ∈ TB, w.before args s = true := fun w h => hts w (List.mem_cons_of_mem _ h)
  have hK := hKK.1
  unfold B_Rd_tree_0 at h
  refine lv_aload_n hx hb d_Rd_tree_0 rfl (lv_at hl 0 rfl) ?_
  refine va_get (D := D) (ci := 5) (v := .ref (a1 0)) (C := R_Rd) (T := T_Rd) (N := 11) hx hb ht in_Rd hown hK hI.1 0 rfl rfl 0 (by decide) (ht _ m_158) (fun _ h9 => h9) rfl d_Rd_tree_1 ?_
  have h9 := Option.some.inj h
  subst h9
  exact W.aret (v := .ref (a1 0)) hx hb hr (Or.inl ⟨_, rfl⟩) (Or.inr ⟨_, rfl⟩) (fun t ht hW => ⟨⟨(), _, rfl, trivial, rfl, by rw [ht]; exact hI, hKK.moved hW⟩, hS.F ht⟩) hS.2.2 d_Rd_tree_4
set_option maxRecDepth 100000 in
set_option maxHeartbeats 4000000 in
theorem c_Rd_tree {l : Launch} {D : va_G} {A : Nat → Prop} {g : Nat → ClassId} {rest : va_W} {a0 : Nat → Nat} {a1 : Nat → Nat} {sr : Nat → Nat} {s0 : S_Rd} {out : Unit} (h : F_Rd_tree s0 = some out) : Met l y_Rd_tree ws_Rd_tree { frames := 0, cells := 0, slots := 0, locals := 0 } (PcW D A g [.ref (a0 0)] (w_Rd g a0 (tw (a1 0) (sr 0)) s0 ++ (rest))) (QcA D A g (a1 0) (fun (_ : Unit) => w_Rd g a0 (tw (a1 0) (sr 0)) s0 ++ (rest))) 0 0 A := by
  refine Met.ofW (cc := prog_7_method_2_code) (maxL := 1) (ret := (some (.object "RecordNode$Tree"))) (by decide) rfl ?_
  intro p e s m args below meth c s₁ B hml hv
  obtain ⟨rfl, hI, hK⟩ := hv
  have hl := lv_entry [.ref (a0 0)] (n := 1) (Nat.le_of_ble_eq_true rfl)
  rw [lg_entry_eq]
  generalize (lg_sl [.ref (a0 0)] ++ List.replicate (1 - (lg_sl [.ref (a0 0)]).length) Slot.unset).toArray = ls at hl ⊢
  have hl : lv_has ls 1 [(0, .ref (a0 0))] := hl
  exact t_Rd_tree_0 ⟨B.exec, B.bytes, hml, findClass_of_methodNamed B.named, atoms_spec (ws := ws_Rd_tree) B.pre, B.returns, B.notSynchronized, hK⟩ (lv_sub hl [0] rfl) hI va_S.rf h
