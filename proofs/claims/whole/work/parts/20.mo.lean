theorem d_Mo_thrown_0 : decode prog_11_method_2_code 0 = .ok (.aload_n 0, 1) := by decide +kernel
theorem d_Mo_thrown_1 : decode prog_11_method_2_code 1 = .ok (.getfield 105, 3) := by decide +kernel
theorem d_Mo_thrown_4 : decode prog_11_method_2_code 4 = .ok (.ireturn, 1) := by decide +kernel
theorem d_Mo_in_0 : decode prog_11_method_4_code 0 = .ok (.iload_n 0, 1) := by decide +kernel
theorem d_Mo_in_1 : decode prog_11_method_4_code 1 = .ok (.iload_n 1, 1) := by decide +kernel
theorem d_Mo_in_2 : decode prog_11_method_4_code 2 = .ok (.if_icmp .lt 12, 3) := by decide +kernel
theorem d_Mo_in_5 : decode prog_11_method_4_code 5 = .ok (.iload_n 0, 1) := by decide +kernel
theorem d_Mo_in_6 : decode prog_11_method_4_code 6 = .ok (.iload_n 2, 1) := by decide +kernel
theorem d_Mo_in_7 : decode prog_11_method_4_code 7 = .ok (.if_icmp .gt 7, 3) := by decide +kernel
theorem d_Mo_in_10 : decode prog_11_method_4_code 10 = .ok (.iconst 1, 1) := by decide +kernel
theorem d_Mo_in_11 : decode prog_11_method_4_code 11 = .ok (.goto 4, 3) := by decide +kernel
theorem d_Mo_in_14 : decode prog_11_method_4_code 14 = .ok (.iconst 0, 1) := by decide +kernel
theorem d_Mo_in_15 : decode prog_11_method_4_code 15 = .ok (.ireturn, 1) := by decide +kernel
theorem d_Mo_type_0 : decode prog_11_method_19_code 0 = .ok (.aload_n 0, 1) := by decide +kernel
theorem d_Mo_type_1 : decode prog_11_method_19_code 1 = .ok (.iconst 0, 1) := by decide +kernel
theorem d_Mo_type_2 : decode prog_11_method_19_code 2 = .ok (.putfield 105, 3) := by decide +kernel
theorem d_Mo_type_5 : decode prog_11_method_19_code 5 = .ok (.iload_n 3, 1) := by decide +kernel
theorem d_Mo_type_6 : decode prog_11_method_19_code 6 = .ok (.iconst 1, 1) := by decide +kernel
theorem d_Mo_type_7 : decode prog_11_method_19_code 7 = .ok (.bipush 8, 2) := by decide +kernel
theorem d_Mo_type_9 : decode prog_11_method_19_code 9 = .ok (.invokestatic 139, 3) := by decide +kernel
theorem d_Mo_type_12 : decode prog_11_method_19_code 12 = .ok (.ifCond .eq 14, 3) := by decide +kernel
theorem d_Mo_type_15 : decode prog_11_method_19_code 15 = .ok (.aload_n 0, 1) := by decide +kernel
theorem d_Mo_type_16 : decode prog_11_method_19_code 16 = .ok (.getfield 169, 3) := by decide +kernel
theorem d_Mo_type_19 : decode prog_11_method_19_code 19 = .ok (.iload_n 3, 1) := by decide +kernel
theorem d_Mo_type_20 : decode prog_11_method_19_code 20 = .ok (.iadd, 1) := by decide +kernel
theorem d_Mo_type_21 : decode prog_11_method_19_code 21 = .ok (.bipush 120, 2) := by decide +kernel
theorem d_Mo_type_23 : decode prog_11_method_19_code 23 = .ok (.if_icmp .le 5, 3) := by decide +kernel
theorem d_Mo_type_26 : decode prog_11_method_19_code 26 = .ok (.iconst 0, 1) := by decide +kernel
theorem d_Mo_type_27 : decode prog_11_method_19_code 27 = .ok (.ireturn, 1) := by decide +kernel
theorem d_Mo_type_28 : decode prog_11_method_19_code 28 = .ok (.iload_n 3, 1) := by decide +kernel
theorem d_Mo_type_29 : decode prog_11_method_19_code 29 = .ok (.iconst 1, 1) := by decide +kernel
theorem d_Mo_type_30 : decode prog_11_method_19_code 30 = .ok (.isub, 1) := by decide +kernel
theorem d_Mo_type_31 : decode prog_11_method_19_code 31 = .ok (.istore 4, 2) := by decide +kernel
theorem d_Mo_type_33 : decode prog_11_method_19_code 33 = .ok (.iload 4, 2) := by decide +kernel
theorem d_Mo_type_35 : decode prog_11_method_19_code 35 = .ok (.ifCond .lt 40, 3) := by decide +kernel
theorem d_Mo_type_38 : decode prog_11_method_19_code 38 = .ok (.aload_n 0, 1) := by decide +kernel
theorem d_Mo_type_39 : decode prog_11_method_19_code 39 = .ok (.getfield 7, 3) := by decide +kernel
theorem d_Mo_type_42 : decode prog_11_method_19_code 42 = .ok (.aload_n 0, 1) := by decide +kernel
theorem d_Mo_type_43 : decode prog_11_method_19_code 43 = .ok (.getfield 169, 3) := by decide +kernel
theorem d_Mo_type_46 : decode prog_11_method_19_code 46 = .ok (.lload_n 1, 1) := by decide +kernel
theorem d_Mo_type_47 : decode prog_11_method_19_code 47 = .ok (.bipush 8, 2) := by decide +kernel
theorem d_Mo_type_49 : decode prog_11_method_19_code 49 = .ok (.iload 4, 2) := by decide +kernel
theorem d_Mo_type_51 : decode prog_11_method_19_code 51 = .ok (.imul, 1) := by decide +kernel
theorem d_Mo_type_52 : decode prog_11_method_19_code 52 = .ok (.lshr, 1) := by decide +kernel
theorem d_Mo_type_53 : decode prog_11_method_19_code 53 = .ok (.ldc2_w 172, 3) := by decide +kernel
theorem d_Mo_type_56 : decode prog_11_method_19_code 56 = .ok (.land, 1) := by decide +kernel
theorem d_Mo_type_57 : decode prog_11_method_19_code 57 = .ok (.l2i, 1) := by decide +kernel
theorem d_Mo_type_58 : decode prog_11_method_19_code 58 = .ok (.iastore, 1) := by decide +kernel
theorem d_Mo_type_59 : decode prog_11_method_19_code 59 = .ok (.aload_n 0, 1) := by decide +kernel
theorem d_Mo_type_60 : decode prog_11_method_19_code 60 = .ok (.dup, 1) := by decide +kernel
theorem d_Mo_type_61 : decode prog_11_method_19_code 61 = .ok (.getfield 169, 3) := by decide +kernel
theorem d_Mo_type_64 : decode prog_11_method_19_code 64 = .ok (.iconst 1, 1) := by decide +kernel
theorem d_Mo_type_65 : decode prog_11_method_19_code 65 = .ok (.iadd, 1) := by decide +kernel
theorem d_Mo_type_66 : decode prog_11_method_19_code 66 = .ok (.putfield 169, 3) := by decide +kernel
theorem d_Mo_type_69 : decode prog_11_method_19_code 69 = .ok (.iinc 4 (-1), 3) := by decide +kernel
theorem d_Mo_type_72 : decode prog_11_method_19_code 72 = .ok (.goto (-39), 3) := by decide +kernel
theorem d_Mo_type_75 : decode prog_11_method_19_code 75 = .ok (.iconst 1, 1) := by decide +kernel
theorem d_Mo_type_76 : decode prog_11_method_19_code 76 = .ok (.ireturn, 1) := by decide +kernel
theorem d_Mo_clear_0 : decode prog_11_method_20_code 0 = .ok (.aload_n 0, 1) := by decide +kernel
theorem d_Mo_clear_1 : decode prog_11_method_20_code 1 = .ok (.iconst 0, 1) := by decide +kernel
theorem d_Mo_clear_2 : decode prog_11_method_20_code 2 = .ok (.putfield 105, 3) := by decide +kernel
theorem d_Mo_clear_5 : decode prog_11_method_20_code 5 = .ok (.aload_n 0, 1) := by decide +kernel
theorem d_Mo_clear_6 : decode prog_11_method_20_code 6 = .ok (.iconst 0, 1) := by decide +kernel
theorem d_Mo_clear_7 : decode prog_11_method_20_code 7 = .ok (.putfield 169, 3) := by decide +kernel
theorem d_Mo_clear_10 : decode prog_11_method_20_code 10 = .ok (.return_, 1) := by decide +kernel
theorem d_Mo_push_0 : decode prog_11_method_7_code 0 = .ok (.aload_n 0, 1) := by decide +kernel
theorem d_Mo_push_1 : decode prog_11_method_7_code 1 = .ok (.getfield 62, 3) := by decide +kernel
theorem d_Mo_push_4 : decode prog_11_method_7_code 4 = .ok (.aload_n 0, 1) := by decide +kernel
theorem d_Mo_push_5 : decode prog_11_method_7_code 5 = .ok (.getfield 111, 3) := by decide +kernel
theorem d_Mo_push_8 : decode prog_11_method_7_code 8 = .ok (.iload_n 1, 1) := by decide +kernel
theorem d_Mo_push_9 : decode prog_11_method_7_code 9 = .ok (.iastore, 1) := by decide +kernel
theorem d_Mo_push_10 : decode prog_11_method_7_code 10 = .ok (.aload_n 0, 1) := by decide +kernel
theorem d_Mo_push_11 : decode prog_11_method_7_code 11 = .ok (.getfield 65, 3) := by decide +kernel
theorem d_Mo_push_14 : decode prog_11_method_7_code 14 = .ok (.aload_n 0, 1) := by decide +kernel
theorem d_Mo_push_15 : decode prog_11_method_7_code 15 = .ok (.getfield 111, 3) := by decide +kernel
theorem d_Mo_push_18 : decode prog_11_method_7_code 18 = .ok (.iload_n 2, 1) := by decide +kernel
theorem d_Mo_push_19 : decode prog_11_method_7_code 19 = .ok (.iastore, 1) := by decide +kernel
theorem d_Mo_push_20 : decode prog_11_method_7_code 20 = .ok (.aload_n 0, 1) := by decide +kernel
theorem d_Mo_push_21 : decode prog_11_method_7_code 21 = .ok (.getfield 68, 3) := by decide +kernel
theorem d_Mo_push_24 : decode prog_11_method_7_code 24 = .ok (.aload_n 0, 1) := by decide +kernel
theorem d_Mo_push_25 : decode prog_11_method_7_code 25 = .ok (.getfield 111, 3) := by decide +kernel
theorem d_Mo_push_28 : decode prog_11_method_7_code 28 = .ok (.iload_n 3, 1) := by decide +kernel
theorem d_Mo_push_29 : decode prog_11_method_7_code 29 = .ok (.bastore, 1) := by decide +kernel
theorem d_Mo_push_30 : decode prog_11_method_7_code 30 = .ok (.aload_n 0, 1) := by decide +kernel
theorem d_Mo_push_31 : decode prog_11_method_7_code 31 = .ok (.dup, 1) := by decide +kernel
theorem d_Mo_push_32 : decode prog_11_method_7_code 32 = .ok (.getfield 111, 3) := by decide +kernel
theorem d_Mo_push_35 : decode prog_11_method_7_code 35 = .ok (.iconst 1, 1) := by decide +kernel
theorem d_Mo_push_36 : decode prog_11_method_7_code 36 = .ok (.iadd, 1) := by decide +kernel
theorem d_Mo_push_37 : decode prog_11_method_7_code 37 = .ok (.putfield 111, 3) := by decide +kernel
theorem d_Mo_push_40 : decode prog_11_method_7_code 40 = .ok (.return_, 1) := by decide +kernel
theorem d_Mo_wrong_0 : decode prog_11_method_5_code 0 = .ok (.aload_n 0, 1) := by decide +kernel
theorem d_Mo_wrong_1 : decode prog_11_method_5_code 1 = .ok (.iload_n 1, 1) := by decide +kernel
theorem d_Mo_wrong_2 : decode prog_11_method_5_code 2 = .ok (.bipush 16, 2) := by decide +kernel
theorem d_Mo_wrong_4 : decode prog_11_method_5_code 4 = .ok (.iload_n 2, 1) := by decide +kernel
theorem d_Mo_wrong_5 : decode prog_11_method_5_code 5 = .ok (.imul, 1) := by decide +kernel
theorem d_Mo_wrong_6 : decode prog_11_method_5_code 6 = .ok (.iadd, 1) := by decide +kernel
theorem d_Mo_wrong_7 : decode prog_11_method_5_code 7 = .ok (.putfield 108, 3) := by decide +kernel
theorem d_Mo_wrong_10 : decode prog_11_method_5_code 10 = .ok (.iconst 0, 1) := by decide +kernel
theorem d_Mo_wrong_11 : decode prog_11_method_5_code 11 = .ok (.ireturn, 1) := by decide +kernel
theorem d_Mo_bytesOf_0 : decode prog_11_method_14_code 0 = .ok (.iload_n 0, 1) := by decide +kernel
theorem d_Mo_bytesOf_1 : decode prog_11_method_14_code 1 = .ok (.bipush (-128), 2) := by decide +kernel
theorem d_Mo_bytesOf_3 : decode prog_11_method_14_code 3 = .ok (.bipush 127, 2) := by decide +kernel
theorem d_Mo_bytesOf_5 : decode prog_11_method_14_code 5 = .ok (.invokestatic 139, 3) := by decide +kernel
theorem d_Mo_bytesOf_8 : decode prog_11_method_14_code 8 = .ok (.ifCond .eq 7, 3) := by decide +kernel
theorem d_Mo_bytesOf_11 : decode prog_11_method_14_code 11 = .ok (.iconst 1, 1) := by decide +kernel
theorem d_Mo_bytesOf_12 : decode prog_11_method_14_code 12 = .ok (.goto 36, 3) := by decide +kernel
theorem d_Mo_bytesOf_15 : decode prog_11_method_14_code 15 = .ok (.iload_n 0, 1) := by decide +kernel
theorem d_Mo_bytesOf_16 : decode prog_11_method_14_code 16 = .ok (.sipush (-32768), 3) := by decide +kernel
theorem d_Mo_bytesOf_19 : decode prog_11_method_14_code 19 = .ok (.sipush 32767, 3) := by decide +kernel
theorem d_Mo_bytesOf_22 : decode prog_11_method_14_code 22 = .ok (.invokestatic 139, 3) := by decide +kernel
theorem d_Mo_bytesOf_25 : decode prog_11_method_14_code 25 = .ok (.ifCond .eq 7, 3) := by decide +kernel
theorem d_Mo_bytesOf_28 : decode prog_11_method_14_code 28 = .ok (.iconst 2, 1) := by decide +kernel
theorem d_Mo_bytesOf_29 : decode prog_11_method_14_code 29 = .ok (.goto 19, 3) := by decide +kernel
theorem d_Mo_bytesOf_32 : decode prog_11_method_14_code 32 = .ok (.iload_n 0, 1) := by decide +kernel
theorem d_Mo_bytesOf_33 : decode prog_11_method_14_code 33 = .ok (.ldc 149, 2) := by decide +kernel
theorem d_Mo_bytesOf_35 : decode prog_11_method_14_code 35 = .ok (.ldc 150, 2) := by decide +kernel
theorem d_Mo_bytesOf_37 : decode prog_11_method_14_code 37 = .ok (.invokestatic 139, 3) := by decide +kernel
theorem d_Mo_bytesOf_40 : decode prog_11_method_14_code 40 = .ok (.ifCond .eq 7, 3) := by decide +kernel
theorem d_Mo_bytesOf_43 : decode prog_11_method_14_code 43 = .ok (.iconst 3, 1) := by decide +kernel
theorem d_Mo_bytesOf_44 : decode prog_11_method_14_code 44 = .ok (.goto 4, 3) := by decide +kernel
theorem d_Mo_bytesOf_47 : decode prog_11_method_14_code 47 = .ok (.iconst 4, 1) := by decide +kernel
theorem d_Mo_bytesOf_48 : decode prog_11_method_14_code 48 = .ok (.ireturn, 1) := by decide +kernel
theorem d_Mo_make_0 : decode prog_11_method_16_code 0 = .ok (.aload_n 0, 1) := by decide +kernel
theorem d_Mo_make_1 : decode prog_11_method_16_code 1 = .ok (.getfield 71, 3) := by decide +kernel
theorem d_Mo_make_4 : decode prog_11_method_16_code 4 = .ok (.aload_n 0, 1) := by decide +kernel
theorem d_Mo_make_5 : decode prog_11_method_16_code 5 = .ok (.getfield 155, 3) := by decide +kernel
theorem d_Mo_make_8 : decode prog_11_method_16_code 8 = .ok (.iload_n 1, 1) := by decide +kernel
theorem d_Mo_make_9 : decode prog_11_method_16_code 9 = .ok (.iastore, 1) := by decide +kernel
theorem d_Mo_make_10 : decode prog_11_method_16_code 10 = .ok (.aload_n 0, 1) := by decide +kernel
theorem d_Mo_make_11 : decode prog_11_method_16_code 11 = .ok (.dup, 1) := by decide +kernel
theorem d_Mo_make_12 : decode prog_11_method_16_code 12 = .ok (.getfield 155, 3) := by decide +kernel
theorem d_Mo_make_15 : decode prog_11_method_16_code 15 = .ok (.iconst 1, 1) := by decide +kernel
theorem d_Mo_make_16 : decode prog_11_method_16_code 16 = .ok (.iadd, 1) := by decide +kernel
theorem d_Mo_make_17 : decode prog_11_method_16_code 17 = .ok (.putfield 155, 3) := by decide +kernel
theorem d_Mo_make_20 : decode prog_11_method_16_code 20 = .ok (.return_, 1) := by decide +kernel
theorem d_Mo_fails_0 : decode prog_11_method_3_code 0 = .ok (.aload_n 0, 1) := by decide +kernel
theorem d_Mo_fails_1 : decode prog_11_method_3_code 1 = .ok (.iload_n 1, 1) := by decide +kernel
theorem d_Mo_fails_2 : decode prog_11_method_3_code 2 = .ok (.putfield 105, 3) := by decide +kernel
theorem d_Mo_fails_5 : decode prog_11_method_3_code 5 = .ok (.iconst 0, 1) := by decide +kernel
theorem d_Mo_fails_6 : decode prog_11_method_3_code 6 = .ok (.ireturn, 1) := by decide +kernel
theorem d_Mo_at_0 : decode prog_11_method_24_code 0 = .ok (.aload_n 0, 1) := by decide +kernel
theorem d_Mo_at_1 : decode prog_11_method_24_code 1 = .ok (.iload_n 1, 1) := by decide +kernel
theorem d_Mo_at_2 : decode prog_11_method_24_code 2 = .ok (.iconst (-1), 1) := by decide +kernel
theorem d_Mo_at_3 : decode prog_11_method_24_code 3 = .ok (.aload_n 0, 1) := by decide +kernel
theorem d_Mo_at_4 : decode prog_11_method_24_code 4 = .ok (.getfield 169, 3) := by decide +kernel
theorem d_Mo_at_7 : decode prog_11_method_24_code 7 = .ok (.iconst 1, 1) := by decide +kernel
theorem d_Mo_at_8 : decode prog_11_method_24_code 8 = .ok (.isub, 1) := by decide +kernel
theorem d_Mo_at_9 : decode prog_11_method_24_code 9 = .ok (.invokestatic 139, 3) := by decide +kernel
theorem d_Mo_at_12 : decode prog_11_method_24_code 12 = .ok (.ifCond .eq 7, 3) := by decide +kernel
theorem d_Mo_at_15 : decode prog_11_method_24_code 15 = .ok (.iconst 0, 1) := by decide +kernel
theorem d_Mo_at_16 : decode prog_11_method_24_code 16 = .ok (.goto 4, 3) := by decide +kernel
theorem d_Mo_at_19 : decode prog_11_method_24_code 19 = .ok (.iconst 1, 1) := by decide +kernel
theorem d_Mo_at_20 : decode prog_11_method_24_code 20 = .ok (.putfield 105, 3) := by decide +kernel
theorem d_Mo_at_23 : decode prog_11_method_24_code 23 = .ok (.aload_n 0, 1) := by decide +kernel
theorem d_Mo_at_24 : decode prog_11_method_24_code 24 = .ok (.getfield 105, 3) := by decide +kernel
theorem d_Mo_at_27 : decode prog_11_method_24_code 27 = .ok (.ifCond .le 7, 3) := by decide +kernel
theorem d_Mo_at_30 : decode prog_11_method_24_code 30 = .ok (.iconst 0, 1) := by decide +kernel
theorem d_Mo_at_31 : decode prog_11_method_24_code 31 = .ok (.goto 20, 3) := by decide +kernel
theorem d_Mo_at_34 : decode prog_11_method_24_code 34 = .ok (.iload_n 1, 1) := by decide +kernel
theorem d_Mo_at_35 : decode prog_11_method_24_code 35 = .ok (.ifCond .ge 10, 3) := by decide +kernel
theorem d_Mo_at_38 : decode prog_11_method_24_code 38 = .ok (.aload_n 0, 1) := by decide +kernel
theorem d_Mo_at_39 : decode prog_11_method_24_code 39 = .ok (.getfield 169, 3) := by decide +kernel
theorem d_Mo_at_42 : decode prog_11_method_24_code 42 = .ok (.goto 9, 3) := by decide +kernel
theorem d_Mo_at_45 : decode prog_11_method_24_code 45 = .ok (.aload_n 0, 1) := by decide +kernel
theorem d_Mo_at_46 : decode prog_11_method_24_code 46 = .ok (.getfield 7, 3) := by decide +kernel
theorem d_Mo_at_49 : decode prog_11_method_24_code 49 = .ok (.iload_n 1, 1) := by decide +kernel
theorem d_Mo_at_50 : decode prog_11_method_24_code 50 = .ok (.iaload, 1) := by decide +kernel
theorem d_Mo_at_51 : decode prog_11_method_24_code 51 = .ok (.ireturn, 1) := by decide +kernel
theorem d_Mo_forget_0 : decode prog_11_method_26_code 0 = .ok (.aload_n 0, 1) := by decide +kernel
theorem d_Mo_forget_1 : decode prog_11_method_26_code 1 = .ok (.iconst 0, 1) := by decide +kernel
theorem d_Mo_forget_2 : decode prog_11_method_26_code 2 = .ok (.putfield 198, 3) := by decide +kernel
theorem d_Mo_forget_5 : decode prog_11_method_26_code 5 = .ok (.aload_n 0, 1) := by decide +kernel
theorem d_Mo_forget_6 : decode prog_11_method_26_code 6 = .ok (.iconst 0, 1) := by decide +kernel
theorem d_Mo_forget_7 : decode prog_11_method_26_code 7 = .ok (.putfield 201, 3) := by decide +kernel
theorem d_Mo_forget_10 : decode prog_11_method_26_code 10 = .ok (.aload_n 0, 1) := by decide +kernel
theorem d_Mo_forget_11 : decode prog_11_method_26_code 11 = .ok (.iconst 0, 1) := by decide +kernel
theorem d_Mo_forget_12 : decode prog_11_method_26_code 12 = .ok (.putfield 204, 3) := by decide +kernel
theorem d_Mo_forget_15 : decode prog_11_method_26_code 15 = .ok (.aload_n 0, 1) := by decide +kernel
theorem d_Mo_forget_16 : decode prog_11_method_26_code 16 = .ok (.iconst (-1), 1) := by decide +kernel
theorem d_Mo_forget_17 : decode prog_11_method_26_code 17 = .ok (.putfield 207, 3) := by decide +kernel
theorem d_Mo_forget_20 : decode prog_11_method_26_code 20 = .ok (.return_, 1) := by decide +kernel
theorem d_Mo_comesTo_0 : decode prog_11_method_28_code 0 = .ok (.aload_n 0, 1) := by decide +kernel
theorem d_Mo_comesTo_1 : decode prog_11_method_28_code 1 = .ok (.iload_n 1, 1) := by decide +kernel
theorem d_Mo_comesTo_2 : decode prog_11_method_28_code 2 = .ok (.putfield 186, 3) := by decide +kernel
theorem d_Mo_comesTo_5 : decode prog_11_method_28_code 5 = .ok (.aload_n 0, 1) := by decide +kernel
theorem d_Mo_comesTo_6 : decode prog_11_method_28_code 6 = .ok (.iload_n 1, 1) := by decide +kernel
theorem d_Mo_comesTo_7 : decode prog_11_method_28_code 7 = .ok (.iconst 2, 1) := by decide +kernel
theorem d_Mo_comesTo_8 : decode prog_11_method_28_code 8 = .ok (.if_icmp .ne 7, 3) := by decide +kernel
theorem d_Mo_comesTo_11 : decode prog_11_method_28_code 11 = .ok (.iconst 0, 1) := by decide +kernel
theorem d_Mo_comesTo_12 : decode prog_11_method_28_code 12 = .ok (.goto 4, 3) := by decide +kernel
theorem d_Mo_comesTo_15 : decode prog_11_method_28_code 15 = .ok (.iconst 5, 1) := by decide +kernel
theorem d_Mo_comesTo_16 : decode prog_11_method_28_code 16 = .ok (.putfield 189, 3) := by decide +kernel
theorem d_Mo_comesTo_19 : decode prog_11_method_28_code 19 = .ok (.aload_n 0, 1) := by decide +kernel
theorem d_Mo_comesTo_20 : decode prog_11_method_28_code 20 = .ok (.invokevirtual 195, 3) := by decide +kernel
theorem d_Mo_comesTo_23 : decode prog_11_method_28_code 23 = .ok (.return_, 1) := by decide +kernel
theorem d_Mo_open_0 : decode prog_11_method_30_code 0 = .ok (.aload_n 0, 1) := by decide +kernel
theorem d_Mo_open_1 : decode prog_11_method_30_code 1 = .ok (.iconst 0, 1) := by decide +kernel
theorem d_Mo_open_2 : decode prog_11_method_30_code 2 = .ok (.putfield 105, 3) := by decide +kernel
theorem d_Mo_open_5 : decode prog_11_method_30_code 5 = .ok (.aload_n 0, 1) := by decide +kernel
theorem d_Mo_open_6 : decode prog_11_method_30_code 6 = .ok (.getfield 186, 3) := by decide +kernel
theorem d_Mo_open_9 : decode prog_11_method_30_code 9 = .ok (.ifCond .eq 5, 3) := by decide +kernel
theorem d_Mo_open_12 : decode prog_11_method_30_code 12 = .ok (.iconst 0, 1) := by decide +kernel
theorem d_Mo_open_13 : decode prog_11_method_30_code 13 = .ok (.ireturn, 1) := by decide +kernel
theorem d_Mo_open_14 : decode prog_11_method_30_code 14 = .ok (.aload_n 0, 1) := by decide +kernel
theorem d_Mo_open_15 : decode prog_11_method_30_code 15 = .ok (.iconst 1, 1) := by decide +kernel
theorem d_Mo_open_16 : decode prog_11_method_30_code 16 = .ok (.invokevirtual 219, 3) := by decide +kernel
theorem d_Mo_open_19 : decode prog_11_method_30_code 19 = .ok (.iconst 1, 1) := by decide +kernel
theorem d_Mo_open_20 : decode prog_11_method_30_code 20 = .ok (.ireturn, 1) := by decide +kernel
theorem d_Mo_shut_0 : decode prog_11_method_25_code 0 = .ok (.aload_n 0, 1) := by decide +kernel
theorem d_Mo_shut_1 : decode prog_11_method_25_code 1 = .ok (.iconst 0, 1) := by decide +kernel
theorem d_Mo_shut_2 : decode prog_11_method_25_code 2 = .ok (.putfield 186, 3) := by decide +kernel
theorem d_Mo_shut_5 : decode prog_11_method_25_code 5 = .ok (.aload_n 0, 1) := by decide +kernel
theorem d_Mo_shut_6 : decode prog_11_method_25_code 6 = .ok (.iconst 0, 1) := by decide +kernel
theorem d_Mo_shut_7 : decode prog_11_method_25_code 7 = .ok (.putfield 189, 3) := by decide +kernel
theorem d_Mo_shut_10 : decode prog_11_method_25_code 10 = .ok (.aload_n 0, 1) := by decide +kernel
theorem d_Mo_shut_11 : decode prog_11_method_25_code 11 = .ok (.iconst 0, 1) := by decide +kernel
theorem d_Mo_shut_12 : decode prog_11_method_25_code 12 = .ok (.putfield 192, 3) := by decide +kernel
theorem d_Mo_shut_15 : decode prog_11_method_25_code 15 = .ok (.aload_n 0, 1) := by decide +kernel
theorem d_Mo_shut_16 : decode prog_11_method_25_code 16 = .ok (.invokevirtual 195, 3) := by decide +kernel
theorem d_Mo_shut_19 : decode prog_11_method_25_code 19 = .ok (.return_, 1) := by decide +kernel
theorem d_Mo_close_0 : decode prog_11_method_31_code 0 = .ok (.aload_n 0, 1) := by decide +kernel
theorem d_Mo_close_1 : decode prog_11_method_31_code 1 = .ok (.iconst 0, 1) := by decide +kernel
theorem d_Mo_close_2 : decode prog_11_method_31_code 2 = .ok (.putfield 105, 3) := by decide +kernel
theorem d_Mo_close_5 : decode prog_11_method_31_code 5 = .ok (.aload_n 0, 1) := by decide +kernel
theorem d_Mo_close_6 : decode prog_11_method_31_code 6 = .ok (.getfield 186, 3) := by decide +kernel
theorem d_Mo_close_9 : decode prog_11_method_31_code 9 = .ok (.ifCond .ne 5, 3) := by decide +kernel
theorem d_Mo_close_12 : decode prog_11_method_31_code 12 = .ok (.iconst 0, 1) := by decide +kernel
theorem d_Mo_close_13 : decode prog_11_method_31_code 13 = .ok (.ireturn, 1) := by decide +kernel
theorem d_Mo_close_14 : decode prog_11_method_31_code 14 = .ok (.aload_n 0, 1) := by decide +kernel
theorem d_Mo_close_15 : decode prog_11_method_31_code 15 = .ok (.invokevirtual 213, 3) := by decide +kernel
theorem d_Mo_close_18 : decode prog_11_method_31_code 18 = .ok (.iconst 1, 1) := by decide +kernel
theorem d_Mo_close_19 : decode prog_11_method_31_code 19 = .ok (.ireturn, 1) := by decide +kernel
theorem d_Mo_tick_0 : decode prog_11_method_55_code 0 = .ok (.aload_n 0, 1) := by decide +kernel
theorem d_Mo_tick_1 : decode prog_11_method_55_code 1 = .ok (.iconst 0, 1) := by decide +kernel
theorem d_Mo_tick_2 : decode prog_11_method_55_code 2 = .ok (.putfield 105, 3) := by decide +kernel
theorem d_Mo_tick_5 : decode prog_11_method_55_code 5 = .ok (.aload_n 0, 1) := by decide +kernel
theorem d_Mo_tick_6 : decode prog_11_method_55_code 6 = .ok (.getfield 189, 3) := by decide +kernel
theorem d_Mo_tick_9 : decode prog_11_method_55_code 9 = .ok (.ifCond .le 24, 3) := by decide +kernel
theorem d_Mo_tick_12 : decode prog_11_method_55_code 12 = .ok (.aload_n 0, 1) := by decide +kernel
theorem d_Mo_tick_13 : decode prog_11_method_55_code 13 = .ok (.dup, 1) := by decide +kernel
theorem d_Mo_tick_14 : decode prog_11_method_55_code 14 = .ok (.getfield 189, 3) := by decide +kernel
theorem d_Mo_tick_17 : decode prog_11_method_55_code 17 = .ok (.iconst 1, 1) := by decide +kernel
theorem d_Mo_tick_18 : decode prog_11_method_55_code 18 = .ok (.isub, 1) := by decide +kernel
theorem d_Mo_tick_19 : decode prog_11_method_55_code 19 = .ok (.putfield 189, 3) := by decide +kernel
theorem d_Mo_tick_22 : decode prog_11_method_55_code 22 = .ok (.aload_n 0, 1) := by decide +kernel
theorem d_Mo_tick_23 : decode prog_11_method_55_code 23 = .ok (.getfield 189, 3) := by decide +kernel
theorem d_Mo_tick_26 : decode prog_11_method_55_code 26 = .ok (.ifCond .ne 7, 3) := by decide +kernel
theorem d_Mo_tick_29 : decode prog_11_method_55_code 29 = .ok (.aload_n 0, 1) := by decide +kernel
theorem d_Mo_tick_30 : decode prog_11_method_55_code 30 = .ok (.invokevirtual 213, 3) := by decide +kernel
theorem d_Mo_tick_33 : decode prog_11_method_55_code 33 = .ok (.aload_n 0, 1) := by decide +kernel
theorem d_Mo_tick_34 : decode prog_11_method_55_code 34 = .ok (.getfield 189, 3) := by decide +kernel
theorem d_Mo_tick_37 : decode prog_11_method_55_code 37 = .ok (.ireturn, 1) := by decide +kernel
theorem d_Mo_take_0 : decode prog_11_method_56_code 0 = .ok (.aload_n 0, 1) := by decide +kernel
theorem d_Mo_take_1 : decode prog_11_method_56_code 1 = .ok (.aload_n 0, 1) := by decide +kernel
theorem d_Mo_take_2 : decode prog_11_method_56_code 2 = .ok (.getfield 210, 3) := by decide +kernel
theorem d_Mo_take_5 : decode prog_11_method_56_code 5 = .ok (.ifCond .le 7, 3) := by decide +kernel
theorem d_Mo_take_8 : decode prog_11_method_56_code 8 = .ok (.iconst 0, 1) := by decide +kernel
theorem d_Mo_take_9 : decode prog_11_method_56_code 9 = .ok (.goto 4, 3) := by decide +kernel
theorem d_Mo_take_12 : decode prog_11_method_56_code 12 = .ok (.iconst 1, 1) := by decide +kernel
theorem d_Mo_take_13 : decode prog_11_method_56_code 13 = .ok (.putfield 105, 3) := by decide +kernel
theorem d_Mo_take_16 : decode prog_11_method_56_code 16 = .ok (.aload_n 0, 1) := by decide +kernel
theorem d_Mo_take_17 : decode prog_11_method_56_code 17 = .ok (.getfield 105, 3) := by decide +kernel
theorem d_Mo_take_20 : decode prog_11_method_56_code 20 = .ok (.ifCond .le 5, 3) := by decide +kernel
theorem d_Mo_take_23 : decode prog_11_method_56_code 23 = .ok (.iconst 0, 1) := by decide +kernel
theorem d_Mo_take_24 : decode prog_11_method_56_code 24 = .ok (.ireturn, 1) := by decide +kernel
theorem d_Mo_take_25 : decode prog_11_method_56_code 25 = .ok (.aload_n 0, 1) := by decide +kernel
theorem d_Mo_take_26 : decode prog_11_method_56_code 26 = .ok (.getfield 77, 3) := by decide +kernel
theorem d_Mo_take_29 : decode prog_11_method_56_code 29 = .ok (.iconst 0, 1) := by decide +kernel
theorem d_Mo_take_30 : decode prog_11_method_56_code 30 = .ok (.iaload, 1) := by decide +kernel
theorem d_Mo_take_31 : decode prog_11_method_56_code 31 = .ok (.istore_n 1, 1) := by decide +kernel
theorem d_Mo_take_32 : decode prog_11_method_56_code 32 = .ok (.aload_n 0, 1) := by decide +kernel
theorem d_Mo_take_33 : decode prog_11_method_56_code 33 = .ok (.dup, 1) := by decide +kernel
theorem d_Mo_take_34 : decode prog_11_method_56_code 34 = .ok (.getfield 210, 3) := by decide +kernel
theorem d_Mo_take_37 : decode prog_11_method_56_code 37 = .ok (.iconst 1, 1) := by decide +kernel
theorem d_Mo_take_38 : decode prog_11_method_56_code 38 = .ok (.isub, 1) := by decide +kernel
theorem d_Mo_take_39 : decode prog_11_method_56_code 39 = .ok (.putfield 210, 3) := by decide +kernel
theorem d_Mo_take_42 : decode prog_11_method_56_code 42 = .ok (.iconst 0, 1) := by decide +kernel
theorem d_Mo_take_43 : decode prog_11_method_56_code 43 = .ok (.istore_n 2, 1) := by decide +kernel
theorem d_Mo_take_44 : decode prog_11_method_56_code 44 = .ok (.iload_n 2, 1) := by decide +kernel
theorem d_Mo_take_45 : decode prog_11_method_56_code 45 = .ok (.aload_n 0, 1) := by decide +kernel
theorem d_Mo_take_46 : decode prog_11_method_56_code 46 = .ok (.getfield 210, 3) := by decide +kernel
theorem d_Mo_take_49 : decode prog_11_method_56_code 49 = .ok (.if_icmp .ge 23, 3) := by decide +kernel
theorem d_Mo_take_52 : decode prog_11_method_56_code 52 = .ok (.aload_n 0, 1) := by decide +kernel
theorem d_Mo_take_53 : decode prog_11_method_56_code 53 = .ok (.getfield 77, 3) := by decide +kernel
theorem d_Mo_take_56 : decode prog_11_method_56_code 56 = .ok (.iload_n 2, 1) := by decide +kernel
theorem d_Mo_take_57 : decode prog_11_method_56_code 57 = .ok (.aload_n 0, 1) := by decide +kernel
theorem d_Mo_take_58 : decode prog_11_method_56_code 58 = .ok (.getfield 77, 3) := by decide +kernel
theorem d_Mo_take_61 : decode prog_11_method_56_code 61 = .ok (.iload_n 2, 1) := by decide +kernel
theorem d_Mo_take_62 : decode prog_11_method_56_code 62 = .ok (.iconst 1, 1) := by decide +kernel
theorem d_Mo_take_63 : decode prog_11_method_56_code 63 = .ok (.iadd, 1) := by decide +kernel
theorem d_Mo_take_64 : decode prog_11_method_56_code 64 = .ok (.iaload, 1) := by decide +kernel
theorem d_Mo_take_65 : decode prog_11_method_56_code 65 = .ok (.iastore, 1) := by decide +kernel
theorem d_Mo_take_66 : decode prog_11_method_56_code 66 = .ok (.iinc 2 1, 3) := by decide +kernel
theorem d_Mo_take_69 : decode prog_11_method_56_code 69 = .ok (.goto (-25), 3) := by decide +kernel
theorem d_Mo_take_72 : decode prog_11_method_56_code 72 = .ok (.iload_n 1, 1) := by decide +kernel
theorem d_Mo_take_73 : decode prog_11_method_56_code 73 = .ok (.ireturn, 1) := by decide +kernel
theorem d_Mo_state_0 : decode prog_11_method_57_code 0 = .ok (.aload_n 0, 1) := by decide +kernel
theorem d_Mo_state_1 : decode prog_11_method_57_code 1 = .ok (.iconst 0, 1) := by decide +kernel
theorem d_Mo_state_2 : decode prog_11_method_57_code 2 = .ok (.putfield 105, 3) := by decide +kernel
theorem d_Mo_state_5 : decode prog_11_method_57_code 5 = .ok (.iload_n 1, 1) := by decide +kernel
theorem d_Mo_state_6 : decode prog_11_method_57_code 6 = .ok (.tableswitch 100 0 7 #[46, 51, 56, 61, 66, 71, 90, 95], 46) := by decide +kernel
theorem d_Mo_state_52 : decode prog_11_method_57_code 52 = .ok (.aload_n 0, 1) := by decide +kernel
theorem d_Mo_state_53 : decode prog_11_method_57_code 53 = .ok (.getfield 186, 3) := by decide +kernel
theorem d_Mo_state_56 : decode prog_11_method_57_code 56 = .ok (.ireturn, 1) := by decide +kernel
theorem d_Mo_state_57 : decode prog_11_method_57_code 57 = .ok (.aload_n 0, 1) := by decide +kernel
theorem d_Mo_state_58 : decode prog_11_method_57_code 58 = .ok (.getfield 189, 3) := by decide +kernel
theorem d_Mo_state_61 : decode prog_11_method_57_code 61 = .ok (.ireturn, 1) := by decide +kernel
theorem d_Mo_state_62 : decode prog_11_method_57_code 62 = .ok (.aload_n 0, 1) := by decide +kernel
theorem d_Mo_state_63 : decode prog_11_method_57_code 63 = .ok (.getfield 210, 3) := by decide +kernel
theorem d_Mo_state_66 : decode prog_11_method_57_code 66 = .ok (.ireturn, 1) := by decide +kernel
theorem d_Mo_state_67 : decode prog_11_method_57_code 67 = .ok (.aload_n 0, 1) := by decide +kernel
theorem d_Mo_state_68 : decode prog_11_method_57_code 68 = .ok (.getfield 192, 3) := by decide +kernel
theorem d_Mo_state_71 : decode prog_11_method_57_code 71 = .ok (.ireturn, 1) := by decide +kernel
theorem d_Mo_state_72 : decode prog_11_method_57_code 72 = .ok (.aload_n 0, 1) := by decide +kernel
theorem d_Mo_state_73 : decode prog_11_method_57_code 73 = .ok (.getfield 198, 3) := by decide +kernel
theorem d_Mo_state_76 : decode prog_11_method_57_code 76 = .ok (.ireturn, 1) := by decide +kernel
theorem d_Mo_state_77 : decode prog_11_method_57_code 77 = .ok (.aload_n 0, 1) := by decide +kernel
theorem d_Mo_state_78 : decode prog_11_method_57_code 78 = .ok (.getfield 198, 3) := by decide +kernel
theorem d_Mo_state_81 : decode prog_11_method_57_code 81 = .ok (.ifCond .ne 10, 3) := by decide +kernel
theorem d_Mo_state_84 : decode prog_11_method_57_code 84 = .ok (.aload_n 0, 1) := by decide +kernel
theorem d_Mo_state_85 : decode prog_11_method_57_code 85 = .ok (.getfield 201, 3) := by decide +kernel
theorem d_Mo_state_88 : decode prog_11_method_57_code 88 = .ok (.goto 7, 3) := by decide +kernel
theorem d_Mo_state_91 : decode prog_11_method_57_code 91 = .ok (.aload_n 0, 1) := by decide +kernel
theorem d_Mo_state_92 : decode prog_11_method_57_code 92 = .ok (.getfield 204, 3) := by decide +kernel
theorem d_Mo_state_95 : decode prog_11_method_57_code 95 = .ok (.ireturn, 1) := by decide +kernel
theorem d_Mo_state_96 : decode prog_11_method_57_code 96 = .ok (.aload_n 0, 1) := by decide +kernel
theorem d_Mo_state_97 : decode prog_11_method_57_code 97 = .ok (.getfield 284, 3) := by decide +kernel
theorem d_Mo_state_100 : decode prog_11_method_57_code 100 = .ok (.ireturn, 1) := by decide +kernel
theorem d_Mo_state_101 : decode prog_11_method_57_code 101 = .ok (.aload_n 0, 1) := by decide +kernel
theorem d_Mo_state_102 : decode prog_11_method_57_code 102 = .ok (.getfield 268, 3) := by decide +kernel
theorem d_Mo_state_105 : decode prog_11_method_57_code 105 = .ok (.ireturn, 1) := by decide +kernel
theorem d_Mo_state_106 : decode prog_11_method_57_code 106 = .ok (.iconst (-1), 1) := by decide +kernel
theorem d_Mo_state_107 : decode prog_11_method_57_code 107 = .ok (.ireturn, 1) := by decide +kernel
theorem d_Mo_contextOf_0 : decode prog_11_method_38_code 0 = .ok (.iconst 0, 1) := by decide +kernel
theorem d_Mo_contextOf_1 : decode prog_11_method_38_code 1 = .ok (.istore_n 2, 1) := by decide +kernel
theorem d_Mo_contextOf_2 : decode prog_11_method_38_code 2 = .ok (.iload_n 2, 1) := by decide +kernel
theorem d_Mo_contextOf_3 : decode prog_11_method_38_code 3 = .ok (.aload_n 0, 1) := by decide +kernel
theorem d_Mo_contextOf_4 : decode prog_11_method_38_code 4 = .ok (.getfield 241, 3) := by decide +kernel
theorem d_Mo_contextOf_7 : decode prog_11_method_38_code 7 = .ok (.if_icmp .ge 21, 3) := by decide +kernel
theorem d_Mo_contextOf_10 : decode prog_11_method_38_code 10 = .ok (.aload_n 0, 1) := by decide +kernel
theorem d_Mo_contextOf_11 : decode prog_11_method_38_code 11 = .ok (.getfield 80, 3) := by decide +kernel
theorem d_Mo_contextOf_14 : decode prog_11_method_38_code 14 = .ok (.iload_n 2, 1) := by decide +kernel
theorem d_Mo_contextOf_15 : decode prog_11_method_38_code 15 = .ok (.iaload, 1) := by decide +kernel
theorem d_Mo_contextOf_16 : decode prog_11_method_38_code 16 = .ok (.iload_n 1, 1) := by decide +kernel
theorem d_Mo_contextOf_17 : decode prog_11_method_38_code 17 = .ok (.if_icmp .ne 5, 3) := by decide +kernel
theorem d_Mo_contextOf_20 : decode prog_11_method_38_code 20 = .ok (.iload_n 2, 1) := by decide +kernel
theorem d_Mo_contextOf_21 : decode prog_11_method_38_code 21 = .ok (.ireturn, 1) := by decide +kernel
theorem d_Mo_contextOf_22 : decode prog_11_method_38_code 22 = .ok (.iinc 2 1, 3) := by decide +kernel
theorem d_Mo_contextOf_25 : decode prog_11_method_38_code 25 = .ok (.goto (-23), 3) := by decide +kernel
theorem d_Mo_contextOf_28 : decode prog_11_method_38_code 28 = .ok (.iconst (-1), 1) := by decide +kernel
theorem d_Mo_contextOf_29 : decode prog_11_method_38_code 29 = .ok (.ireturn, 1) := by decide +kernel
theorem d_Mo_context_0 : decode prog_11_method_58_code 0 = .ok (.aload_n 0, 1) := by decide +kernel
theorem d_Mo_context_1 : decode prog_11_method_58_code 1 = .ok (.iconst 0, 1) := by decide +kernel
theorem d_Mo_context_2 : decode prog_11_method_58_code 2 = .ok (.putfield 105, 3) := by decide +kernel
theorem d_Mo_context_5 : decode prog_11_method_58_code 5 = .ok (.aload_n 0, 1) := by decide +kernel
theorem d_Mo_context_6 : decode prog_11_method_58_code 6 = .ok (.getfield 186, 3) := by decide +kernel
theorem d_Mo_context_9 : decode prog_11_method_58_code 9 = .ok (.iconst 2, 1) := by decide +kernel
theorem d_Mo_context_10 : decode prog_11_method_58_code 10 = .ok (.if_icmp .ne 11, 3) := by decide +kernel
theorem d_Mo_context_13 : decode prog_11_method_58_code 13 = .ok (.aload_n 0, 1) := by decide +kernel
theorem d_Mo_context_14 : decode prog_11_method_58_code 14 = .ok (.iload_n 1, 1) := by decide +kernel
theorem d_Mo_context_15 : decode prog_11_method_58_code 15 = .ok (.invokevirtual 244, 3) := by decide +kernel
theorem d_Mo_context_18 : decode prog_11_method_58_code 18 = .ok (.goto 4, 3) := by decide +kernel
theorem d_Mo_context_21 : decode prog_11_method_58_code 21 = .ok (.iconst (-1), 1) := by decide +kernel
theorem d_Mo_context_22 : decode prog_11_method_58_code 22 = .ok (.istore_n 2, 1) := by decide +kernel
theorem d_Mo_context_23 : decode prog_11_method_58_code 23 = .ok (.iload_n 2, 1) := by decide +kernel
theorem d_Mo_context_24 : decode prog_11_method_58_code 24 = .ok (.ifCond .ge 7, 3) := by decide +kernel
theorem d_Mo_context_27 : decode prog_11_method_58_code 27 = .ok (.iconst (-1), 1) := by decide +kernel
theorem d_Mo_context_28 : decode prog_11_method_58_code 28 = .ok (.goto 9, 3) := by decide +kernel
theorem d_Mo_context_31 : decode prog_11_method_58_code 31 = .ok (.aload_n 0, 1) := by decide +kernel
theorem d_Mo_context_32 : decode prog_11_method_58_code 32 = .ok (.getfield 86, 3) := by decide +kernel
theorem d_Mo_context_35 : decode prog_11_method_58_code 35 = .ok (.iload_n 2, 1) := by decide +kernel
theorem d_Mo_context_36 : decode prog_11_method_58_code 36 = .ok (.iaload, 1) := by decide +kernel
theorem d_Mo_context_37 : decode prog_11_method_58_code 37 = .ok (.ireturn, 1) := by decide +kernel
theorem d_Mo_record_0 : decode prog_11_method_59_code 0 = .ok (.aload_n 0, 1) := by decide +kernel
theorem d_Mo_record_1 : decode prog_11_method_59_code 1 = .ok (.iload_n 1, 1) := by decide +kernel
theorem d_Mo_record_2 : decode prog_11_method_59_code 2 = .ok (.iconst 0, 1) := by decide +kernel
theorem d_Mo_record_3 : decode prog_11_method_59_code 3 = .ok (.aload_n 0, 1) := by decide +kernel
theorem d_Mo_record_4 : decode prog_11_method_59_code 4 = .ok (.getfield 284, 3) := by decide +kernel
theorem d_Mo_record_7 : decode prog_11_method_59_code 7 = .ok (.iconst 1, 1) := by decide +kernel
theorem d_Mo_record_8 : decode prog_11_method_59_code 8 = .ok (.isub, 1) := by decide +kernel
theorem d_Mo_record_9 : decode prog_11_method_59_code 9 = .ok (.invokestatic 139, 3) := by decide +kernel
theorem d_Mo_record_12 : decode prog_11_method_59_code 12 = .ok (.ifCond .eq 23, 3) := by decide +kernel
theorem d_Mo_record_15 : decode prog_11_method_59_code 15 = .ok (.iload_n 2, 1) := by decide +kernel
theorem d_Mo_record_16 : decode prog_11_method_59_code 16 = .ok (.iconst (-1), 1) := by decide +kernel
theorem d_Mo_record_17 : decode prog_11_method_59_code 17 = .ok (.aload_n 0, 1) := by decide +kernel
theorem d_Mo_record_18 : decode prog_11_method_59_code 18 = .ok (.getfield 98, 3) := by decide +kernel
theorem d_Mo_record_21 : decode prog_11_method_59_code 21 = .ok (.iload_n 1, 1) := by decide +kernel
theorem d_Mo_record_22 : decode prog_11_method_59_code 22 = .ok (.iaload, 1) := by decide +kernel
theorem d_Mo_record_23 : decode prog_11_method_59_code 23 = .ok (.iconst 1, 1) := by decide +kernel
theorem d_Mo_record_24 : decode prog_11_method_59_code 24 = .ok (.isub, 1) := by decide +kernel
theorem d_Mo_record_25 : decode prog_11_method_59_code 25 = .ok (.invokestatic 139, 3) := by decide +kernel
theorem d_Mo_record_28 : decode prog_11_method_59_code 28 = .ok (.ifCond .eq 7, 3) := by decide +kernel
theorem d_Mo_record_31 : decode prog_11_method_59_code 31 = .ok (.iconst 0, 1) := by decide +kernel
theorem d_Mo_record_32 : decode prog_11_method_59_code 32 = .ok (.goto 4, 3) := by decide +kernel
theorem d_Mo_record_35 : decode prog_11_method_59_code 35 = .ok (.iconst 1, 1) := by decide +kernel
theorem d_Mo_record_36 : decode prog_11_method_59_code 36 = .ok (.putfield 105, 3) := by decide +kernel
theorem d_Mo_record_39 : decode prog_11_method_59_code 39 = .ok (.aload_n 0, 1) := by decide +kernel
theorem d_Mo_record_40 : decode prog_11_method_59_code 40 = .ok (.getfield 105, 3) := by decide +kernel
theorem d_Mo_record_43 : decode prog_11_method_59_code 43 = .ok (.ifCond .le 7, 3) := by decide +kernel
theorem d_Mo_record_46 : decode prog_11_method_59_code 46 = .ok (.iconst 0, 1) := by decide +kernel
theorem d_Mo_record_47 : decode prog_11_method_59_code 47 = .ok (.goto 28, 3) := by decide +kernel
theorem d_Mo_record_50 : decode prog_11_method_59_code 50 = .ok (.iload_n 2, 1) := by decide +kernel
theorem d_Mo_record_51 : decode prog_11_method_59_code 51 = .ok (.ifCond .ge 12, 3) := by decide +kernel
theorem d_Mo_record_54 : decode prog_11_method_59_code 54 = .ok (.aload_n 0, 1) := by decide +kernel
theorem d_Mo_record_55 : decode prog_11_method_59_code 55 = .ok (.getfield 98, 3) := by decide +kernel
theorem d_Mo_record_58 : decode prog_11_method_59_code 58 = .ok (.iload_n 1, 1) := by decide +kernel
theorem d_Mo_record_59 : decode prog_11_method_59_code 59 = .ok (.iaload, 1) := by decide +kernel
theorem d_Mo_record_60 : decode prog_11_method_59_code 60 = .ok (.goto 15, 3) := by decide +kernel
theorem d_Mo_record_63 : decode prog_11_method_59_code 63 = .ok (.aload_n 0, 1) := by decide +kernel
theorem d_Mo_record_64 : decode prog_11_method_59_code 64 = .ok (.getfield 95, 3) := by decide +kernel
theorem d_Mo_record_67 : decode prog_11_method_59_code 67 = .ok (.sipush 200, 3) := by decide +kernel
theorem d_Mo_record_70 : decode prog_11_method_59_code 70 = .ok (.iload_n 1, 1) := by decide +kernel
theorem d_Mo_record_71 : decode prog_11_method_59_code 71 = .ok (.imul, 1) := by decide +kernel
theorem d_Mo_record_72 : decode prog_11_method_59_code 72 = .ok (.iload_n 2, 1) := by decide +kernel
theorem d_Mo_record_73 : decode prog_11_method_59_code 73 = .ok (.iadd, 1) := by decide +kernel
theorem d_Mo_record_74 : decode prog_11_method_59_code 74 = .ok (.iaload, 1) := by decide +kernel
theorem d_Mo_record_75 : decode prog_11_method_59_code 75 = .ok (.ireturn, 1) := by decide +kernel
theorem d_Mo_numberAt_0 : decode prog_11_method_40_code 0 = .ok (.aload_n 0, 1) := by decide +kernel
theorem d_Mo_numberAt_1 : decode prog_11_method_40_code 1 = .ok (.getfield 34, 3) := by decide +kernel
theorem d_Mo_numberAt_4 : decode prog_11_method_40_code 4 = .ok (.iconst 0, 1) := by decide +kernel
theorem d_Mo_numberAt_5 : decode prog_11_method_40_code 5 = .ok (.iaload, 1) := by decide +kernel
theorem d_Mo_numberAt_6 : decode prog_11_method_40_code 6 = .ok (.istore 4, 2) := by decide +kernel
theorem d_Mo_numberAt_8 : decode prog_11_method_40_code 8 = .ok (.iload 4, 2) := by decide +kernel
theorem d_Mo_numberAt_10 : decode prog_11_method_40_code 10 = .ok (.ifCond .lt 44, 3) := by decide +kernel
theorem d_Mo_numberAt_13 : decode prog_11_method_40_code 13 = .ok (.aload_n 0, 1) := by decide +kernel
theorem d_Mo_numberAt_14 : decode prog_11_method_40_code 14 = .ok (.getfield 22, 3) := by decide +kernel
theorem d_Mo_numberAt_17 : decode prog_11_method_40_code 17 = .ok (.iload 4, 2) := by decide +kernel
theorem d_Mo_numberAt_19 : decode prog_11_method_40_code 19 = .ok (.iaload, 1) := by decide +kernel
theorem d_Mo_numberAt_20 : decode prog_11_method_40_code 20 = .ok (.iload_n 1, 1) := by decide +kernel
theorem d_Mo_numberAt_21 : decode prog_11_method_40_code 21 = .ok (.if_icmp .ne 21, 3) := by decide +kernel
theorem d_Mo_numberAt_24 : decode prog_11_method_40_code 24 = .ok (.aload_n 0, 1) := by decide +kernel
theorem d_Mo_numberAt_25 : decode prog_11_method_40_code 25 = .ok (.getfield 25, 3) := by decide +kernel
theorem d_Mo_numberAt_28 : decode prog_11_method_40_code 28 = .ok (.iload 4, 2) := by decide +kernel
theorem d_Mo_numberAt_30 : decode prog_11_method_40_code 30 = .ok (.iaload, 1) := by decide +kernel
theorem d_Mo_numberAt_31 : decode prog_11_method_40_code 31 = .ok (.iload_n 2, 1) := by decide +kernel
theorem d_Mo_numberAt_32 : decode prog_11_method_40_code 32 = .ok (.iload_n 3, 1) := by decide +kernel
theorem d_Mo_numberAt_33 : decode prog_11_method_40_code 33 = .ok (.invokestatic 139, 3) := by decide +kernel
theorem d_Mo_numberAt_36 : decode prog_11_method_40_code 36 = .ok (.ifCond .eq 6, 3) := by decide +kernel
theorem d_Mo_numberAt_39 : decode prog_11_method_40_code 39 = .ok (.iload 4, 2) := by decide +kernel
theorem d_Mo_numberAt_41 : decode prog_11_method_40_code 41 = .ok (.ireturn, 1) := by decide +kernel
theorem d_Mo_numberAt_42 : decode prog_11_method_40_code 42 = .ok (.aload_n 0, 1) := by decide +kernel
theorem d_Mo_numberAt_43 : decode prog_11_method_40_code 43 = .ok (.getfield 37, 3) := by decide +kernel
theorem d_Mo_numberAt_46 : decode prog_11_method_40_code 46 = .ok (.iload 4, 2) := by decide +kernel
theorem d_Mo_numberAt_48 : decode prog_11_method_40_code 48 = .ok (.iaload, 1) := by decide +kernel
theorem d_Mo_numberAt_49 : decode prog_11_method_40_code 49 = .ok (.istore 4, 2) := by decide +kernel
theorem d_Mo_numberAt_51 : decode prog_11_method_40_code 51 = .ok (.goto (-43), 3) := by decide +kernel
theorem d_Mo_numberAt_54 : decode prog_11_method_40_code 54 = .ok (.iconst (-1), 1) := by decide +kernel
theorem d_Mo_numberAt_55 : decode prog_11_method_40_code 55 = .ok (.ireturn, 1) := by decide +kernel
def ws_Mo_thrown : List Cond := .code y_Mo_thrown prog_11_method_2_code 1 (some .int) :: TB
def B_Mo_thrown_0 (s0 : S_Mo) : Option Int32 :=
  some (Mo_code s0)
def F_Mo_thrown (s0 : S_Mo) : Option Int32 := B_Mo_thrown_0 s0
set_option maxRecDepth 100000 in
set_option maxHeartbeats 4000000 in
theorem t_Mo_thrown_0 {p : Program} {l : Launch} {e : Env} {s : State} {m : MethodId} {args : Array Value} {below : List Frame} {meth : Method} {c : Code} {D : va_G} {A : Nat → Prop} {g : Nat → ClassId} {rest : va_W} {a0 : Nat → Nat} {ls : Array Slot} {H : Heap} {locs : List Loc} {s0 : S_Mo} {out : Int32} (X : Cx p s m args meth c prog_11_method_2_code 1 ws_Mo_thrown R_Mo (some .int) D g) (hl : lv_has ls 1 [(0, .ref (a0 0))]) (hI : Iw D A (w_Mo g a0 s0 ++ (rest)) H) (hS : va_S A s.heap H locs) (h : B_Mo_thrown_0  s0 = some out) : W p l e (headSpec ws_Mo_thrown { frames := 0, cells := 0, slots := 0, locals := 0 }).room s m args below meth c H locs 0 0 (MQ below (QcI D A g out (fun (_ : Unit) => w_Mo g a0 s0 ++ (rest))) args s 0 0 A) (F0 m 0 ls []) := by
  have X1 := X
  obtain ⟨hx, hb, hml, hown, hts, hr, hlocks, hKK⟩ := X1
  have ht : ∀ w ∈ TB, w.before args s = true := fun w h => hts w (List.mem_cons_of_mem _ h)
  have hK := hKK.1
  unfold B_Mo_thrown_0 at h
  refine lv_aload_n hx hb d_Mo_thrown_0 rfl (lv_at hl 0 rfl) ?_
  refine gt_Mo_code hx hb ht hown hK hI (ht _ m_817) d_Mo_thrown_1 ?_
  have h9 := Option.some.inj h
  subst h9
  exact W.iret (v := (Mo_code s0)) hx hb hr (fun t ht hW => ⟨⟨_, (), rfl, rfl, ⟨by rw [ht]; exact hI, hKK.moved hW⟩⟩, hS.F ht⟩) hS.2.2 d_Mo_thrown_4
set_option maxRecDepth 100000 in
set_option maxHeartbeats 4000000 in
theorem c_Mo_thrown {l : Launch} {D : va_G} {A : Nat → Prop} {g : Nat → ClassId} {rest : va_W} {a0 : Nat → Nat} {s0 : S_Mo} {out : Int32} (h : F_Mo_thrown s0 = some out) : Met l y_Mo_thrown ws_Mo_thrown { frames := 0, cells := 0, slots := 0, locals := 0 } (PcW D A g [.ref (a0 0)] (w_Mo g a0 s0 ++ (rest))) (QcI D A g out (fun (_ : Unit) => w_Mo g a0 s0 ++ (rest))) 0 0 A := by
  refine Met.ofW (cc := prog_11_method_2_code) (maxL := 1) (ret := (some .int)) (by decide) rfl ?_
  intro p e s m args below meth c s₁ B hml hv
  obtain ⟨rfl, hI, hK⟩ := hv
  have hl := lv_entry [.ref (a0 0)] (n := 1) (Nat.le_of_ble_eq_true rfl)
  rw [lg_entry_eq]
  generalize (lg_sl [.ref (a0 0)] ++ List.replicate (1 - (lg_sl [.ref (a0 0)]).length) Slot.unset).toArray = ls at hl ⊢
  have hl : lv_has ls 1 [(0, .ref (a0 0))] := hl
  exact t_Mo_thrown_0 ⟨B.exec, B.bytes, hml, findClass_of_methodNamed B.named, atoms_spec (ws := ws_Mo_thrown) B.pre, B.returns, B.notSynchronized, hK⟩ (lv_sub hl [0] rfl) hI va_S.rf h
def ws_Mo_in : List Cond := .code y_Mo_in prog_11_method_4_code 3 (some .boolean) :: TB
def B_Mo_in_15 (y0 : Int32) : Option Int32 :=
  (if y0 = 0 ∨ y0 = 1 then some y0 else none)
def B_Mo_in_14 : Option Int32 :=
  (B_Mo_in_15 (0 : Int32))
def B_Mo_in_10 : Option Int32 :=
  (B_Mo_in_15 (1 : Int32))
def B_Mo_in_5 (x0 : Int32) (x2 : Int32) : Option Int32 :=
  (if x2 < x0 then (B_Mo_in_14 ) else (B_Mo_in_10 ))
def B_Mo_in_0 (x0 : Int32) (x1 : Int32) (x2 : Int32) : Option Int32 :=
  (if x0 < x1 then (B_Mo_in_14 ) else (B_Mo_in_5 x0 x2))
def F_Mo_in (x0 : Int32) (x1 : Int32) (x2 : Int32) : Option Int32 := B_Mo_in_0 x0 x1 x2
set_option maxRecDepth 100000 in
set_option maxHeartbeats 4000000 in
theorem t_Mo_in_15 {p : Program} {l : Launch} {e : Env} {s : State} {m : MethodId} {args : Array Value} {below : List Frame} {meth : Method} {c : Code} {D : va_G} {A : Nat → Prop} {g : Nat → ClassId} {rest : va_W} {ls : Array Slot} {H : Heap} {locs : List Loc} {y0 : Int32} {out : Int32} (X : Cx p s m args meth c prog_11_method_4_code 3 ws_Mo_in R_Mo (some .boolean) D g) (hl : lv_has ls 3 []) (hI : Iw D A (rest) H) (hS : va_S A s.heap H locs) (h : B_Mo_in_15  y0 = some out) : W p l e (headSpec ws_Mo_in { frames := 0, cells := 0, slots := 0, locals := 0 }).room s m args below meth c H locs 0 0 (MQ below (QcI D A g out (fun (_ : Unit) => rest)) args s 0 0 A) (F0 m 15 ls [.int y0]) := by
  have X1 := X
  obtain ⟨hx, hb, hml, hown, hts, hr, hlocks, hKK⟩ := X1
  have ht : ∀ w ∈ TB, w.before args s = true := fun w h => hts w (List.mem_cons_of_mem _ h)
  have hK := hKK.1
  unfold B_Mo_in_15 at h
  have hc1 : y0 = 0 ∨ y0 = 1 := by
    by_cases z : y0 = 0 ∨ y0 = 1
    · exact z
    · exact no_s (it_f h z)
  have h := it_t h hc1
  have h9 := Option.some.inj h
  subst h9
  exact W.zret (v := y0) hx hb hr (by rcases hc1 with z | z <;> rw [z] <;> rfl) (fun t ht hW => ⟨⟨_, (), rfl, rfl, ⟨by rw [ht]; exact hI, hKK.moved hW⟩⟩, hS.F ht⟩) hS.2.2 d_Mo_in_15
set_option maxRecDepth 100000 in
set_option maxHeartbeats 4000000 in
theorem t_Mo_in_14 {p : Program} {l : Launch} {e : Env} {s : State} {m : MethodId} {args : Array Value} {below : List Frame} {meth : Method} {c : Code} {D : va_G} {A : Nat → Prop} {g : Nat → ClassId} {rest : va_W} {ls : Array Slot} {H : Heap} {locs : List Loc} {out : Int32} (X : Cx p s m args meth c prog_11_method_4_code 3 ws_Mo_in R_Mo (some .boolean) D g) (hl : lv_has ls 3 []) (hI : Iw D A (rest) H) (hS : va_S A s.heap H locs) (h : B_Mo_in_14   = some out) : W p l e (headSpec ws_Mo_in { frames := 0, cells := 0, slots := 0, locals := 0 }).room s m args below meth c H locs 0 0 (MQ below (QcI D A g out (fun (_ : Unit) => rest)) args s 0 0 A) (F0 m 14 ls []) := by
  have X1 := X
  obtain ⟨hx, hb, hml, hown, hts, hr, hlocks, hKK⟩ := X1
  have ht : ∀ w ∈ TB, w.before args s = true := fun w h => hts w (List.mem_cons_of_mem _ h)
  have hK := hKK.1
  unfold B_Mo_in_14 at h
  refine lv_iconst (v := 0) hx hb d_Mo_in_14 (by decide) ?_
  exact t_Mo_in_15 X (lv_sub hl [] rfl) hI hS h
set_option maxRecDepth 100000 in
set_option maxHeartbeats 4000000 in
theorem t_Mo_in_10 {p : Program} {l : Launch} {e : Env} {s : State} {m : MethodId} {args : Array Value} {below : List Frame} {meth : Method} {c : Code} {D : va_G} {A : Nat → Prop} {g : Nat → ClassId} {rest : va_W} {ls : Array Slot} {H : Heap} {locs : List Loc} {out : Int32} (X : Cx p s m args meth c prog_11_method_4_code 3 ws_Mo_in R_Mo (some .boolean) D g) (hl : lv_has ls 3 []) (hI : Iw D A (rest) H) (hS : va_S A s.heap H locs) (h : B_Mo_in_10   = some out) : W p l e (headSpec ws_Mo_in { frames := 0, cells := 0, slots := 0, locals := 0 }).room s m args below meth c H locs 0 0 (MQ below (QcI D A g out (fun (_ : Unit) => rest)) args s 0 0 A) (F0 m 10 ls []) := by
  have X1 := X
  obtain ⟨hx, hb, hml, hown, hts, hr, hlocks, hKK⟩ := X1
  have ht : ∀ w ∈ TB, w.before args s = true := fun w h => hts w (List.mem_cons_of_mem _ h)
  have hK := hKK.1
  unfold B_Mo_in_10 at h
  refine lv_iconst (v := 1) hx hb d_Mo_in_10 (by decide) ?_
  refine lv_goto (tgt := 15) hx hb d_Mo_in_11 (by decide) ?_
  exact t_Mo_in_15 X (lv_sub hl [] rfl) hI hS h
set_option maxRecDepth 100000 in
set_option maxHeartbeats 4000000 in
theorem t_Mo_in_5 {p : Program} {l : Launch} {e : Env} {s : State} {m : MethodId} {args : Array Value} {below : List Frame} {meth : Method} {c : Code} {D : va_G} {A : Nat → Prop} {g : Nat → ClassId} {rest : va_W} {ls : Array Slot} {H : Heap} {locs : List Loc} {x0 : Int32} {x2 : Int32} {out : Int32} (X : Cx p s m args meth c prog_11_method_4_code 3 ws_Mo_in R_Mo (some .boolean) D g) (hl : lv_has ls 3 [(0, .int x0), (2, .int x2)]) (hI : Iw D A (rest) H) (hS : va_S A s.heap H locs) (h : B_Mo_in_5  x0 x2 = some out) : W p l e (headSpec ws_Mo_in { frames := 0, cells := 0, slots := 0, locals := 0 }).room s m args below meth c H locs 0 0 (MQ below (QcI D A g out (fun (_ : Unit) => rest)) args s 0 0 A) (F0 m 5 ls []) := by
  have X1 := X
  obtain ⟨hx, hb, hml, hown, hts, hr, hlocks, hKK⟩ := X1
  have ht : ∀ w ∈ TB, w.before args s = true := fun w h => hts w (List.mem_cons_of_mem _ h)
  have hK := hKK.1
  unfold B_Mo_in_5 at h
  refine lv_iload_n hx hb d_Mo_in_5 rfl (lv_at hl 0 rfl) ?_
  refine lv_iload_n hx hb d_Mo_in_6 rfl (lv_at hl 1 rfl) ?_
  refine lv_icmp_gt (tgt := 14) hx hb d_Mo_in_7 (by decide) (fun hc => ?_) (fun hc => ?_)
  · have h := it_t h hc
    exact t_Mo_in_14 X (lv_sub hl [] rfl) hI hS h
  · have h := it_f h hc
    exact t_Mo_in_10 X (lv_sub hl [] rfl) hI hS h
set_option maxRecDepth 100000 in
set_option maxHeartbeats 4000000 in
theorem t_Mo_in_0 {p : Program} {l : Launch} {e : Env} {s : State} {m : MethodId} {args : Array Value} {below : List Frame} {meth : Method} {c : Code} {D : va_G} {A : Nat → Prop} {g : Nat → ClassId} {rest : va_W} {ls : Array Slot} {H : Heap} {locs : List Loc} {x0 : Int32} {x1 : Int32} {x2 : Int32} {out : Int32} (X : Cx p s m args meth c prog_11_method_4_code 3 ws_Mo_in R_Mo (some .boolean) D g) (hl : lv_has ls 3 [(0, .int x0), (1, .int x1), (2, .int x2)]) (hI : Iw D A (rest) H) (hS : va_S A s.heap H locs) (h : B_Mo_in_0  x0 x1 x2 = some out) : W p l e (headSpec ws_Mo_in { frames := 0, cells := 0, slots := 0, locals := 0 }).room s m args below meth c H locs 0 0 (MQ below (QcI D A g out (fun (_ : Unit) => rest)) args s 0 0 A) (F0 m 0 ls []) := by
  have X1 := X
  obtain ⟨hx, hb, hml, hown, hts, hr, hlocks, hKK⟩ := X1
  have ht : ∀ w ∈ TB, w.before args s = true := fun w h => hts w (List.mem_cons_of_mem _ h)
  have hK := hKK.1
  unfold B_Mo_in_0 at h
  refine lv_iload_n hx hb d_Mo_in_0 rfl (lv_at hl 0 rfl) ?_
  refine lv_iload_n hx hb d_Mo_in_1 rfl (lv_at hl 1 rfl) ?_
  refine lv_icmp_lt (tgt := 14) hx hb d_Mo_in_2 (by decide) (fun hc => ?_) (fun hc => ?_)
  · have h := it_t h hc
    exact t_Mo_in_14 X (lv_sub hl [] rfl) hI hS h
  · have h := it_f h hc
    exact t_Mo_in_5 X (lv_sub hl [0, 2] rfl) hI hS h
set_option maxRecDepth 100000 in
set_option maxHeartbeats 4000000 in
theorem c_Mo_in {l : Launch} {D : va_G} {A : Nat → Prop} {g : Nat → ClassId} {rest : va_W} {x0 : Int32} {x1 : Int32} {x2 : Int32} {out : Int32} (h : F_Mo_in x0 x1 x2 = some out) : Met l y_Mo_in ws_Mo_in { frames := 0, cells := 0, slots := 0, locals := 0 } (PcW D A g [.int x0, .int x1, .int x2] (rest)) (QcI D A g out (fun (_ : Unit) => rest)) 0 0 A := by
  refine Met.ofW (cc := prog_11_method_4_code) (maxL := 3) (ret := (some .boolean)) (by decide) rfl ?_
  intro p e s m args below meth c s₁ B hml hv
  obtain ⟨rfl, hI, hK⟩ := hv
  have hl := lv_entry [.int x0, .int x1, .int x2] (n := 3) (Nat.le_of_ble_eq_true rfl)
  rw [lg_entry_eq]
  generalize (lg_sl [.int x0, .int x1, .int x2] ++ List.replicate (3 - (lg_sl [.int x0, .int x1, .int x2]).length) Slot.unset).toArray = ls at hl ⊢
  have hl : lv_has ls 3 [(0, .int x0), (1, .int x1), (2, .int x2)] := hl
  exact t_Mo_in_0 ⟨B.exec, B.bytes, hml, findClass_of_methodNamed B.named, atoms_spec (ws := ws_Mo_in) B.pre, B.returns, B.notSynchronized, hK⟩ (lv_sub hl [0, 1, 2] rfl) hI va_S.rf h
def ws_Mo_type : List Cond := .code y_Mo_type prog_11_method_19_code 5 (some .boolean) :: TB
def B_Mo_type_26 (s0 : S_Mo) : Option (Int32 × S_Mo) :=
  some ((0 : Int32), s0)
def B_Mo_type_75 (s0 : S_Mo) : Option (Int32 × S_Mo) :=
  some ((1 : Int32), s0)
def B_Mo_type_38 (k33 : S_Mo × Int64 × Int32 → Option (Int32 × S_Mo)) (s0 : S_Mo) (x1 : Int64) (x4 : Int32) : Option (Int32 × S_Mo) :=
  (if ((Mo_drafted s0) < 0 ∨ 120 ≤ (Mo_drafted s0).toNatClampNeg) then none else (k33 ((Mo_set_drafted (Mo_set_draft s0 (upd (Mo_draft s0) (Mo_drafted s0).toNatClampNeg (((x1 >>> (((8 : Int32) * x4).toInt64 &&& 63)) &&& (255 : Int64)).toInt32))) ((Mo_drafted (Mo_set_draft s0 (upd (Mo_draft s0) (Mo_drafted s0).toNatClampNeg (((x1 >>> (((8 : Int32) * x4).toInt64 &&& 63)) &&& (255 : Int64)).toInt32)))) + (1 : Int32))), x1, (x4 + (-1)))))
def B_Mo_type_33 (k33 : S_Mo × Int64 × Int32 → Option (Int32 × S_Mo)) (s0 : S_Mo) (x1 : Int64) (x4 : Int32) : Option (Int32 × S_Mo) :=
  (if x4 < 0 then (B_Mo_type_75 s0) else (B_Mo_type_38 k33 s0 x1 x4))
def L_Mo_type_33 (v : S_Mo × Int64 × Int32) : Option (Int32 × S_Mo) := lp (fun k33 v => B_Mo_type_33  k33  v.1 v.2.1 v.2.2) FU v
def B_Mo_type_28 (s0 : S_Mo) (x1 : Int64) (x3 : Int32) : Option (Int32 × S_Mo) :=
  (L_Mo_type_33 (s0, x1, (x3 - (1 : Int32))))
def B_Mo_type_15 (s0 : S_Mo) (x1 : Int64) (x3 : Int32) : Option (Int32 × S_Mo) :=
  (if ((Mo_drafted s0) + x3) ≤ (120 : Int32) then (B_Mo_type_28 s0 x1 x3) else (B_Mo_type_26 s0))
def B_Mo_type_0 (s0 : S_Mo) (x1 : Int64) (x3 : Int32) : Option (Int32 × S_Mo) :=
  ((F_Mo_in x3 (1 : Int32) (8 : Int32)).bind fun o1 => (if o1 = 0 then (B_Mo_type_26 (Mo_set_code s0 (0 : Int32))) else (B_Mo_type_15 (Mo_set_code s0 (0 : Int32)) x1 x3)))
def F_Mo_type (s0 : S_Mo) (x1 : Int64) (x3 : Int32) : Option (Int32 × S_Mo) := B_Mo_type_0 s0 x1 x3
set_option maxRecDepth 100000 in
set_option maxHeartbeats 4000000 in
theorem t_Mo_type_26 {p : Program} {l : Launch} {e : Env} {s : State} {m : MethodId} {args : Array Value} {below : List Frame} {meth : Method} {c : Code} {D : va_G} {A : Nat → Prop} {g : Nat → ClassId} {rest : va_W} {a0 : Nat → Nat} {ls : Array Slot} {H : Heap} {locs : List Loc} {s0 : S_Mo} {out : Int32 × S_Mo} (X : Cx p s m args meth c prog_11_method_19_code 5 ws_Mo_type R_Mo (some .boolean) D g) (hl : lv_has ls 5 []) (hI : Iw D A (w_Mo g a0 s0 ++ (rest)) H) (hS : va_S A s.heap H locs) (h : B_Mo_type_26  s0 = some out) : W p l e (headSpec ws_Mo_type { frames := 1, cells := 0, slots := 0, locals := 22 }).room s m args below meth c H locs 0 0 (MQ below (QcI D A g out.1 (fun (_ : Unit) => w_Mo g a0 out.2 ++ (rest))) args s 0 0 A) (F0 m 26 ls []) := by
  have X1 := X
  obtain ⟨hx, hb, hml, hown, hts, hr, hlocks, hKK⟩ := X1
  have ht : ∀ w ∈ TB, w.before args s = true := fun w h => hts w (List.mem_cons_of_mem _ h)
  have hK := hKK.1
  unfold B_Mo_type_26 at h
  refine lv_iconst (v := 0) hx hb d_Mo_type_26 (by decide) ?_
  have h9 := Option.some.inj h
  subst h9
  exact W.zret (v := (0 : Int32)) hx hb hr rfl (fun t ht hW => ⟨⟨_, (), rfl, rfl, ⟨by rw [ht]; exact hI, hKK.moved hW⟩⟩, hS.F ht⟩) hS.2.2 d_Mo_type_27
set_option maxRecDepth 100000 in
set_option maxHeartbeats 4000000 in
theorem t_Mo_type_75 {p : Program} {l : Launch} {e : Env} {s : State} {m : MethodId} {args : Array Value} {below : List Frame} {meth : Method} {c : Code} {D : va_G} {A : Nat → Prop} {g : Nat → ClassId} {rest : va_W} {a0 : Nat → Nat} {ls : Array Slot} {H : Heap} {locs : List Loc} {s0 : S_Mo} {out : Int32 × S_Mo} (X : Cx p s m args meth c prog_11_method_19_code 5 ws_Mo_type R_Mo (some .boolean) D g) (hl : lv_has ls 5 []) (hI : Iw D A (w_Mo g a0 s0 ++ (rest)) H) (hS : va_S A s.heap H locs) (h : B_Mo_type_75  s0 = some out) : W p l e (headSpec ws_Mo_type { frames := 1, cells := 0, slots := 0, locals := 22 }).room s m args below meth c H locs 0 0 (MQ below (QcI D A g out.1 (fun (_ : Unit) => w_Mo g a0 out.2 ++ (rest))) args s 0 0 A) (F0 m 75 ls []) := by
  have X1 := X
  obtain ⟨hx, hb, hml, hown, hts, hr, hlocks, hKK⟩ := X1
  have ht : ∀ w ∈ TB, w.before args s = true := fun w h => hts w (List.mem_cons_of_mem _ h)
  have hK := hKK.1
  unfold B_Mo_type_75 at h
  refine lv_iconst (v := 1) hx hb d_Mo_type_75 (by decide) ?_
  have h9 := Option.some.inj h
  subst h9
  exact W.zret (v := (1 : Int32)) hx hb hr rfl (fun t ht hW => ⟨⟨_, (), rfl, rfl, ⟨by rw [ht]; exact hI, hKK.moved hW⟩⟩, hS.F ht⟩) hS.2.2 d_Mo_type_76
set_option maxRecDepth 100000 in
set_option maxHeartbeats 4000000 in
theorem t_Mo_type_38 {p : Program} {l : Launch} {e : Env} {s : State} {m : MethodId} {args : Array Value} {below : List Frame} {meth : Method} {c : Code} {D : va_G} {A : Nat → Prop} {g : Nat → ClassId} {rest : va_W} {a0 : Nat → Nat} {ls : Array Slot} {H : Heap} {locs : List Loc} {k33 : S_Mo × Int64 × Int32 → Option (Int32 × S_Mo)} {s0 : S_Mo} {x1 : Int64} {x4 : Int32} {out : Int32 × S_Mo} (X : Cx p s m args meth c prog_11_method_19_code 5 ws_Mo_type R_Mo (some .boolean) D g) (hk33 : ∀ (v : S_Mo × Int64 × Int32) (ls : Array Slot) (H : Heap) (locs : List Loc), lv_has ls 5 [(0, .ref (a0 0)), (1, .long v.2.1), (4, .int v.2.2)] → Iw D A (w_Mo g a0 v.1 ++ (rest)) H → va_S A s.heap H locs → k33 v = some out → W p l e (headSpec ws_Mo_type { frames := 1, cells := 0, slots := 0, locals := 22 }).room s m args below meth c H locs 0 0 (MQ below (QcI D A g out.1 (fun (_ : Unit) => w_Mo g a0 out.2 ++ (rest))) args s 0 0 A) (F0 m 33 ls [])) (hl : lv_has ls 5 [(0, .ref (a0 0)), (1, .long x1), (4, .int x4)]) (hI : Iw D A (w_Mo g a0 s0 ++ (rest)) H) (hS : va_S A s.heap H locs) (h : B_Mo_type_38 k33 s0 x1 x4 = some out) : W p l e (headSpec ws_Mo_type { frames := 1, cells := 0, slots := 0, locals := 22 }).room s m args below meth c H locs 0 0 (MQ below (QcI D A g out.1 (fun (_ : Unit) => w_Mo g a0 out.2 ++ (rest))) args s 0 0 A) (F0 m 38 ls []) := by
  have X1 := X
  obtain ⟨hx, hb, hml, hown, hts, hr, hlocks, hKK⟩ := X1
  have ht : ∀ w ∈ TB, w.before args s = true := fun w h => hts w (List.mem_cons_of_mem _ h)
  have hK := hKK.1
  unfold B_Mo_type_38 at h
  refine lv_aload_n hx hb d_Mo_type_38 rfl (lv_at hl 0 rfl) ?_
  refine gt_Mo_draft hx hb ht hown hK hI (ht _ m_818) d_Mo_type_39 ?_
  refine lv_aload_n hx hb d_Mo_type_42 rfl (lv_at hl 0 rfl) ?_
  refine gt_Mo_drafted hx hb ht hown hK hI (ht _ m_819) d_Mo_type_43 ?_
  refine lv_lload_n hx hb d_Mo_type_46 rfl (lv_at hl 1 rfl) ?_
  refine lv_bipush (v := 8) hx hb d_Mo_type_47 (by decide) ?_
  refine lv_iload hx hb d_Mo_type_49 (lv_at hl 2 rfl) ?_
  refine lv_imul hx hb d_Mo_type_51 ?_
  refine lv_lshr hx hb d_Mo_type_52 rfl ?_
  refine lv_ldc2 (v := 255) hx hb hown (ht _ m_978) d_Mo_type_53 ?_
  refine lv_land hx hb d_Mo_type_56 ?_
  refine lv_l2i hx hb d_Mo_type_57 rfl ?_
  by_cases hc1 : ((Mo_drafted s0) < 0 ∨ 120 ≤ (Mo_drafted s0).toNatClampNeg)
  · exact no_s (it_t h hc1)
  have h := it_f h hc1
  refine as_Mo_draft hx hb hK hI hS hc1 d_Mo_type_58 (fun H locs hI hS => ?_)
  refine lv_aload_n hx hb d_Mo_type_59 rfl (lv_at hl 0 rfl) ?_
  refine lv_dup hx hb d_Mo_type_60 rfl ?_
  refine gt_Mo_drafted hx hb ht hown hK hI (ht _ m_819) d_Mo_type_61 ?_
  refine lv_iconst (v := 1) hx hb d_Mo_type_64 (by decide) ?_
  refine lv_iadd hx hb d_Mo_type_65 ?_
  refine pt_Mo_drafted hx hb ht hown hK hI hS (ht _ m_819) d_Mo_type_66 (fun H locs hI hS => ?_)
  refine lv_iinc (k := 2) (v := (x4 + (-1))) hx hb d_Mo_type_69 hl rfl (congrArg (fun z => x4 + z) (by decide)) (Nat.le_of_ble_eq_true rfl) rfl (fun ls hl => ?_)
  have hl : lv_has ls 5 [(4, .int (x4 + (-1))), (0, .ref (a0 0)), (1, .long x1)] := hl
  refine lv_goto (tgt := 33) hx hb d_Mo_type_72 (by decide) ?_
  exact hk33 ((Mo_set_drafted (Mo_set_draft s0 (upd (Mo_draft s0) (Mo_drafted s0).toNatClampNeg (((x1 >>> (((8 : Int32) * x4).toInt64 &&& 63)) &&& (255 : Int64)).toInt32))) ((Mo_drafted (Mo_set_draft s0 (upd (Mo_draft s0) (Mo_drafted s0).toNatClampNeg (((x1 >>> (((8 : Int32) * x4).toInt64 &&& 63)) &&& (255 : Int64)).toInt32)))) + (1 : Int32))), x1, (x4 + (-1))) _ _ _ (lv_sub hl [1, 2, 0] rfl) hI hS h
set_option maxRecDepth 100000 in
set_option maxHeartbeats 4000000 in
theorem t_Mo_type_33 {p : Program} {l : Launch} {e : Env} {s : State} {m : MethodId} {args : Array Value} {below : List Frame} {meth : Method} {c : Code} {D : va_G} {A : Nat → Prop} {g : Nat → ClassId} {rest : va_W} {a0 : Nat → Nat} {ls : Array Slot} {H : Heap} {locs : List Loc} {k33 : S_Mo × Int64 × Int32 → Option (Int32 × S_Mo)} {s0 : S_Mo} {x1 : Int64} {x4 : Int32} {out : Int32 × S_Mo} (X : Cx p s m args meth c prog_11_method_19_code 5 ws_Mo_type R_Mo (some .boolean) D g) (hk33 : ∀ (v : S_Mo × Int64 × Int32) (ls : Array Slot) (H : Heap) (locs : List Loc), lv_has ls 5 [(0, .ref (a0 0)), (1, .long v.2.1), (4, .int v.2.2)] → Iw D A (w_Mo g a0 v.1 ++ (rest)) H → va_S A s.heap H locs → k33 v = some out → W p l e (headSpec ws_Mo_type { frames := 1, cells := 0, slots := 0, locals := 22 }).room s m args below meth c H locs 0 0 (MQ below (QcI D A g out.1 (fun (_ : Unit) => w_Mo g a0 out.2 ++ (rest))) args s 0 0 A) (F0 m 33 ls [])) (hl : lv_has ls 5 [(0, .ref (a0 0)), (1, .long x1), (4, .int x4)]) (hI : Iw D A (w_Mo g a0 s0 ++ (rest)) H) (hS : va_S A s.heap H locs) (h : B_Mo_type_33 k33 s0 x1 x4 = some out) : W p l e (headSpec ws_Mo_type { frames := 1, cells := 0, slots := 0, locals := 22 }).room s m args below meth c H locs 0 0 (MQ below (QcI D A g out.1 (fun (_ : Unit) => w_Mo g a0 out.2 ++ (rest))) args s 0 0 A) (F0 m 33 ls []) := by
  have X1 := X
  obtain ⟨hx, hb, hml, hown, hts, hr, hlocks, hKK⟩ := X1
  have ht : ∀ w ∈ TB, w.before args s = true := fun w h => hts w (List.mem_cons_of_mem _ h)
  have hK := hKK.1
  unfold B_Mo_type_33 at h
  refine lv_iload hx hb d_Mo_type_33 (lv_at hl 2 rfl) ?_
  refine lv_if_lt (tgt := 75) hx hb d_Mo_type_35 (by decide) (fun hc => ?_) (fun hc => ?_)
  · have h := it_t h hc
    exact t_Mo_type_75 X (lv_sub hl [] rfl) hI hS h
  · have h := it_f h hc
    exact t_Mo_type_38 X hk33 (lv_sub hl [0, 1, 2] rfl) hI hS h
set_option maxRecDepth 100000 in
set_option maxHeartbeats 4000000 in
theorem T_Mo_type_33 {p : Program} {l : Launch} {e : Env} {s : State} {m : MethodId} {args : Array Value} {below : List Frame} {meth : Method} {c : Code} {D : va_G} {A : Nat → Prop} {g : Nat → ClassId} {rest : va_W} {a0 : Nat → Nat} {ls : Array Slot} {H : Heap} {locs : List Loc} {s0 : S_Mo} {x1 : Int64} {x4 : Int32} {out : Int32 × S_Mo} (X : Cx p s m args meth c prog_11_method_19_code 5 ws_Mo_type R_Mo (some .boolean) D g) (hl : lv_has ls 5 [(0, .ref (a0 0)), (1, .long x1), (4, .int x4)]) (hI : Iw D A (w_Mo g a0 s0 ++ (rest)) H) (hS : va_S A s.heap H locs) (h : L_Mo_type_33   (s0, x1, x4) = some out) : W p l e (headSpec ws_Mo_type { frames := 1, cells := 0, slots := 0, locals := 22 }).room s m args below meth c H locs 0 0 (MQ below (QcI D A g out.1 (fun (_ : Unit) => w_Mo g a0 out.2 ++ (rest))) args s 0 0 A) (F0 m 33 ls []) := by
  unfold L_Mo_type_33 at h
  exact lp_ind (P := fun v => ∀ (ls : Array Slot) (H : Heap) (locs : List Loc), lv_has ls 5 [(0, .ref (a0 0)), (1, .long v.2.1), (4, .int v.2.2)] → Iw D A (w_Mo g a0 v.1 ++ (rest)) H → va_S A s.heap H locs → W p l e (headSpec ws_Mo_type { frames := 1, cells := 0, slots := 0, locals := 22 }).room s m args below meth c H locs 0 0 (MQ below (QcI D A g out.1 (fun (_ : Unit) => w_Mo g a0 out.2 ++ (rest))) args s 0 0 A) (F0 m 33 ls [])) (fun k v ih hb ls H locs  hl hI hS => t_Mo_type_33 X  (fun v' ls H locs  hl hI hS h' => ih v' h' ls H locs  hl hI hS) hl hI hS hb) FU _ h ls H locs  hl hI hS
set_option maxRecDepth 100000 in
set_option maxHeartbeats 4000000 in
theorem t_Mo_type_28 {p : Program} {l : Launch} {e : Env} {s : State} {m : MethodId} {args : Array Value} {below : List Frame} {meth : Method} {c : Code} {D : va_G} {A : Nat → Prop} {g : Nat → ClassId} {rest : va_W} {a0 : Nat → Nat} {ls : Array Slot} {H : Heap} {locs : List Loc} {s0 : S_Mo} {x1 : Int64} {x3 : Int32} {out : Int32 × S_Mo} (X : Cx p s m args meth c prog_11_method_19_code 5 ws_Mo_type R_Mo (some .boolean) D g) (hl : lv_has ls 5 [(0, .ref (a0 0)), (1, .long x1), (3, .int x3)]) (hI : Iw D A (w_Mo g a0 s0 ++ (rest)) H) (hS : va_S A s.heap H locs) (h : B_Mo_type_28  s0 x1 x3 = some out) : W p l e (headSpec ws_Mo_type { frames := 1, cells := 0, slots := 0, locals := 22 }).room s m args below meth c H locs 0 0 (MQ below (QcI D A g out.1 (fun (_ : Unit) => w_Mo g a0 out.2 ++ (rest))) args s 0 0 A) (F0 m 28 ls []) := by
  have X1 := X
  obtain ⟨hx, hb, hml, hown, hts, hr, hlocks, hKK⟩ := X1
  have ht : ∀ w ∈ TB, w.before args s = true := fun w h => hts w (List.mem_cons_of_mem _ h)
  have hK := hKK.1
  unfold B_Mo_type_28 at h
  refine lv_iload_n hx hb d_Mo_type_28 rfl (lv_at hl 2 rfl) ?_
  refine lv_iconst (v := 1) hx hb d_Mo_type_29 (by decide) ?_
  refine lv_isub hx hb d_Mo_type_30 ?_
  refine lv_istore hx hb d_Mo_type_31 hl (Nat.le_of_ble_eq_true rfl) rfl (fun ls hl => ?_)
  have hl : lv_has ls 5 [(4, .int (x3 - (1 : Int32))), (0, .ref (a0 0)), (1, .long x1), (3, .int x3)] := hl
  exact T_Mo_type_33 X (lv_sub hl [1, 2, 0] rfl) hI hS h
set_option maxRecDepth 100000 in
set_option maxHeartbeats 4000000 in
theorem t_Mo_type_15 {p : Program} {l : Launch} {e : Env} {s : State} {m : MethodId} {args : Array Value} {below : List Frame} {meth : Method} {c : Code} {D : va_G} {A : Nat → Prop} {g : Nat → ClassId} {rest : va_W} {a0 : Nat → Nat} {ls : Array Slot} {H : Heap} {locs : List Loc} {s0 : S_Mo} {x1 : Int64} {x3 : Int32} {out : Int32 × S_Mo} (X : Cx p s m args meth c prog_11_method_19_code 5 ws_Mo_type R_Mo (some .boolean) D g) (hl : lv_has ls 5 [(0, .ref (a0 0)), (1, .long x1), (3, .int x3)]) (hI : Iw D A (w_Mo g a0 s0 ++ (rest)) H) (hS : va_S A s.heap H locs) (h : B_Mo_type_15  s0 x1 x3 = some out) : W p l e (headSpec ws_Mo_type { frames := 1, cells := 0, slots := 0, locals := 22 }).room s m args below meth c H locs 0 0 (MQ below (QcI D A g out.1 (fun (_ : Unit) => w_Mo g a0 out.2 ++ (rest))) args s 0 0 A) (F0 m 15 ls []) := by
  have X1 := X
  obtain ⟨hx, hb, hml, hown, hts, hr, hlocks, hKK⟩ := X1
  have ht : ∀ w ∈ TB, w.before args s = true := fun w h => hts w (List.mem_cons_of_mem _ h)
  have hK := hKK.1
  unfold B_Mo_type_15 at h
  refine lv_aload_n hx hb d_Mo_type_15 rfl (lv_at hl 0 rfl) ?_
  refine gt_Mo_drafted hx hb ht hown hK hI (ht _ m_819) d_Mo_type_16 ?_
  refine lv_iload_n hx hb d_Mo_type_19 rfl (lv_at hl 2 rfl) ?_
  refine lv_iadd hx hb d_Mo_type_20 ?_
  refine lv_bipush (v := 120) hx hb d_Mo_type_21 (by decide) ?_
  refine lv_icmp_le (tgt := 28) hx hb d_Mo_type_23 (by decide) (fun hc => ?_) (fun hc => ?_)
  · have h := it_t h hc
    exact t_Mo_type_28 X (lv_sub hl [0, 1, 2] rfl) hI hS h
  · have h := it_f h hc
    exact t_Mo_type_26 X (lv_sub hl [] rfl) hI hS h
set_option maxRecDepth 100000 in
set_option maxHeartbeats 4000000 in
theorem t_Mo_type_0 {p : Program} {l : Launch} {e : Env} {s : State} {m : MethodId} {args : Array Value} {below : List Frame} {meth : Method} {c : Code} {D : va_G} {A : Nat → Prop} {g : Nat → ClassId} {rest : va_W} {a0 : Nat → Nat} {ls : Array Slot} {H : Heap} {locs : List Loc} {s0 : S_Mo} {x1 : Int64} {x3 : Int32} {out : Int32 × S_Mo} (X : Cx p s m args meth c prog_11_method_19_code 5 ws_Mo_type R_Mo (some .boolean) D g) (hl : lv_has ls 5 [(0, .ref (a0 0)), (1, .long x1), (3, .int x3)]) (hI : Iw D A (w_Mo g a0 s0 ++ (rest)) H) (hS : va_S A s.heap H locs) (h : B_Mo_type_0  s0 x1 x3 = some out) : W p l e (headSpec ws_Mo_type { frames := 1, cells := 0, slots := 0, locals := 22 }).room s m args below meth c H locs 0 0 (MQ below (QcI D A g out.1 (fun (_ : Unit) => w_Mo g a0 out.2 ++ (rest))) args s 0 0 A) (F0 m 0 ls []) := by
  have X1 := X
  obtain ⟨hx, hb, hml, hown, hts, hr, hlocks, hKK⟩ := X1
  have ht : ∀ w ∈ TB, w.before args s = true := fun w h => hts w (List.mem_cons_of_mem _ h)
  have hK := hKK.1
  unfold B_Mo_type_0 at h
  refine lv_aload_n hx hb d_Mo_type_0 rfl (lv_at hl 0 rfl) ?_
  refine lv_iconst (v := 0) hx hb d_Mo_type_1 (by decide) ?_
  refine pt_Mo_code hx hb ht hown hK hI hS (ht _ m_817) d_Mo_type_2 (fun H locs hI hS => ?_)
  refine lv_iload_n hx hb d_Mo_type_5 rfl (lv_at hl 2 rfl) ?_
  refine lv_iconst (v := 1) hx hb d_Mo_type_6 (by decide) ?_
  refine lv_bipush (v := 8) hx hb d_Mo_type_7 (by decide) ?_
  obtain ⟨o1, ho2, h⟩ := bd_s h
  refine cl_i (W1 := fun (_ : Unit) => w_Mo g a0 (Mo_set_code s0 (0 : Int32)) ++ (rest)) (va_runS (As := [.int x3, .int (1 : Int32), .int (8 : Int32)]) (rest := []) ⟨hx, hb, hml, hown, ht⟩ (c_Mo_in (l := l) (D := D) (A := A) (g := g) (rest := w_Mo g a0 (Mo_set_code s0 (0 : Int32)) ++ (rest))  ho2) (va_cwS 3 ht (gd_S m_975 m_976 m_11 m_977) rfl rfl rfl (by decide +kernel) ⟨(Nat.le_of_ble_eq_true rfl), (Nat.le_of_ble_eq_true rfl)⟩) (prS hKK hI (List.Perm.refl _)) rfl rfl hl.1 rfl (lv_room (Nat.le_of_ble_eq_true rfl)) d_Mo_type_9 ⟨(Nat.le_of_ble_eq_true rfl), (Nat.le_of_ble_eq_true rfl)⟩) hS (fun _ => ((List.Perm.refl _)).symm) (fun _ H locs hI hS => ?_)
  have hI : Iw D A (w_Mo g a0 (Mo_set_code s0 (0 : Int32)) ++ (rest)) H := hI
  refine lv_if_eq (tgt := 26) hx hb d_Mo_type_12 (by decide) (fun hc => ?_) (fun hc => ?_)
  · have h := it_t h hc
    exact t_Mo_type_26 X (lv_sub hl [] rfl) hI hS h
  · have h := it_f h hc
    exact t_Mo_type_15 X (lv_sub hl [0, 1, 2] rfl) hI hS h
set_option maxRecDepth 100000 in
set_option maxHeartbeats 4000000 in
theorem c_Mo_type {l : Launch} {D : va_G} {A : Nat → Prop} {g : Nat → ClassId} {rest : va_W} {a0 : Nat → Nat} {s0 : S_Mo} {x1 : Int64} {x3 : Int32} {out : Int32 × S_Mo} (h : F_Mo_type s0 x1 x3 = some out) : Met l y_Mo_type ws_Mo_type { frames := 1, cells := 0, slots := 0, locals := 22 } (PcW D A g [.ref (a0 0), .long x1, .int x3] (w_Mo g a0 s0 ++ (rest))) (QcI D A g out.1 (fun (_ : Unit) => w_Mo g a0 out.2 ++ (rest))) 0 0 A := by
  refine Met.ofW (cc := prog_11_method_19_code) (maxL := 5) (ret := (some .boolean)) (by decide) rfl ?_
  intro p e s m args below meth c s₁ B hml hv
  obtain ⟨rfl, hI, hK⟩ := hv
  have hl := lv_entry [.ref (a0 0), .long x1, .int x3] (n := 5) (Nat.le_of_ble_eq_true rfl)
  rw [lg_entry_eq]
  generalize (lg_sl [.ref (a0 0), .long x1, .int x3] ++ List.replicate (5 - (lg_sl [.ref (a0 0), .long x1, .int x3]).length) Slot.unset).toArray = ls at hl ⊢
  have hl : lv_has ls 5 [(0, .ref (a0 0)), (1, .long x1), (3, .int x3)] := hl
  exact t_Mo_type_0 ⟨B.exec, B.bytes, hml, findClass_of_methodNamed B.named, atoms_spec (ws := ws_Mo_type) B.pre, B.returns, B.notSynchronized, hK⟩ (lv_sub hl [0, 1, 2] rfl) hI va_S.rf h
def ws_Mo_clear : List Cond := .code y_Mo_clear prog_11_method_20_code 1 none :: TB
def B_Mo_clear_0 (s0 : S_Mo) : Option S_Mo :=
  some (Mo_set_drafted (Mo_set_code s0 (0 : Int32)) (0 : Int32))
def F_Mo_clear (s0 : S_Mo) : Option S_Mo := B_Mo_clear_0 s0
set_option maxRecDepth 100000 in
set_option maxHeartbeats 4000000 in
theorem t_Mo_clear_0 {p : Program} {l : Launch} {e : Env} {s : State} {m : MethodId} {args : Array Value} {below : List Frame} {meth : Method} {c : Code} {D : va_G} {A : Nat → Prop} {g : Nat → ClassId} {rest : va_W} {a0 : Nat → Nat} {ls : Array Slot} {H : Heap} {locs : List Loc} {s0 : S_Mo} {out : S_Mo} (X : Cx p s m args meth c prog_11_method_20_code 1 ws_Mo_clear R_Mo none D g) (hl : lv_has ls 1 [(0, .ref (a0 0))]) (hI : Iw D A (w_Mo g a0 s0 ++ (rest)) H) (hS : va_S A s.heap H locs) (h : B_Mo_clear_0  s0 = some out) : W p l e (headSpec ws_Mo_clear { frames := 0, cells := 0, slots := 0, locals := 0 }).room s m args below meth c H locs 0 0 (MQ below (QcV D A g (fun (_ : Unit) => w_Mo g a0 out ++ (rest))) args s 0 0 A) (F0 m 0 ls []) := by
  have X1 := X
  obtain ⟨hx, hb, hml, hown, hts, hr, hlocks, hKK⟩ := X1
  have ht : ∀ w ∈ TB, w.before args s = true := fun w h => hts w (List.mem_cons_of_mem _ h)
  have hK := hKK.1
  unfold B_Mo_clear_0 at h
  refine lv_aload_n hx hb d_Mo_clear_0 rfl (lv_at hl 0 rfl) ?_
  refine lv_iconst (v := 0) hx hb d_Mo_clear_1 (by decide) ?_
  refine pt_Mo_code hx hb ht hown hK hI hS (ht _ m_817) d_Mo_clear_2 (fun H locs hI hS => ?_)
  refine lv_aload_n hx hb d_Mo_clear_5 rfl (lv_at hl 0 rfl) ?_
  refine lv_iconst (v := 0) hx hb d_Mo_clear_6 (by decide) ?_
  refine pt_Mo_drafted hx hb ht hown hK hI hS (ht _ m_819) d_Mo_clear_7 (fun H locs hI hS => ?_)
  have h9 := Option.some.inj h
  subst h9
  exact W.vret hx hb hr (fun t ht hW => ⟨⟨(), rfl, trivial, ⟨by rw [ht]; exact hI, hKK.moved hW⟩⟩, hS.F ht⟩) hS.2.2 d_Mo_clear_10
set_option maxRecDepth 100000 in
set_option maxHeartbeats 4000000 in
theorem c_Mo_clear {l : Launch} {D : va_G} {A : Nat → Prop} {g : Nat → ClassId} {rest : va_W} {a0 : Nat → Nat} {s0 : S_Mo} {out : S_Mo} (h : F_Mo_clear s0 = some out) : Met l y_Mo_clear ws_Mo_clear { frames := 0, cells := 0, slots := 0, locals := 0 } (PcW D A g [.ref (a0 0)] (w_Mo g a0 s0 ++ (rest))) (QcV D A g (fun (_ : Unit) => w_Mo g a0 out ++ (rest))) 0 0 A := by
  refine Met.ofW (cc := prog_11_method_20_code) (maxL := 1) (ret := none) (by decide) rfl ?_
  intro p e s m args below meth c s₁ B hml hv
  obtain ⟨rfl, hI, hK⟩ := hv
  have hl := lv_entry [.ref (a0 0)] (n := 1) (Nat.le_of_ble_eq_true rfl)
  rw [lg_entry_eq]
  generalize (lg_sl [.ref (a0 0)] ++ List.replicate (1 - (lg_sl [.ref (a0 0)]).length) Slot.unset).toArray = ls at hl ⊢
  have hl : lv_has ls 1 [(0, .ref (a0 0))] := hl
  exact t_Mo_clear_0 ⟨B.exec, B.bytes, hml, findClass_of_methodNamed B.named, atoms_spec (ws := ws_Mo_clear) B.pre, B.returns, B.notSynchronized, hK⟩ (lv_sub hl [0] rfl) hI va_S.rf h
def ws_Mo_push : List Cond := .code y_Mo_push prog_11_method_7_code 4 none :: TB
def B_Mo_push_0 (s0 : S_Mo) (x1 : Int32) (x2 : Int32) (x3 : Int32) : Option S_Mo :=
  (if ((Mo_depth s0) < 0 ∨ 6 ≤ (Mo_depth s0).toNatClampNeg) then none else (if ((Mo_depth (Mo_set_node s0 (upd (Mo_node s0) (Mo_depth s0).toNatClampNeg x1))) < 0 ∨ 6 ≤ (Mo_depth (Mo_set_node s0 (upd (Mo_node s0) (Mo_depth s0).toNatClampNeg x1))).toNatClampNeg) then none else (if ((Mo_depth (Mo_set_end (Mo_set_node s0 (upd (Mo_node s0) (Mo_depth s0).toNatClampNeg x1)) (upd (Mo_end (Mo_set_node s0 (upd (Mo_node s0) (Mo_depth s0).toNatClampNeg x1))) (Mo_depth (Mo_set_node s0 (upd (Mo_node s0) (Mo_depth s0).toNatClampNeg x1))).toNatClampNeg x2))) < 0 ∨ 6 ≤ (Mo_depth (Mo_set_end (Mo_set_node s0 (upd (Mo_node s0) (Mo_depth s0).toNatClampNeg x1)) (upd (Mo_end (Mo_set_node s0 (upd (Mo_node s0) (Mo_depth s0).toNatClampNeg x1))) (Mo_depth (Mo_set_node s0 (upd (Mo_node s0) (Mo_depth s0).toNatClampNeg x1))).toNatClampNeg x2))).toNatClampNeg) then none else some (Mo_set_depth (Mo_set_loose (Mo_set_end (Mo_set_node s0 (upd (Mo_node s0) (Mo_depth s0).toNatClampNeg x1)) (upd (Mo_end (Mo_set_node s0 (upd (Mo_node s0) (Mo_depth s0).toNatClampNeg x1))) (Mo_depth (Mo_set_node s0 (upd (Mo_node s0) (Mo_depth s0).toNatClampNeg x1))).toNatClampNeg x2)) (upd (Mo_loose (Mo_set_end (Mo_set_node s0 (upd (Mo_node s0) (Mo_depth s0).toNatClampNeg x1)) (upd (Mo_end (Mo_set_node s0 (upd (Mo_node s0) (Mo_depth s0).toNatClampNeg x1))) (Mo_depth (Mo_set_node s0 (upd (Mo_node s0) (Mo_depth s0).toNatClampNeg x1))).toNatClampNeg x2))) (Mo_depth (Mo_set_end (Mo_set_node s0 (upd (Mo_node s0) (Mo_depth s0).toNatClampNeg x1)) (upd (Mo_end (Mo_set_node s0 (upd (Mo_node s0) (Mo_depth s0).toNatClampNeg x1))) (Mo_depth (Mo_set_node s0 (upd (Mo_node s0) (Mo_depth s0).toNatClampNeg x1))).toNatClampNeg x2))).toNatClampNeg (vp_nar .boolean x3))) ((Mo_depth (Mo_set_loose (Mo_set_end (Mo_set_node s0 (upd (Mo_node s0) (Mo_depth s0).toNatClampNeg x1)) (upd (Mo_end (Mo_set_node s0 (upd (Mo_node s0) (Mo_depth s0).toNatClampNeg x1))) (Mo_depth (Mo_set_node s0 (upd (Mo_node s0) (Mo_depth s0).toNatClampNeg x1))).toNatClampNeg x2)) (upd (Mo_loose (Mo_set_end (Mo_set_node s0 (upd (Mo_node s0) (Mo_depth s0).toNatClampNeg x1)) (upd (Mo_end (Mo_set_node s0 (upd (Mo_node s0) (Mo_depth s0).toNatClampNeg x1))) (Mo_depth (Mo_set_node s0 (upd (Mo_node s0) (Mo_depth s0).toNatClampNeg x1))).toNatClampNeg x2))) (Mo_depth (Mo_set_end (Mo_set_node s0 (upd (Mo_node s0) (Mo_depth s0).toNatClampNeg x1)) (upd (Mo_end (Mo_set_node s0 (upd (Mo_node s0) (Mo_depth s0).toNatClampNeg x1))) (Mo_depth (Mo_set_node s0 (upd (Mo_node s0) (Mo_depth s0).toNatClampNeg x1))).toNatClampNeg x2))).toNatClampNeg (vp_nar .boolean x3)))) + (1 : Int32))))))
def F_Mo_push (s0 : S_Mo) (x1 : Int32) (x2 : Int32) (x3 : Int32) : Option S_Mo := B_Mo_push_0 s0 x1 x2 x3
set_option maxRecDepth 100000 in
set_option maxHeartbeats 4000000 in
theorem t_Mo_push_0 {p : Program} {l : Launch} {e : Env} {s : State} {m : MethodId} {args : Array Value} {below : List Frame} {meth : Method} {c : Code} {D : va_G} {A : Nat → Prop} {g : Nat → ClassId} {rest : va_W} {a0 : Nat → Nat} {ls : Array Slot} {H : Heap} {locs : List Loc} {s0 : S_Mo} {x1 : Int32} {x2 : Int32} {x3 : Int32} {out : S_Mo} (X : Cx p s m args meth c prog_11_method_7_code 4 ws_Mo_push R_Mo none D g) (hl : lv_has ls 4 [(0, .ref (a0 0)), (1, .int x1), (2, .int x2), (3, .int x3)]) (hI : Iw D A (w_Mo g a0 s0 ++ (rest)) H) (hS : va_S A s.heap H locs) (h : B_Mo_push_0  s0 x1 x2 x3 = some out) : W p l e (headSpec ws_Mo_push { frames := 0, cells := 0, slots := 0, locals := 0 }).room s m args below meth c H locs 0 0 (MQ below (QcV D A g (fun (_ : Unit) => w_Mo g a0 out ++ (rest))) args s 0 0 A) (F0 m 0 ls []) := by
  have X1 := X
  obtain ⟨hx, hb, hml, hown, hts, hr, hlocks, hKK⟩ := X1
  have ht : ∀ w ∈ TB, w.before args s = true := fun w h => hts w (List.mem_cons_of_mem _ h)
  have hK := hKK.1
  unfold B_Mo_push_0 at h
  refine lv_aload_n hx hb d_Mo_push_0 rfl (lv_at hl 0 rfl) ?_
  refine gt_Mo_node hx hb ht hown hK hI (ht _ m_838) d_Mo_push_1 ?_
  refine lv_aload_n hx hb d_Mo_push_4 rfl (lv_at hl 0 rfl) ?_
  refine gt_Mo_depth hx hb ht hown hK hI (ht _ m_837) d_Mo_push_5 ?_
  refine lv_iload_n hx hb d_Mo_push_8 rfl (lv_at hl 1 rfl) ?_
  by_cases hc1 : ((Mo_depth s0) < 0 ∨ 6 ≤ (Mo_depth s0).toNatClampNeg)
  · exact no_s (it_t h hc1)
  have h := it_f h hc1
  refine as_Mo_node hx hb hK hI hS hc1 d_Mo_push_9 (fun H locs hI hS => ?_)
  refine lv_aload_n hx hb d_Mo_push_10 rfl (lv_at hl 0 rfl) ?_
  refine gt_Mo_end hx hb ht hown hK hI (ht _ m_839) d_Mo_push_11 ?_
  refine lv_aload_n hx hb d_Mo_push_14 rfl (lv_at hl 0 rfl) ?_
  refine gt_Mo_depth hx hb ht hown hK hI (ht _ m_837) d_Mo_push_15 ?_
  refine lv_iload_n hx hb d_Mo_push_18 rfl (lv_at hl 2 rfl) ?_
  by_cases hc2 : ((Mo_depth (Mo_set_node s0 (upd (Mo_node s0) (Mo_depth s0).toNatClampNeg x1))) < 0 ∨ 6 ≤ (Mo_depth (Mo_set_node s0 (upd (Mo_node s0) (Mo_depth s0).toNatClampNeg x1))).toNatClampNeg)
  · exact no_s (it_t h hc2)
  have h := it_f h hc2
  refine as_Mo_end hx hb hK hI hS hc2 d_Mo_push_19 (fun H locs hI hS => ?_)
  refine lv_aload_n hx hb d_Mo_push_20 rfl (lv_at hl 0 rfl) ?_
  refine gt_Mo_loose hx hb ht hown hK hI (ht _ m_840) d_Mo_push_21 ?_
  refine lv_aload_n hx hb d_Mo_push_24 rfl (lv_at hl 0 rfl) ?_
  refine gt_Mo_depth hx hb ht hown hK hI (ht _ m_837) d_Mo_push_25 ?_
  refine lv_iload_n hx hb d_Mo_push_28 rfl (lv_at hl 3 rfl) ?_
  by_cases hc3 : ((Mo_depth (Mo_set_end (Mo_set_node s0 (upd (Mo_node s0) (Mo_depth s0).toNatClampNeg x1)) (upd (Mo_end (Mo_set_node s0 (upd (Mo_node s0) (Mo_depth s0).toNatClampNeg x1))) (Mo_depth (Mo_set_node s0 (upd (Mo_node s0) (Mo_depth s0).toNatClampNeg x1))).toNatClampNeg x2))) < 0 ∨ 6 ≤ (Mo_depth (Mo_set_end (Mo_set_node s0 (upd (Mo_node s0) (Mo_depth s0).toNatClampNeg x1)) (upd (Mo_end (Mo_set_node s0 (upd (Mo_node s0) (Mo_depth s0).toNatClampNeg x1))) (Mo_depth (Mo_set_node s0 (upd (Mo_node s0) (Mo_depth s0).toNatClampNeg x1))).toNatClampNeg x2))).toNatClampNeg)
  · exact no_s (it_t h hc3)
  have h := it_f h hc3
  refine as_Mo_loose hx hb hK hI hS hc3 d_Mo_push_29 (fun H locs hI hS => ?_)
  refine lv_aload_n hx hb d_Mo_push_30 rfl (lv_at hl 0 rfl) ?_
  refine lv_dup hx hb d_Mo_push_31 rfl ?_
  refine gt_Mo_depth hx hb ht hown hK hI (ht _ m_837) d_Mo_push_32 ?_
  refine lv_iconst (v := 1) hx hb d_Mo_push_35 (by decide) ?_
  refine lv_iadd hx hb d_Mo_push_36 ?_
  refine pt_Mo_depth hx hb ht hown hK hI hS (ht _ m_837) d_Mo_push_37 (fun H locs hI hS => ?_)
  have h9 := Option.some.inj h
  subst h9
  exact W.vret hx hb hr (fun t ht hW => ⟨⟨(), rfl, trivial, ⟨by rw [ht]; exact hI, hKK.moved hW⟩⟩, hS.F ht⟩) hS.2.2 d_Mo_push_40
set_option maxRecDepth 100000 in
set_option maxHeartbeats 4000000 in
theorem c_Mo_push {l : Launch} {D : va_G} {A : Nat → Prop} {g : Nat → ClassId} {rest : va_W} {a0 : Nat → Nat} {s0 : S_Mo} {x1 : Int32} {x2 : Int32} {x3 : Int32} {out : S_Mo} (h : F_Mo_push s0 x1 x2 x3 = some out) : Met l y_Mo_push ws_Mo_push { frames := 0, cells := 0, slots := 0, locals := 0 } (PcW D A g [.ref (a0 0), .int x1, .int x2, .int x3] (w_Mo g a0 s0 ++ (rest))) (QcV D A g (fun (_ : Unit) => w_Mo g a0 out ++ (rest))) 0 0 A := by
  refine Met.ofW (cc := prog_11_method_7_code) (maxL := 4) (ret := none) (by decide) rfl ?_
  intro p e s m args below meth c s₁ B hml hv
  obtain ⟨rfl, hI, hK⟩ := hv
  have hl := lv_entry [.ref (a0 0), .int x1, .int x2, .int x3] (n := 4) (Nat.le_of_ble_eq_true rfl)
  rw [lg_entry_eq]
  generalize (lg_sl [.ref (a0 0), .int x1, .int x2, .int x3] ++ List.replicate (4 - (lg_sl [.ref (a0 0), .int x1, .int x2, .int x3]).length) Slot.unset).toArray = ls at hl ⊢
  have hl : lv_has ls 4 [(0, .ref (a0 0)), (1, .int x1), (2, .int x2), (3, .int x3)] := hl
  exact t_Mo_push_0 ⟨B.exec, B.bytes, hml, findClass_of_methodNamed B.named, atoms_spec (ws := ws_Mo_push) B.pre, B.returns, B.notSynchronized, hK⟩ (lv_sub hl [0, 1, 2, 3] rfl) hI va_S.rf h
def ws_Mo_wrong : List Cond := .code y_Mo_wrong prog_11_method_5_code 3 (some .boolean) :: TB
def B_Mo_wrong_0 (s0 : S_Mo) (x1 : Int32) (x2 : Int32) : Option (Int32 × S_Mo) :=
  some ((0 : Int32), (Mo_set_fault s0 (x1 + ((16 : Int32) * x2))))
def F_Mo_wrong (s0 : S_Mo) (x1 : Int32) (x2 : Int32) : Option (Int32 × S_Mo) := B_Mo_wrong_0 s0 x1 x2
set_option maxRecDepth 100000 in
set_option maxHeartbeats 4000000 in
theorem t_Mo_wrong_0 {p : Program} {l : Launch} {e : Env} {s : State} {m : MethodId} {args : Array Value} {below : List Frame} {meth : Method} {c : Code} {D : va_G} {A : Nat → Prop} {g : Nat → ClassId} {rest : va_W} {a0 : Nat → Nat} {ls : Array Slot} {H : Heap} {locs : List Loc} {s0 : S_Mo} {x1 : Int32} {x2 : Int32} {out : Int32 × S_Mo} (X : Cx p s m args meth c prog_11_method_5_code 3 ws_Mo_wrong R_Mo (some .boolean) D g) (hl : lv_has ls 3 [(0, .ref (a0 0)), (1, .int x1), (2, .int x2)]) (hI : Iw D A (w_Mo g a0 s0 ++ (rest)) H) (hS : va_S A s.heap H locs) (h : B_Mo_wrong_0  s0 x1 x2 = some out) : W p l e (headSpec ws_Mo_wrong { frames := 0, cells := 0, slots := 0, locals := 0 }).room s m args below meth c H locs 0 0 (MQ below (QcI D A g out.1 (fun (_ : Unit) => w_Mo g a0 out.2 ++ (rest))) args s 0 0 A) (F0 m 0 ls []) := by
  have X1 := X
  obtain ⟨hx, hb, hml, hown, hts, hr, hlocks, hKK⟩ := X1
  have ht : ∀ w ∈ TB, w.before args s = true := fun w h => hts w (List.mem_cons_of_mem _ h)
  have hK := hKK.1
  unfold B_Mo_wrong_0 at h
  refine lv_aload_n hx hb d_Mo_wrong_0 rfl (lv_at hl 0 rfl) ?_
  refine lv_iload_n hx hb d_Mo_wrong_1 rfl (lv_at hl 1 rfl) ?_
  refine lv_bipush (v := 16) hx hb d_Mo_wrong_2 (by decide) ?_
  refine lv_iload_n hx hb d_Mo_wrong_4 rfl (lv_at hl 2 rfl) ?_
  refine lv_imul hx hb d_Mo_wrong_5 ?_
  refine lv_iadd hx hb d_Mo_wrong_6 ?_
  refine pt_Mo_fault hx hb ht hown hK hI hS (ht _ m_821) d_Mo_wrong_7 (fun H locs hI hS => ?_)
  refine lv_iconst (v := 0) hx hb d_Mo_wrong_10 (by decide) ?_
  have h9 := Option.some.inj h
  subst h9
  exact W.zret (v := (0 : Int32)) hx hb hr rfl (fun t ht hW => ⟨⟨_, (), rfl, rfl, ⟨by rw [ht]; exact hI, hKK.moved hW⟩⟩, hS.F ht⟩) hS.2.2 d_Mo_wrong_11
set_option maxRecDepth 100000 in
set_option maxHeartbeats 4000000 in
theorem c_Mo_wrong {l : Launch} {D : va_G} {A : Nat → Prop} {g : Nat → ClassId} {rest : va_W} {a0 : Nat → Nat} {s0 : S_Mo} {x1 : Int32} {x2 : Int32} {out : Int32 × S_Mo} (h : F_Mo_wrong s0 x1 x2 = some out) : Met l y_Mo_wrong ws_Mo_wrong { frames := 0, cells := 0, slots := 0, locals := 0 } (PcW D A g [.ref (a0 0), .int x1, .int x2] (w_Mo g a0 s0 ++ (rest))) (QcI D A g out.1 (fun (_ : Unit) => w_Mo g a0 out.2 ++ (rest))) 0 0 A := by
  refine Met.ofW (cc := prog_11_method_5_code) (maxL := 3) (ret := (some .boolean)) (by decide) rfl ?_
  intro p e s m args below meth c s₁ B hml hv
  obtain ⟨rfl, hI, hK⟩ := hv
  have hl := lv_entry [.ref (a0 0), .int x1, .int x2] (n := 3) (Nat.le_of_ble_eq_true rfl)
  rw [lg_entry_eq]
  generalize (lg_sl [.ref (a0 0), .int x1, .int x2] ++ List.replicate (3 - (lg_sl [.ref (a0 0), .int x1, .int x2]).length) Slot.unset).toArray = ls at hl ⊢
  have hl : lv_has ls 3 [(0, .ref (a0 0)), (1, .int x1), (2, .int x2)] := hl
  exact t_Mo_wrong_0 ⟨B.exec, B.bytes, hml, findClass_of_methodNamed B.named, atoms_spec (ws := ws_Mo_wrong) B.pre, B.returns, B.notSynchronized, hK⟩ (lv_sub hl [0, 1, 2] rfl) hI va_S.rf h
def ws_Mo_bytesOf : List Cond := .code y_Mo_bytesOf prog_11_method_14_code 1 (some .int) :: TB
def B_Mo_bytesOf_48 (y0 : Int32) : Option Int32 :=
  some y0
def B_Mo_bytesOf_47 : Option Int32 :=
  (B_Mo_bytesOf_48 (4 : Int32))
def B_Mo_bytesOf_43 : Option Int32 :=
  (B_Mo_bytesOf_48 (3 : Int32))
def B_Mo_bytesOf_32 (x0 : Int32) : Option Int32 :=
  ((F_Mo_in x0 ((-8388608) : Int32) (8388607 : Int32)).bind fun o1 => (if o1 = 0 then (B_Mo_bytesOf_47 ) else (B_Mo_bytesOf_43 )))
def B_Mo_bytesOf_28 : Option Int32 :=
  (B_Mo_bytesOf_48 (2 : Int32))
def B_Mo_bytesOf_15 (x0 : Int32) : Option Int32 :=
  ((F_Mo_in x0 ((-32768) : Int32) (32767 : Int32)).bind fun o1 => (if o1 = 0 then (B_Mo_bytesOf_32 x0) else (B_Mo_bytesOf_28 )))
def B_Mo_bytesOf_11 : Option Int32 :=
  (B_Mo_bytesOf_48 (1 : Int32))
def B_Mo_bytesOf_0 (x0 : Int32) : Option Int32 :=
  ((F_Mo_in x0 ((-128) : Int32) (127 : Int32)).bind fun o1 => (if o1 = 0 then (B_Mo_bytesOf_15 x0) else (B_Mo_bytesOf_11 )))
def F_Mo_bytesOf (x0 : Int32) : Option Int32 := B_Mo_bytesOf_0 x0
set_option maxRecDepth 100000 in
set_option maxHeartbeats 4000000 in
theorem t_Mo_bytesOf_48 {p : Program} {l : Launch} {e : Env} {s : State} {m : MethodId} {args : Array Value} {below : List Frame} {meth : Method} {c : Code} {D : va_G} {A : Nat → Prop} {g : Nat → ClassId} {rest : va_W} {ls : Array Slot} {H : Heap} {locs : List Loc} {y0 : Int32} {out : Int32} (X : Cx p s m args meth c prog_11_method_14_code 1 ws_Mo_bytesOf R_Mo (some .int) D g) (hl : lv_has ls 1 []) (hI : Iw D A (rest) H) (hS : va_S A s.heap H locs) (h : B_Mo_bytesOf_48  y0 = some out) : W p l e (headSpec ws_Mo_bytesOf { frames := 1, cells := 0, slots := 0, locals := 22 }).room s m args below meth c H locs 0 0 (MQ below (QcI D A g out (fun (_ : Unit) => rest)) args s 0 0 A) (F0 m 48 ls [.int y0]) := by
  have X1 := X
  obtain ⟨hx, hb, hml, hown, hts, hr, hlocks, hKK⟩ := X1
  have ht : ∀ w ∈ TB, w.before args s = true := fun w h => hts w (List.mem_cons_of_mem _ h)
  have hK := hKK.1
  unfold B_Mo_bytesOf_48 at h
  have h9 := Option.some.inj h
  subst h9
  exact W.iret (v := y0) hx hb hr (fun t ht hW => ⟨⟨_, (), rfl, rfl, ⟨by rw [ht]; exact hI, hKK.moved hW⟩⟩, hS.F ht⟩) hS.2.2 d_Mo_bytesOf_48
set_option maxRecDepth 100000 in
set_option maxHeartbeats 4000000 in
theorem t_Mo_bytesOf_47 {p : Program} {l : Launch} {e : Env} {s : State} {m : MethodId} {args : Array Value} {below : List Frame} {meth : Method} {c : Code} {D : va_G} {A : Nat → Prop} {g : Nat → ClassId} {rest : va_W} {ls : Array Slot} {H : Heap} {locs : List Loc} {out : Int32} (X : Cx p s m args meth c prog_11_method_14_code 1 ws_Mo_bytesOf R_Mo (some .int) D g) (hl : lv_has ls 1 []) (hI : Iw D A (rest) H) (hS : va_S A s.heap H locs) (h : B_Mo_bytesOf_47   = some out) : W p l e (headSpec ws_Mo_bytesOf { frames := 1, cells := 0, slots := 0, locals := 22 }).room s m args below meth c H locs 0 0 (MQ below (QcI D A g out (fun (_ : Unit) => rest)) args s 0 0 A) (F0 m 47 ls []) := by
  have X1 := X
  obtain ⟨hx, hb, hml, hown, hts, hr, hlocks, hKK⟩ := X1
  have ht : ∀ w ∈ TB, w.before args s = true := fun w h => hts w (List.mem_cons_of_mem _ h)
  have hK := hKK.1
  unfold B_Mo_bytesOf_47 at h
  refine lv_iconst (v := 4) hx hb d_Mo_bytesOf_47 (by decide) ?_
  exact t_Mo_bytesOf_48 X (lv_sub hl [] rfl) hI hS h
set_option maxRecDepth 100000 in
set_option maxHeartbeats 4000000 in
theorem t_Mo_bytesOf_43 {p : Program} {l : Launch} {e : Env} {s : State} {m : MethodId} {args : Array Value} {below : List Frame} {meth : Method} {c : Code} {D : va_G} {A : Nat → Prop} {g : Nat → ClassId} {rest : va_W} {ls : Array Slot} {H : Heap} {locs : List Loc} {out : Int32} (X : Cx p s m args meth c prog_11_method_14_code 1 ws_Mo_bytesOf R_Mo (some .int) D g) (hl : lv_has ls 1 []) (hI : Iw D A (rest) H) (hS : va_S A s.heap H locs) (h : B_Mo_bytesOf_43   = some out) : W p l e (headSpec ws_Mo_bytesOf { frames := 1, cells := 0, slots := 0, locals := 22 }).room s m args below meth c H locs 0 0 (MQ below (QcI D A g out (fun (_ : Unit) => rest)) args s 0 0 A) (F0 m 43 ls []) := by
  have X1 := X
  obtain ⟨hx, hb, hml, hown, hts, hr, hlocks, hKK⟩ := X1
  have ht : ∀ w ∈ TB, w.before args s = true := fun w h => hts w (List.mem_cons_of_mem _ h)
  have hK := hKK.1
  unfold B_Mo_bytesOf_43 at h
  refine lv_iconst (v := 3) hx hb d_Mo_bytesOf_43 (by decide) ?_
  refine lv_goto (tgt := 48) hx hb d_Mo_bytesOf_44 (by decide) ?_
  exact t_Mo_bytesOf_48 X (lv_sub hl [] rfl) hI hS h
set_option maxRecDepth 100000 in
set_option maxHeartbeats 4000000 in
theorem t_Mo_bytesOf_32 {p : Program} {l : Launch} {e : Env} {s : State} {m : MethodId} {args : Array Value} {below : List Frame} {meth : Method} {c : Code} {D : va_G} {A : Nat → Prop} {g : Nat → ClassId} {rest : va_W} {ls : Array Slot} {H : Heap} {locs : List Loc} {x0 : Int32} {out : Int32} (X : Cx p s m args meth c prog_11_method_14_code 1 ws_Mo_bytesOf R_Mo (some .int) D g) (hl : lv_has ls 1 [(0, .int x0)]) (hI : Iw D A (rest) H) (hS : va_S A s.heap H locs) (h : B_Mo_bytesOf_32  x0 = some out) : W p l e (headSpec ws_Mo_bytesOf { frames := 1, cells := 0, slots := 0, locals := 22 }).room s m args below meth c H locs 0 0 (MQ below (QcI D A g out (fun (_ : Unit) => rest)) args s 0 0 A) (F0 m 32 ls []) := by
  have X1 := X
  obtain ⟨hx, hb, hml, hown, hts, hr, hlocks, hKK⟩ := X1
  have ht : ∀ w ∈ TB, w.before args s = true := fun w h => hts w (List.mem_cons_of_mem _ h)
  have hK := hKK.1
  unfold B_Mo_bytesOf_32 at h
  refine lv_iload_n hx hb d_Mo_bytesOf_32 rfl (lv_at hl 0 rfl) ?_
  refine lv_ldc (v := (-8388608)) hx hb hown (ht _ m_1042) d_Mo_bytesOf_33 ?_
  refine lv_ldc (v := 8388607) hx hb hown (ht _ m_1043) d_Mo_bytesOf_35 ?_
  obtain ⟨o1, ho2, h⟩ := bd_s h
  refine cl_i (W1 := fun (_ : Unit) => rest) (va_runS (As := [.int x0, .int ((-8388608) : Int32), .int (8388607 : Int32)]) (rest := []) ⟨hx, hb, hml, hown, ht⟩ (c_Mo_in (l := l) (D := D) (A := A) (g := g) (rest := rest)  ho2) (va_cwS 3 ht (gd_S m_975 m_976 m_11 m_977) rfl rfl rfl (by decide +kernel) ⟨(Nat.le_of_ble_eq_true rfl), (Nat.le_of_ble_eq_true rfl)⟩) (prS hKK hI (List.Perm.refl _)) rfl rfl hl.1 rfl (lv_room (Nat.le_of_ble_eq_true rfl)) d_Mo_bytesOf_37 ⟨(Nat.le_of_ble_eq_true rfl), (Nat.le_of_ble_eq_true rfl)⟩) hS (fun _ => ((List.Perm.refl _)).symm) (fun _ H locs hI hS => ?_)
  have hI : Iw D A (rest) H := hI
  refine lv_if_eq (tgt := 47) hx hb d_Mo_bytesOf_40 (by decide) (fun hc => ?_) (fun hc => ?_)
  · have h := it_t h hc
    exact t_Mo_bytesOf_47 X (lv_sub hl [] rfl) hI hS h
  · have h := it_f h hc
    exact t_Mo_bytesOf_43 X (lv_sub hl [] rfl) hI hS h
set_option maxRecDepth 100000 in
set_option maxHeartbeats 4000000 in
theorem t_Mo_bytesOf_28 {p : Program} {l : Launch} {e : Env} {s : State} {m : MethodId} {args : Array Value} {below : List Frame} {meth : Method} {c : Code} {D : va_G} {A : Nat → Prop} {g : Nat → ClassId} {rest : va_W} {ls : Array Slot} {H : Heap} {locs : List Loc} {out : Int32} (X : Cx p s m args meth c prog_11_method_14_code 1 ws_Mo_bytesOf R_Mo (some .int) D g) (hl : lv_has ls 1 []) (hI : Iw D A (rest) H) (hS : va_S A s.heap H locs) (h : B_Mo_bytesOf_28   = some out) : W p l e (headSpec ws_Mo_bytesOf { frames := 1, cells := 0, slots := 0, locals := 22 }).room s m args below meth c H locs 0 0 (MQ below (QcI D A g out (fun (_ : Unit) => rest)) args s 0 0 A) (F0 m 28 ls []) := by
  have X1 := X
  obtain ⟨hx, hb, hml, hown, hts, hr, hlocks, hKK⟩ := X1
  have ht : ∀ w ∈ TB, w.before args s = true := fun w h => hts w (List.mem_cons_of_mem _ h)
  have hK := hKK.1
  unfold B_Mo_bytesOf_28 at h
  refine lv_iconst (v := 2) hx hb d_Mo_bytesOf_28 (by decide) ?_
  refine lv_goto (tgt := 48) hx hb d_Mo_bytesOf_29 (by decide) ?_
  exact t_Mo_bytesOf_48 X (lv_sub hl [] rfl) hI hS h
set_option maxRecDepth 100000 in
set_option maxHeartbeats 4000000 in
theorem t_Mo_bytesOf_15 {p : Program} {l : Launch} {e : Env} {s : State} {m : MethodId} {args : Array Value} {below : List Frame} {meth : Method} {c : Code} {D : va_G} {A : Nat → Prop} {g : Nat → ClassId} {rest : va_W} {ls : Array Slot} {H : Heap} {locs : List Loc} {x0 : Int32} {out : Int32} (X : Cx p s m args meth c prog_11_method_14_code 1 ws_Mo_bytesOf R_Mo (some .int) D g) (hl : lv_has ls 1 [(0, .int x0)]) (hI : Iw D A (rest) H) (hS : va_S A s.heap H locs) (h : B_Mo_bytesOf_15  x0 = some out) : W p l e (headSpec ws_Mo_bytesOf { frames := 1, cells := 0, slots := 0, locals := 22 }).room s m args below meth c H locs 0 0 (MQ below (QcI D A g out (fun (_ : Unit) => rest)) args s 0 0 A) (F0 m 15 ls []) := by
  have X1 := X
  obtain ⟨hx, hb, hml, hown, hts, hr, hlocks, hKK⟩ := X1
  have ht : ∀ w ∈ TB, w.before args s = true := fun w h => hts w (List.mem_cons_of_mem _ h)
  have hK := hKK.1
  unfold B_Mo_bytesOf_15 at h
  refine lv_iload_n hx hb d_Mo_bytesOf_15 rfl (lv_at hl 0 rfl) ?_
  refine lv_sipush (v := (-32768)) hx hb d_Mo_bytesOf_16 (by decide) ?_
  refine lv_sipush (v := 32767) hx hb d_Mo_bytesOf_19 (by decide) ?_
  obtain ⟨o1, ho2, h⟩ := bd_s h
  refine cl_i (W1 := fun (_ : Unit) => rest) (va_runS (As := [.int x0, .int ((-32768) : Int32), .int (32767 : Int32)]) (rest := []) ⟨hx, hb, hml, hown, ht⟩ (c_Mo_in (l := l) (D := D) (A := A) (g := g) (rest := rest)  ho2) (va_cwS 3 ht (gd_S m_975 m_976 m_11 m_977) rfl rfl rfl (by decide +kernel) ⟨(Nat.le_of_ble_eq_true rfl), (Nat.le_of_ble_eq_true rfl)⟩) (prS hKK hI (List.Perm.refl _)) rfl rfl hl.1 rfl (lv_room (Nat.le_of_ble_eq_true rfl)) d_Mo_bytesOf_22 ⟨(Nat.le_of_ble_eq_true rfl), (Nat.le_of_ble_eq_true rfl)⟩) hS (fun _ => ((List.Perm.refl _)).symm) (fun _ H locs hI hS => ?_)
  have hI : Iw D A (rest) H := hI
  refine lv_if_eq (tgt := 32) hx hb d_Mo_bytesOf_25 (by decide) (fun hc => ?_) (fun hc => ?_)
  · have h := it_t h hc
    exact t_Mo_bytesOf_32 X (lv_sub hl [0] rfl) hI hS h
  · have h := it_f h hc
    exact t_Mo_bytesOf_28 X (lv_sub hl [] rfl) hI hS h
set_option maxRecDepth 100000 in
set_option maxHeartbeats 4000000 in
theorem t_Mo_bytesOf_11 {p : Program} {l : Launch} {e : Env} {s : State} {m : MethodId} {args : Array Value} {below : List Frame} {meth : Method} {c : Code} {D : va_G} {A : Nat → Prop} {g : Nat → ClassId} {rest : va_W} {ls : Array Slot} {H : Heap} {locs : List Loc} {out : Int32} (X : Cx p s m args meth c prog_11_method_14_code 1 ws_Mo_bytesOf R_Mo (some .int) D g) (hl : lv_has ls 1 []) (hI : Iw D A (rest) H) (hS : va_S A s.heap H locs) (h : B_Mo_bytesOf_11   = some out) : W p l e (headSpec ws_Mo_bytesOf { frames := 1, cells := 0, slots := 0, locals := 22 }).room s m args below meth c H locs 0 0 (MQ below (QcI D A g out (fun (_ : Unit) => rest)) args s 0 0 A) (F0 m 11 ls []) := by
  have X1 := X
  obtain ⟨hx, hb, hml, hown, hts, hr, hlocks, hKK⟩ := X1
  have ht : ∀ w ∈ TB, w.before args s = true := fun w h => hts w (List.mem_cons_of_mem _ h)
  have hK := hKK.1
  unfold B_Mo_bytesOf_11 at h
  refine lv_iconst (v := 1) hx hb d_Mo_bytesOf_11 (by decide) ?_
  refine lv_goto (tgt := 48) hx hb d_Mo_bytesOf_12 (by decide) ?_
  exact t_Mo_bytesOf_48 X (lv_sub hl [] rfl) hI hS h
set_option maxRecDepth 100000 in
set_option maxHeartbeats 4000000 in
theorem t_Mo_bytesOf_0 {p : Program} {l : Launch} {e : Env} {s : State} {m : MethodId} {args : Array Value} {below : List Frame} {meth : Method} {c : Code} {D : va_G} {A : Nat → Prop} {g : Nat → ClassId} {rest : va_W} {ls : Array Slot} {H : Heap} {locs : List Loc} {x0 : Int32} {out : Int32} (X : Cx p s m args meth c prog_11_method_14_code 1 ws_Mo_bytesOf R_Mo (some .int) D g) (hl : lv_has ls 1 [(0, .int x0)]) (hI : Iw D A (rest) H) (hS : va_S A s.heap H locs) (h : B_Mo_bytesOf_0  x0 = some out) : W p l e (headSpec ws_Mo_bytesOf { frames := 1, cells := 0, slots := 0, locals := 22 }).room s m args below meth c H locs 0 0 (MQ below (QcI D A g out (fun (_ : Unit) => rest)) args s 0 0 A) (F0 m 0 ls []) := by
  have X1 := X
  obtain ⟨hx, hb, hml, hown, hts, hr, hlocks, hKK⟩ := X1
  have ht : ∀ w ∈ TB, w.before args s = true := fun w h => hts w (List.mem_cons_of_mem _ h)
  have hK := hKK.1
  unfold B_Mo_bytesOf_0 at h
  refine lv_iload_n hx hb d_Mo_bytesOf_0 rfl (lv_at hl 0 rfl) ?_
  refine lv_bipush (v := (-128)) hx hb d_Mo_bytesOf_1 (by decide) ?_
  refine lv_bipush (v := 127) hx hb d_Mo_bytesOf_3 (by decide) ?_
  obtain ⟨o1, ho2, h⟩ := bd_s h
  refine cl_i (W1 := fun (_ : Unit) => rest) (va_runS (As := [.int x0, .int ((-128) : Int32), .int (127 : Int32)]) (rest := []) ⟨hx, hb, hml, hown, ht⟩ (c_Mo_in (l := l) (D := D) (A := A) (g := g) (rest := rest)  ho2) (va_cwS 3 ht (gd_S m_975 m_976 m_11 m_977) rfl rfl rfl (by decide +kernel) ⟨(Nat.le_of_ble_eq_true rfl), (Nat.le_of_ble_eq_true rfl)⟩) (prS hKK hI (List.Perm.refl _)) rfl rfl hl.1 rfl (lv_room (Nat.le_of_ble_eq_true rfl)) d_Mo_bytesOf_5 ⟨(Nat.le_of_ble_eq_true rfl), (Nat.le_of_ble_eq_true rfl)⟩) hS (fun _ => ((List.Perm.refl _)).symm) (fun _ H locs hI hS => ?_)
  have hI : Iw D A (rest) H := hI
  refine lv_if_eq (tgt := 15) hx hb d_Mo_bytesOf_8 (by decide) (fun hc => ?_) (fun hc => ?_)
  · have h := it_t h hc
    exact t_Mo_bytesOf_15 X (lv_sub hl [0] rfl) hI hS h
  · have h := it_f h hc
    exact t_Mo_bytesOf_11 X (lv_sub hl [] rfl) hI hS h
set_option maxRecDepth 100000 in
set_option maxHeartbeats 4000000 in
theorem c_Mo_bytesOf {l : Launch} {D : va_G} {A : Nat → Prop} {g : Nat → ClassId} {rest : va_W} {x0 : Int32} {out : Int32} (h : F_Mo_bytesOf x0 = some out) : Met l y_Mo_bytesOf ws_Mo_bytesOf { frames := 1, cells := 0, slots := 0, locals := 22 } (PcW D A g [.int x0] (rest)) (QcI D A g out (fun (_ : Unit) => rest)) 0 0 A := by
  refine Met.ofW (cc := prog_11_method_14_code) (maxL := 1) (ret := (some .int)) (by decide) rfl ?_
  intro p e s m args below meth c s₁ B hml hv
  obtain ⟨rfl, hI, hK⟩ := hv
  have hl := lv_entry [.int x0] (n := 1) (Nat.le_of_ble_eq_true rfl)
  rw [lg_entry_eq]
  generalize (lg_sl [.int x0] ++ List.replicate (1 - (lg_sl [.int x0]).length) Slot.unset).toArray = ls at hl ⊢
  have hl : lv_has ls 1 [(0, .int x0)] := hl
  exact t_Mo_bytesOf_0 ⟨B.exec, B.bytes, hml, findClass_of_methodNamed B.named, atoms_spec (ws := ws_Mo_bytesOf) B.pre, B.returns, B.notSynchronized, hK⟩ (lv_sub hl [0] rfl) hI va_S.rf h
def ws_Mo_make : List Cond := .code y_Mo_make prog_11_method_16_code 2 none :: TB
def B_Mo_make_0 (s0 : S_Mo) (x1 : Int32) : Option S_Mo :=
  (if ((Mo_makes s0) < 0 ∨ 1000 ≤ (Mo_makes s0).toNatClampNeg) then none else some (Mo_set_makes (Mo_set_made s0 (upd (Mo_made s0) (Mo_makes s0).toNatClampNeg x1)) ((Mo_makes (Mo_set_made s0 (upd (Mo_made s0) (Mo_makes s0).toNatClampNeg x1))) + (1 : Int32))))
def F_Mo_make (s0 : S_Mo) (x1 : Int32) : Option S_Mo := B_Mo_make_0 s0 x1
set_option maxRecDepth 100000 in
set_option maxHeartbeats 4000000 in
theorem t_Mo_make_0 {p : Program} {l : Launch} {e : Env} {s : State} {m : MethodId} {args : Array Value} {below : List Frame} {meth : Method} {c : Code} {D : va_G} {A : Nat → Prop} {g : Nat → ClassId} {rest : va_W} {a0 : Nat → Nat} {ls : Array Slot} {H : Heap} {locs : List Loc} {s0 : S_Mo} {x1 : Int32} {out : S_Mo} (X : Cx p s m args meth c prog_11_method_16_code 2 ws_Mo_make R_Mo none D g) (hl : lv_has ls 2 [(0, .ref (a0 0)), (1, .int x1)]) (hI : Iw D A (w_Mo g a0 s0 ++ (rest)) H) (hS : va_S A s.heap H locs) (h : B_Mo_make_0  s0 x1 = some out) : W p l e (headSpec ws_Mo_make { frames := 0, cells := 0, slots := 0, locals := 0 }).room s m args below meth c H locs 0 0 (MQ below (QcV D A g (fun (_ : Unit) => w_Mo g a0 out ++ (rest))) args s 0 0 A) (F0 m 0 ls []) := by
  have X1 := X
  obtain ⟨hx, hb, hml, hown, hts, hr, hlocks, hKK⟩ := X1
  have ht : ∀ w ∈ TB, w.before args s = true := fun w h => hts w (List.mem_cons_of_mem _ h)
  have hK := hKK.1
  unfold B_Mo_make_0 at h
  refine lv_aload_n hx hb d_Mo_make_0 rfl (lv_at hl 0 rfl) ?_
  refine gt_Mo_made hx hb ht hown hK hI (ht _ m_842) d_Mo_make_1 ?_
  refine lv_aload_n hx hb d_Mo_make_4 rfl (lv_at hl 0 rfl) ?_
  refine gt_Mo_makes hx hb ht hown hK hI (ht _ m_843) d_Mo_make_5 ?_
  refine lv_iload_n hx hb d_Mo_make_8 rfl (lv_at hl 1 rfl) ?_
  by_cases hc1 : ((Mo_makes s0) < 0 ∨ 1000 ≤ (Mo_makes s0).toNatClampNeg)
  · exact no_s (it_t h hc1)
  have h := it_f h hc1
  refine as_Mo_made hx hb hK hI hS hc1 d_Mo_make_9 (fun H locs hI hS => ?_)
  refine lv_aload_n hx hb d_Mo_make_10 rfl (lv_at hl 0 rfl) ?_
  refine lv_dup hx hb d_Mo_make_11 rfl ?_
  refine gt_Mo_makes hx hb ht hown hK hI (ht _ m_843) d_Mo_make_12 ?_
  refine lv_iconst (v := 1) hx hb d_Mo_make_15 (by decide) ?_
  refine lv_iadd hx hb d_Mo_make_16 ?_
  refine pt_Mo_makes hx hb ht hown hK hI hS (ht _ m_843) d_Mo_make_17 (fun H locs hI hS => ?_)
  have h9 := Option.some.inj h
  subst h9
  exact W.vret hx hb hr (fun t ht hW => ⟨⟨(), rfl, trivial, ⟨by rw [ht]; exact hI, hKK.moved hW⟩⟩, hS.F ht⟩) hS.2.2 d_Mo_make_20
set_option maxRecDepth 100000 in
set_option maxHeartbeats 4000000 in
theorem c_Mo_make {l : Launch} {D : va_G} {A : Nat → Prop} {g : Nat → ClassId} {rest : va_W} {a0 : Nat → Nat} {s0 : S_Mo} {x1 : Int32} {out : S_Mo} (h : F_Mo_make s0 x1 = some out) : Met l y_Mo_make ws_Mo_make { frames := 0, cells := 0, slots := 0, locals := 0 } (PcW D A g [.ref (a0 0), .int x1] (w_Mo g a0 s0 ++ (rest))) (QcV D A g (fun (_ : Unit) => w_Mo g a0 out ++ (rest))) 0 0 A := by
  refine Met.ofW (cc := prog_11_method_16_code) (maxL := 2) (ret := none) (by decide) rfl ?_
  intro p e s m args below meth c s₁ B hml hv
  obtain ⟨rfl, hI, hK⟩ := hv
  have hl := lv_entry [.ref (a0 0), .int x1] (n := 2) (Nat.le_of_ble_eq_true rfl)
  rw [lg_entry_eq]
  generalize (lg_sl [.ref (a0 0), .int x1] ++ List.replicate (2 - (lg_sl [.ref (a0 0), .int x1]).length) Slot.unset).toArray = ls at hl ⊢
  have hl : lv_has ls 2 [(0, .ref (a0 0)), (1, .int x1)] := hl
  exact t_Mo_make_0 ⟨B.exec, B.bytes, hml, findClass_of_methodNamed B.named, atoms_spec (ws := ws_Mo_make) B.pre, B.returns, B.notSynchronized, hK⟩ (lv_sub hl [0, 1] rfl) hI va_S.rf h
def ws_Mo_fails : List Cond := .code y_Mo_fails prog_11_method_3_code 2 (some .int) :: TB
def B_Mo_fails_0 (s0 : S_Mo) (x1 : Int32) : Option (Int32 × S_Mo) :=
  some ((0 : Int32), (Mo_set_code s0 x1))
def F_Mo_fails (s0 : S_Mo) (x1 : Int32) : Option (Int32 × S_Mo) := B_Mo_fails_0 s0 x1
set_option maxRecDepth 100000 in
set_option maxHeartbeats 4000000 in
theorem t_Mo_fails_0 {p : Program} {l : Launch} {e : Env} {s : State} {m : MethodId} {args : Array Value} {below : List Frame} {meth : Method} {c : Code} {D : va_G} {A : Nat → Prop} {g : Nat → ClassId} {rest : va_W} {a0 : Nat → Nat} {ls : Array Slot} {H : Heap} {locs : List Loc} {s0 : S_Mo} {x1 : Int32} {out : Int32 × S_Mo} (X : Cx p s m args meth c prog_11_method_3_code 2 ws_Mo_fails R_Mo (some .int) D g) (hl : lv_has ls 2 [(0, .ref (a0 0)), (1, .int x1)]) (hI : Iw D A (w_Mo g a0 s0 ++ (rest)) H) (hS : va_S A s.heap H locs) (h : B_Mo_fails_0  s0 x1 = some out) : W p l e (headSpec ws_Mo_fails { frames := 0, cells := 0, slots := 0, locals := 0 }).room s m args below meth c H locs 0 0 (MQ below (QcI D A g out.1 (fun (_ : Unit) => w_Mo g a0 out.2 ++ (rest))) args s 0 0 A) (F0 m 0 ls []) := by
  have X1 := X
  obtain ⟨hx, hb, hml, hown, hts, hr, hlocks, hKK⟩ := X1
  have ht : ∀ w ∈ TB, w.before args s = true := fun w h => hts w (List.mem_cons_of_mem _ h)
  have hK := hKK.1
  unfold B_Mo_fails_0 at h
  refine lv_aload_n hx hb d_Mo_fails_0 rfl (lv_at hl 0 rfl) ?_
  refine lv_iload_n hx hb d_Mo_fails_1 rfl (lv_at hl 1 rfl) ?_
  refine pt_Mo_code hx hb ht hown hK hI hS (ht _ m_817) d_Mo_fails_2 (fun H locs hI hS => ?_)
  refine lv_iconst (v := 0) hx hb d_Mo_fails_5 (by decide) ?_
  have h9 := Option.some.inj h
  subst h9
  exact W.iret (v := (0 : Int32)) hx hb hr (fun t ht hW => ⟨⟨_, (), rfl, rfl, ⟨by rw [ht]; exact hI, hKK.moved hW⟩⟩, hS.F ht⟩) hS.2.2 d_Mo_fails_6
set_option maxRecDepth 100000 in
set_option maxHeartbeats 4000000 in
theorem c_Mo_fails {l : Launch} {D : va_G} {A : Nat → Prop} {g : Nat → ClassId} {rest : va_W} {a0 : Nat → Nat} {s0 : S_Mo} {x1 : Int32} {out : Int32 × S_Mo} (h : F_Mo_fails s0 x1 = some out) : Met l y_Mo_fails ws_Mo_fails { frames := 0, cells := 0, slots := 0, locals := 0 } (PcW D A g [.ref (a0 0), .int x1] (w_Mo g a0 s0 ++ (rest))) (QcI D A g out.1 (fun (_ : Unit) => w_Mo g a0 out.2 ++ (rest))) 0 0 A := by
  refine Met.ofW (cc := prog_11_method_3_code) (maxL := 2) (ret := (some .int)) (by decide) rfl ?_
  intro p e s m args below meth c s₁ B hml hv
  obtain ⟨rfl, hI, hK⟩ := hv
  have hl := lv_entry [.ref (a0 0), .int x1] (n := 2) (Nat.le_of_ble_eq_true rfl)
  rw [lg_entry_eq]
  generalize (lg_sl [.ref (a0 0), .int x1] ++ List.replicate (2 - (lg_sl [.ref (a0 0), .int x1]).length) Slot.unset).toArray = ls at hl ⊢
  have hl : lv_has ls 2 [(0, .ref (a0 0)), (1, .int x1)] := hl
  exact t_Mo_fails_0 ⟨B.exec, B.bytes, hml, findClass_of_methodNamed B.named, atoms_spec (ws := ws_Mo_fails) B.pre, B.returns, B.notSynchronized, hK⟩ (lv_sub hl [0, 1] rfl) hI va_S.rf h
def ws_Mo_at : List Cond := .code y_Mo_at prog_11_method_24_code 2 (some .int) :: TB
def B_Mo_at_51 (s0 : S_Mo) (y0 : Int32) : Option (Int32 × S_Mo) :=
  some (y0, s0)
def B_Mo_at_45 (s0 : S_Mo) (x1 : Int32) : Option (Int32 × S_Mo) :=
  (if (x1 < 0 ∨ 120 ≤ x1.toNatClampNeg) then none else (B_Mo_at_51 s0 ((Mo_draft s0) x1.toNatClampNeg)))
def B_Mo_at_38 (s0 : S_Mo) : Option (Int32 × S_Mo) :=
  (B_Mo_at_51 s0 (Mo_drafted s0))
def B_Mo_at_34 (s0 : S_Mo) (x1 : Int32) : Option (Int32 × S_Mo) :=
  (if 0 ≤ x1 then (B_Mo_at_45 s0 x1) else (B_Mo_at_38 s0))
def B_Mo_at_30 (s0 : S_Mo) : Option (Int32 × S_Mo) :=
  (B_Mo_at_51 s0 (0 : Int32))
def B_Mo_at_20 (s0 : S_Mo) (x1 : Int32) (y0 : Int32) : Option (Int32 × S_Mo) :=
  (if (Mo_code (Mo_set_code s0 y0)) ≤ 0 then (B_Mo_at_34 (Mo_set_code s0 y0) x1) else (B_Mo_at_30 (Mo_set_code s0 y0)))
def B_Mo_at_19 (s0 : S_Mo) (x1 : Int32) : Option (Int32 × S_Mo) :=
  (B_Mo_at_20 s0 x1 (1 : Int32))
def B_Mo_at_15 (s0 : S_Mo) (x1 : Int32) : Option (Int32 × S_Mo) :=
  (B_Mo_at_20 s0 x1 (0 : Int32))
def B_Mo_at_0 (s0 : S_Mo) (x1 : Int32) : Option (Int32 × S_Mo) :=
  ((F_Mo_in x1 ((-1) : Int32) ((Mo_drafted s0) - (1 : Int32))).bind fun o1 => (if o1 = 0 then (B_Mo_at_19 s0 x1) else (B_Mo_at_15 s0 x1)))
def F_Mo_at (s0 : S_Mo) (x1 : Int32) : Option (Int32 × S_Mo) := B_Mo_at_0 s0 x1
set_option maxRecDepth 100000 in
set_option maxHeartbeats 4000000 in
theorem t_Mo_at_51 {p : Program} {l : Launch} {e : Env} {s : State} {m : MethodId} {args : Array Value} {below : List Frame} {meth : Method} {c : Code} {D : va_G} {A : Nat → Prop} {g : Nat → ClassId} {rest : va_W} {a0 : Nat → Nat} {ls : Array Slot} {H : Heap} {locs : List Loc} {s0 : S_Mo} {y0 : Int32} {out : Int32 × S_Mo} (X : Cx p s m args meth c prog_11_method_24_code 2 ws_Mo_at R_Mo (some .int) D g) (hl : lv_has ls 2 []) (hI : Iw D A (w_Mo g a0 s0 ++ (rest)) H) (hS : va_S A s.heap H locs) (h : B_Mo_at_51  s0 y0 = some out) : W p l e (headSpec ws_Mo_at { frames := 1, cells := 0, slots := 0, locals := 22 }).room s m args below meth c H locs 0 0 (MQ below (QcI D A g out.1 (fun (_ : Unit) => w_Mo g a0 out.2 ++ (rest))) args s 0 0 A) (F0 m 51 ls [.int y0]) := by
  have X1 := X
  obtain ⟨hx, hb, hml, hown, hts, hr, hlocks, hKK⟩ := X1
  have ht : ∀ w ∈ TB, w.before args s = true := fun w h => hts w (List.mem_cons_of_mem _ h)
  have hK := hKK.1
  unfold B_Mo_at_51 at h
  have h9 := Option.some.inj h
  subst h9
  exact W.iret (v := y0) hx hb hr (fun t ht hW => ⟨⟨_, (), rfl, rfl, ⟨by rw [ht]; exact hI, hKK.moved hW⟩⟩, hS.F ht⟩) hS.2.2 d_Mo_at_51
set_option maxRecDepth 100000 in
set_option maxHeartbeats 4000000 in
theorem t_Mo_at_45 {p : Program} {l : Launch} {e : Env} {s : State} {m : MethodId} {args : Array Value} {below : List Frame} {meth : Method} {c : Code} {D : va_G} {A : Nat → Prop} {g : Nat → ClassId} {rest : va_W} {a0 : Nat → Nat} {ls : Array Slot} {H : Heap} {locs : List Loc} {s0 : S_Mo} {x1 : Int32} {out : Int32 × S_Mo} (X : Cx p s m args meth c prog_11_method_24_code 2 ws_Mo_at R_Mo (some .int) D g) (hl : lv_has ls 2 [(0, .ref (a0 0)), (1, .int x1)]) (hI : Iw D A (w_Mo g a0 s0 ++ (rest)) H) (hS : va_S A s.heap H locs) (h : B_Mo_at_45  s0 x1 = some out) : W p l e (headSpec ws_Mo_at { frames := 1, cells := 0, slots := 0, locals := 22 }).room s m args below meth c H locs 0 0 (MQ below (QcI D A g out.1 (fun (_ : Unit) => w_Mo g a0 out.2 ++ (rest))) args s 0 0 A) (F0 m 45 ls []) := by
  have X1 := X
  obtain ⟨hx, hb, hml, hown, hts, hr, hlocks, hKK⟩ := X1
  have ht : ∀ w ∈ TB, w.before args s = true := fun w h => hts w (List.mem_cons_of_mem _ h)
  have hK := hKK.1
  unfold B_Mo_at_45 at h
  refine lv_aload_n hx hb d_Mo_at_45 rfl (lv_at hl 0 rfl) ?_
  refine gt_Mo_draft hx hb ht hown hK hI (ht _ m_818) d_Mo_at_46 ?_
  refine lv_iload_n hx hb d_Mo_at_49 rfl (lv_at hl 1 rfl) ?_
  by_cases hc1 : (x1 < 0 ∨ 120 ≤ x1.toNatClampNeg)
  · exact no_s (it_t h hc1)
  have h := it_f h hc1
  refine al_Mo_draft hx hb hK hI hc1 d_Mo_at_50 ?_
  exact t_Mo_at_51 X (lv_sub hl [] rfl) hI hS h
set_option maxRecDepth 100000 in
set_option maxHeartbeats 4000000 in
theorem t_Mo_at_38 {p : Program} {l : Launch} {e : Env} {s : State} {m : MethodId} {args : Array Value} {below : List Frame} {meth : Method} {c : Code} {D : va_G} {A : Nat → Prop} {g : Nat → ClassId} {rest : va_W} {a0 : Nat → Nat} {ls : Array Slot} {H : Heap} {locs : List Loc} {s0 : S_Mo} {out : Int32 × S_Mo} (X : Cx p s m args meth c prog_11_method_24_code 2 ws_Mo_at R_Mo (some .int) D g) (hl : lv_has ls 2 [(0, .ref (a0 0))]) (hI : Iw D A (w_Mo g a0 s0 ++ (rest)) H) (hS : va_S A s.heap H locs) (h : B_Mo_at_38  s0 = some out) : W p l e (headSpec ws_Mo_at { frames := 1, cells := 0, slots := 0, locals := 22 }).room s m args below meth c H locs 0 0 (MQ below (QcI D A g out.1 (fun (_ : Unit) => w_Mo g a0 out.2 ++ (rest))) args s 0 0 A) (F0 m 38 ls []) := by
  have X1 := X
  obtain ⟨hx, hb, hml, hown, hts, hr, hlocks, hKK⟩ := X1
  have ht : ∀ w ∈ TB, w.before args s = true := fun w h => hts w (List.mem_cons_of_mem _ h)
  have hK := hKK.1
  unfold B_Mo_at_38 at h
  refine lv_aload_n hx hb d_Mo_at_38 rfl (lv_at hl 0 rfl) ?_
  refine gt_Mo_drafted hx hb ht hown hK hI (ht _ m_819) d_Mo_at_39 ?_
  refine lv_goto (tgt := 51) hx hb d_Mo_at_42 (by decide) ?_
  exact t_Mo_at_51 X (lv_sub hl [] rfl) hI hS h
set_option maxRecDepth 100000 in
set_option maxHeartbeats 4000000 in
theorem t_Mo_at_34 {p : Program} {l : Launch} {e : Env} {s : State} {m : MethodId} {args : Array Value} {below : List Frame} {meth : Method} {c : Code} {D : va_G} {A : Nat → Prop} {g : Nat → ClassId} {rest : va_W} {a0 : Nat → Nat} {ls : Array Slot} {H : Heap} {locs : List Loc} {s0 : S_Mo} {x1 : Int32} {out : Int32 × S_Mo} (X : Cx p s m args meth c prog_11_method_24_code 2 ws_Mo_at R_Mo (some .int) D g) (hl : lv_has ls 2 [(0, .ref (a0 0)), (1, .int x1)]) (hI : Iw D A (w_Mo g a0 s0 ++ (rest)) H) (hS : va_S A s.heap H locs) (h : B_Mo_at_34  s0 x1 = some out) : W p l e (headSpec ws_Mo_at { frames := 1, cells := 0, slots := 0, locals := 22 }).room s m args below meth c H locs 0 0 (MQ below (QcI D A g out.1 (fun (_ : Unit) => w_Mo g a0 out.2 ++ (rest))) args s 0 0 A) (F0 m 34 ls []) := by
  have X1 := X
  obtain ⟨hx, hb, hml, hown, hts, hr, hlocks, hKK⟩ := X1
  have ht : ∀ w ∈ TB, w.before args s = true := fun w h => hts w (List.mem_cons_of_mem _ h)
  have hK := hKK.1
  unfold B_Mo_at_34 at h
  refine lv_iload_n hx hb d_Mo_at_34 rfl (lv_at hl 1 rfl) ?_
  refine lv_if_ge (tgt := 45) hx hb d_Mo_at_35 (by decide) (fun hc => ?_) (fun hc => ?_)
  · have h := it_t h hc
    exact t_Mo_at_45 X (lv_sub hl [0, 1] rfl) hI hS h
  · have h := it_f h hc
    exact t_Mo_at_38 X (lv_sub hl [0] rfl) hI hS h
set_option maxRecDepth 100000 in
set_option maxHeartbeats 4000000 in
theorem t_Mo_at_30 {p : Program} {l : Launch} {e : Env} {s : State} {m : MethodId} {args : Array Value} {below : List Frame} {meth : Method} {c : Code} {D : va_G} {A : Nat → Prop} {g : Nat → ClassId} {rest : va_W} {a0 : Nat → Nat} {ls : Array Slot} {H : Heap} {locs : List Loc} {s0 : S_Mo} {out : Int32 × S_Mo} (X : Cx p s m args meth c prog_11_method_24_code 2 ws_Mo_at R_Mo (some .int) D g) (hl : lv_has ls 2 []) (hI : Iw D A (w_Mo g a0 s0 ++ (rest)) H) (hS : va_S A s.heap H locs) (h : B_Mo_at_30  s0 = some out) : W p l e (headSpec ws_Mo_at { frames := 1, cells := 0, slots := 0, locals := 22 }).room s m args below meth c H locs 0 0 (MQ below (QcI D A g out.1 (fun (_ : Unit) => w_Mo g a0 out.2 ++ (rest))) args s 0 0 A) (F0 m 30 ls []) := by
  have X1 := X
  obtain ⟨hx, hb, hml, hown, hts, hr, hlocks, hKK⟩ := X1
  have ht : ∀ w ∈ TB, w.before args s = true := fun w h => hts w (List.mem_cons_of_mem _ h)
  have hK := hKK.1
  unfold B_Mo_at_30 at h
  refine lv_iconst (v := 0) hx hb d_Mo_at_30 (by decide) ?_
  refine lv_goto (tgt := 51) hx hb d_Mo_at_31 (by decide) ?_
  exact t_Mo_at_51 X (lv_sub hl [] rfl) hI hS h
set_option maxRecDepth 100000 in
set_option maxHeartbeats 4000000 in
theorem t_Mo_at_20 {p : Program} {l : Launch} {e : Env} {s : State} {m : MethodId} {args : Array Value} {below : List Frame} {meth : Method} {c : Code} {D : va_G} {A : Nat → Prop} {g : Nat → ClassId} {rest : va_W} {a0 : Nat → Nat} {ls : Array Slot} {H : Heap} {locs : List Loc} {s0 : S_Mo} {x1 : Int32} {y0 : Int32} {out : Int32 × S_Mo} (X : Cx p s m args meth c prog_11_method_24_code 2 ws_Mo_at R_Mo (some .int) D g) (hl : lv_has ls 2 [(0, .ref (a0 0)), (1, .int x1)]) (hI : Iw D A (w_Mo g a0 s0 ++ (rest)) H) (hS : va_S A s.heap H locs) (h : B_Mo_at_20  s0 x1 y0 = some out) : W p l e (headSpec ws_Mo_at { frames := 1, cells := 0, slots := 0, locals := 22 }).room s m args below meth c H locs 0 0 (MQ below (QcI D A g out.1 (fun (_ : Unit) => w_Mo g a0 out.2 ++ (rest))) args s 0 0 A) (F0 m 20 ls [.int y0, .ref (a0 0)]) := by
  have X1 := X
  obtain ⟨hx, hb, hml, hown, hts, hr, hlocks, hKK⟩ := X1
  have ht : ∀ w ∈ TB, w.before args s = true := fun w h => hts w (List.mem_cons_of_mem _ h)
  have hK := hKK.1
  unfold B_Mo_at_20 at h
  refine pt_Mo_code hx hb ht hown hK hI hS (ht _ m_817) d_Mo_at_20 (fun H locs hI hS => ?_)
  refine lv_aload_n hx hb d_Mo_at_23 rfl (lv_at hl 0 rfl) ?_
  refine gt_Mo_code hx hb ht hown hK hI (ht _ m_817) d_Mo_at_24 ?_
  refine lv_if_le (tgt := 34) hx hb d_Mo_at_27 (by decide) (fun hc => ?_) (fun hc => ?_)
  · have h := it_t h hc
    exact t_Mo_at_34 X (lv_sub hl [0, 1] rfl) hI hS h
  · have h := it_f h hc
    exact t_Mo_at_30 X (lv_sub hl [] rfl) hI hS h
set_option maxRecDepth 100000 in
set_option maxHeartbeats 4000000 in
theorem t_Mo_at_19 {p : Program} {l : Launch} {e : Env} {s : State} {m : MethodId} {args : Array Value} {below : List Frame} {meth : Method} {c : Code} {D : va_G} {A : Nat → Prop} {g : Nat → ClassId} {rest : va_W} {a0 : Nat → Nat} {ls : Array Slot} {H : Heap} {locs : List Loc} {s0 : S_Mo} {x1 : Int32} {out : Int32 × S_Mo} (X : Cx p s m args meth c prog_11_method_24_code 2 ws_Mo_at R_Mo (some .int) D g) (hl : lv_has ls 2 [(0, .ref (a0 0)), (1, .int x1)]) (hI : Iw D A (w_Mo g a0 s0 ++ (rest)) H) (hS : va_S A s.heap H locs) (h : B_Mo_at_19  s0 x1 = some out) : W p l e (headSpec ws_Mo_at { frames := 1, cells := 0, slots := 0, locals := 22 }).room s m args below meth c H locs 0 0 (MQ below (QcI D A g out.1 (fun (_ : Unit) => w_Mo g a0 out.2 ++ (rest))) args s 0 0 A) (F0 m 19 ls [.ref (a0 0)]) := by
  have X1 := X
  obtain ⟨hx, hb, hml, hown, hts, hr, hlocks, hKK⟩ := X1
  have ht : ∀ w ∈ TB, w.before args s = true := fun w h => hts w (List.mem_cons_of_mem _ h)
  have hK := hKK.1
  unfold B_Mo_at_19 at h
  refine lv_iconst (v := 1) hx hb d_Mo_at_19 (by decide) ?_
  exact t_Mo_at_20 X (lv_sub hl [0, 1] rfl) hI hS h
set_option maxRecDepth 100000 in
set_option maxHeartbeats 4000000 in
theorem t_Mo_at_15 {p : Program} {l : Launch} {e : Env} {s : State} {m : MethodId} {args : Array Value} {below : List Frame} {meth : Method} {c : Code} {D : va_G} {A : Nat → Prop} {g : Nat → ClassId} {rest : va_W} {a0 : Nat → Nat} {ls : Array Slot} {H : Heap} {locs : List Loc} {s0 : S_Mo} {x1 : Int32} {out : Int32 × S_Mo} (X : Cx p s m args meth c prog_11_method_24_code 2 ws_Mo_at R_Mo (some .int) D g) (hl : lv_has ls 2 [(0, .ref (a0 0)), (1, .int x1)]) (hI : Iw D A (w_Mo g a0 s0 ++ (rest)) H) (hS : va_S A s.heap H locs) (h : B_Mo_at_15  s0 x1 = some out) : W p l e (headSpec ws_Mo_at { frames := 1, cells := 0, slots := 0, locals := 22 }).room s m args below meth c H locs 0 0 (MQ below (QcI D A g out.1 (fun (_ : Unit) => w_Mo g a0 out.2 ++ (rest))) args s 0 0 A) (F0 m 15 ls [.ref (a0 0)]) := by
  have X1 := X
  obtain ⟨hx, hb, hml, hown, hts, hr, hlocks, hKK⟩ := X1
  have ht : ∀ w ∈ TB, w.before args s = true := fun w h => hts w (List.mem_cons_of_mem _ h)
  have hK := hKK.1
  unfold B_Mo_at_15 at h
  refine lv_iconst (v := 0) hx hb d_Mo_at_15 (by decide) ?_
  refine lv_goto (tgt := 20) hx hb d_Mo_at_16 (by decide) ?_
  exact t_Mo_at_20 X (lv_sub hl [0, 1] rfl) hI hS h
set_option maxRecDepth 100000 in
set_option maxHeartbeats 4000000 in
theorem t_Mo_at_0 {p : Program} {l : Launch} {e : Env} {s : State} {m : MethodId} {args : Array Value} {below : List Frame} {meth : Method} {c : Code} {D : va_G} {A : Nat → Prop} {g : Nat → ClassId} {rest : va_W} {a0 : Nat → Nat} {ls : Array Slot} {H : Heap} {locs : List Loc} {s0 : S_Mo} {x1 : Int32} {out : Int32 × S_Mo} (X : Cx p s m args meth c prog_11_method_24_code 2 ws_Mo_at R_Mo (some .int) D g) (hl : lv_has ls 2 [(0, .ref (a0 0)), (1, .int x1)]) (hI : Iw D A (w_Mo g a0 s0 ++ (rest)) H) (hS : va_S A s.heap H locs) (h : B_Mo_at_0  s0 x1 = some out) : W p l e (headSpec ws_Mo_at { frames := 1, cells := 0, slots := 0, locals := 22 }).room s m args below meth c H locs 0 0 (MQ below (QcI D A g out.1 (fun (_ : Unit) => w_Mo g a0 out.2 ++ (rest))) args s 0 0 A) (F0 m 0 ls []) := by
  have X1 := X
  obtain ⟨hx, hb, hml, hown, hts, hr, hlocks, hKK⟩ := X1
  have ht : ∀ w ∈ TB, w.before args s = true := fun w h => hts w (List.mem_cons_of_mem _ h)
  have hK := hKK.1
  unfold B_Mo_at_0 at h
  refine lv_aload_n hx hb d_Mo_at_0 rfl (lv_at hl 0 rfl) ?_
  refine lv_iload_n hx hb d_Mo_at_1 rfl (lv_at hl 1 rfl) ?_
  refine lv_iconst (v := (-1)) hx hb d_Mo_at_2 (by decide) ?_
  refine lv_aload_n hx hb d_Mo_at_3 rfl (lv_at hl 0 rfl) ?_
  refine gt_Mo_drafted hx hb ht hown hK hI (ht _ m_819) d_Mo_at_4 ?_
  refine lv_iconst (v := 1) hx hb d_Mo_at_7 (by decide) ?_
  refine lv_isub hx hb d_Mo_at_8 ?_
  obtain ⟨o1, ho2, h⟩ := bd_s h
  refine cl_i (W1 := fun (_ : Unit) => w_Mo g a0 s0 ++ (rest)) (va_runS (As := [.int x1, .int ((-1) : Int32), .int ((Mo_drafted s0) - (1 : Int32))]) (rest := [.ref (a0 0)]) ⟨hx, hb, hml, hown, ht⟩ (c_Mo_in (l := l) (D := D) (A := A) (g := g) (rest := w_Mo g a0 s0 ++ (rest))  ho2) (va_cwS 3 ht (gd_S m_975 m_976 m_11 m_977) rfl rfl rfl (by decide +kernel) ⟨(Nat.le_of_ble_eq_true rfl), (Nat.le_of_ble_eq_true rfl)⟩) (prS hKK hI (List.Perm.refl _)) rfl rfl hl.1 rfl (lv_room (Nat.le_of_ble_eq_true rfl)) d_Mo_at_9 ⟨(Nat.le_of_ble_eq_true rfl), (Nat.le_of_ble_eq_true rfl)⟩) hS (fun _ => ((List.Perm.refl _)).symm) (fun _ H locs hI hS => ?_)
  have hI : Iw D A (w_Mo g a0 s0 ++ (rest)) H := hI
  refine lv_if_eq (tgt := 19) hx hb d_Mo_at_12 (by decide) (fun hc => ?_) (fun hc => ?_)
  · have h := it_t h hc
    exact t_Mo_at_19 X (lv_sub hl [0, 1] rfl) hI hS h
  · have h := it_f h hc
    exact t_Mo_at_15 X (lv_sub hl [0, 1] rfl) hI hS h
set_option maxRecDepth 100000 in
set_option maxHeartbeats 4000000 in
theorem c_Mo_at {l : Launch} {D : va_G} {A : Nat → Prop} {g : Nat → ClassId} {rest : va_W} {a0 : Nat → Nat} {s0 : S_Mo} {x1 : Int32} {out : Int32 × S_Mo} (h : F_Mo_at s0 x1 = some out) : Met l y_Mo_at ws_Mo_at { frames := 1, cells := 0, slots := 0, locals := 22 } (PcW D A g [.ref (a0 0), .int x1] (w_Mo g a0 s0 ++ (rest))) (QcI D A g out.1 (fun (_ : Unit) => w_Mo g a0 out.2 ++ (rest))) 0 0 A := by
  refine Met.ofW (cc := prog_11_method_24_code) (maxL := 2) (ret := (some .int)) (by decide) rfl ?_
  intro p e s m args below meth c s₁ B hml hv
  obtain ⟨rfl, hI, hK⟩ := hv
  have hl := lv_entry [.ref (a0 0), .int x1] (n := 2) (Nat.le_of_ble_eq_true rfl)
  rw [lg_entry_eq]
  generalize (lg_sl [.ref (a0 0), .int x1] ++ List.replicate (2 - (lg_sl [.ref (a0 0), .int x1]).length) Slot.unset).toArray = ls at hl ⊢
  have hl : lv_has ls 2 [(0, .ref (a0 0)), (1, .int x1)] := hl
  exact t_Mo_at_0 ⟨B.exec, B.bytes, hml, findClass_of_methodNamed B.named, atoms_spec (ws := ws_Mo_at) B.pre, B.returns, B.notSynchronized, hK⟩ (lv_sub hl [0, 1] rfl) hI va_S.rf h
def ws_Mo_forget : List Cond := .code y_Mo_forget prog_11_method_26_code 1 none :: TB
def B_Mo_forget_0 (s0 : S_Mo) : Option S_Mo :=
  some (Mo_set_speaker (Mo_set_bodies (Mo_set_commands (Mo_set_wanted s0 (0 : Int32)) (0 : Int32)) (0 : Int32)) ((-1) : Int32))
def F_Mo_forget (s0 : S_Mo) : Option S_Mo := B_Mo_forget_0 s0
set_option maxRecDepth 100000 in
set_option maxHeartbeats 4000000 in
theorem t_Mo_forget_0 {p : Program} {l : Launch} {e : Env} {s : State} {m : MethodId} {args : Array Value} {below : List Frame} {meth : Method} {c : Code} {D : va_G} {A : Nat → Prop} {g : Nat → ClassId} {rest : va_W} {a0 : Nat → Nat} {ls : Array Slot} {H : Heap} {locs : List Loc} {s0 : S_Mo} {out : S_Mo} (X : Cx p s m args meth c prog_11_method_26_code 1 ws_Mo_forget R_Mo none D g) (hl : lv_has ls 1 [(0, .ref (a0 0))]) (hI : Iw D A (w_Mo g a0 s0 ++ (rest)) H) (hS : va_S A s.heap H locs) (h : B_Mo_forget_0  s0 = some out) : W p l e (headSpec ws_Mo_forget { frames := 0, cells := 0, slots := 0, locals := 0 }).room s m args below meth c H locs 0 0 (MQ below (QcV D A g (fun (_ : Unit) => w_Mo g a0 out ++ (rest))) args s 0 0 A) (F0 m 0 ls []) := by
  have X1 := X
  obtain ⟨hx, hb, hml, hown, hts, hr, hlocks, hKK⟩ := X1
  have ht : ∀ w ∈ TB, w.before args s = true := fun w h => hts w (List.mem_cons_of_mem _ h)
  have hK := hKK.1
  unfold B_Mo_forget_0 at h
  refine lv_aload_n hx hb d_Mo_forget_0 rfl (lv_at hl 0 rfl) ?_
  refine lv_iconst (v := 0) hx hb d_Mo_forget_1 (by decide) ?_
  refine pt_Mo_wanted hx hb ht hown hK hI hS (ht _ m_854) d_Mo_forget_2 (fun H locs hI hS => ?_)
  refine lv_aload_n hx hb d_Mo_forget_5 rfl (lv_at hl 0 rfl) ?_
  refine lv_iconst (v := 0) hx hb d_Mo_forget_6 (by decide) ?_
  refine pt_Mo_commands hx hb ht hown hK hI hS (ht _ m_856) d_Mo_forget_7 (fun H locs hI hS => ?_)
  refine lv_aload_n hx hb d_Mo_forget_10 rfl (lv_at hl 0 rfl) ?_
  refine lv_iconst (v := 0) hx hb d_Mo_forget_11 (by decide) ?_
  refine pt_Mo_bodies hx hb ht hown hK hI hS (ht _ m_858) d_Mo_forget_12 (fun H locs hI hS => ?_)
  refine lv_aload_n hx hb d_Mo_forget_15 rfl (lv_at hl 0 rfl) ?_
  refine lv_iconst (v := (-1)) hx hb d_Mo_forget_16 (by decide) ?_
  refine pt_Mo_speaker hx hb ht hown hK hI hS (ht _ m_859) d_Mo_forget_17 (fun H locs hI hS => ?_)
  have h9 := Option.some.inj h
  subst h9
  exact W.vret hx hb hr (fun t ht hW => ⟨⟨(), rfl, trivial, ⟨by rw [ht]; exact hI, hKK.moved hW⟩⟩, hS.F ht⟩) hS.2.2 d_Mo_forget_20
set_option maxRecDepth 100000 in
set_option maxHeartbeats 4000000 in
theorem c_Mo_forget {l : Launch} {D : va_G} {A : Nat → Prop} {g : Nat → ClassId} {rest : va_W} {a0 : Nat → Nat} {s0 : S_Mo} {out : S_Mo} (h : F_Mo_forget s0 = some out) : Met l y_Mo_forget ws_Mo_forget { frames := 0, cells := 0, slots := 0, locals := 0 } (PcW D A g [.ref (a0 0)] (w_Mo g a0 s0 ++ (rest))) (QcV D A g (fun (_ : Unit) => w_Mo g a0 out ++ (rest))) 0 0 A := by
  refine Met.ofW (cc := prog_11_method_26_code) (maxL := 1) (ret := none) (by decide) rfl ?_
  intro p e s m args below meth c s₁ B hml hv
  obtain ⟨rfl, hI, hK⟩ := hv
  have hl := lv_entry [.ref (a0 0)] (n := 1) (Nat.le_of_ble_eq_true rfl)
  rw [lg_entry_eq]
  generalize (lg_sl [.ref (a0 0)] ++ List.replicate (1 - (lg_sl [.ref (a0 0)]).length) Slot.unset).toArray = ls at hl ⊢
  have hl : lv_has ls 1 [(0, .ref (a0 0))] := hl
  exact t_Mo_forget_0 ⟨B.exec, B.bytes, hml, findClass_of_methodNamed B.named, atoms_spec (ws := ws_Mo_forget) B.pre, B.returns, B.notSynchronized, hK⟩ (lv_sub hl [0] rfl) hI va_S.rf h
def ws_Mo_comesTo : List Cond := .code y_Mo_comesTo prog_11_method_28_code 2 none :: TB
def B_Mo_comesTo_16 (s0 : S_Mo) (y0 : Int32) : Option S_Mo :=
  ((F_Mo_forget (Mo_set_timer s0 y0)).bind fun o1 => some o1)
def B_Mo_comesTo_15 (s0 : S_Mo) : Option S_Mo :=
  (B_Mo_comesTo_16 s0 (5 : Int32))
def B_Mo_comesTo_11 (s0 : S_Mo) : Option S_Mo :=
  (B_Mo_comesTo_16 s0 (0 : Int32))
def B_Mo_comesTo_0 (s0 : S_Mo) (x1 : Int32) : Option S_Mo :=
  (if x1 = (2 : Int32) then (B_Mo_comesTo_11 (Mo_set_line s0 x1)) else (B_Mo_comesTo_15 (Mo_set_line s0 x1)))
def F_Mo_comesTo (s0 : S_Mo) (x1 : Int32) : Option S_Mo := B_Mo_comesTo_0 s0 x1
set_option maxRecDepth 100000 in
set_option maxHeartbeats 4000000 in
theorem t_Mo_comesTo_16 {p : Program} {l : Launch} {e : Env} {s : State} {m : MethodId} {args : Array Value} {below : List Frame} {meth : Method} {c : Code} {D : va_G} {A : Nat → Prop} {g : Nat → ClassId} {rest : va_W} {a0 : Nat → Nat} {ls : Array Slot} {H : Heap} {locs : List Loc} {s0 : S_Mo} {y0 : Int32} {out : S_Mo} (X : Cx p s m args meth c prog_11_method_28_code 2 ws_Mo_comesTo R_Mo none D g) (hl : lv_has ls 2 [(0, .ref (a0 0))]) (hI : Iw D A (w_Mo g a0 s0 ++ (rest)) H) (hS : va_S A s.heap H locs) (h : B_Mo_comesTo_16  s0 y0 = some out) : W p l e (headSpec ws_Mo_comesTo { frames := 1, cells := 0, slots := 0, locals := 20 }).room s m args below meth c H locs 0 0 (MQ below (QcV D A g (fun (_ : Unit) => w_Mo g a0 out ++ (rest))) args s 0 0 A) (F0 m 16 ls [.int y0, .ref (a0 0)]) := by
  have X1 := X
  obtain ⟨hx, hb, hml, hown, hts, hr, hlocks, hKK⟩ := X1
  have ht : ∀ w ∈ TB, w.before args s = true := fun w h => hts w (List.mem_cons_of_mem _ h)
  have hK := hKK.1
  unfold B_Mo_comesTo_16 at h
  refine pt_Mo_timer hx hb ht hown hK hI hS (ht _ m_845) d_Mo_comesTo_16 (fun H locs hI hS => ?_)
  refine lv_aload_n hx hb d_Mo_comesTo_19 rfl (lv_at hl 0 rfl) ?_
  obtain ⟨o1, ho2, h⟩ := bd_s h
  refine cl_v (W1 := fun (_ : Unit) => w_Mo g a0 o1 ++ (rest)) (va_runV (As := []) (rest := []) ⟨hx, hb, hml, hown, ht⟩ (c_Mo_forget (l := l) (D := D) (A := A) (g := g) (rest := rest) (a0 := a0) ho2) (cwV 0 ht (gd_V m_1068 m_1070 mp_53 m_11 m_1071) rfl rfl rfl (by decide +kernel) ⟨(Nat.le_of_ble_eq_true rfl), (Nat.le_of_ble_eq_true rfl)⟩) (prV (ci := 9) (q0 := 0) hKK hI (List.Perm.refl _) rfl rfl rfl) rfl rfl hl.1 rfl (lv_room (Nat.le_of_ble_eq_true rfl)) d_Mo_comesTo_20 ⟨(Nat.le_of_ble_eq_true rfl), (Nat.le_of_ble_eq_true rfl)⟩) hS (fun _ => ((List.Perm.refl _)).symm) (fun _ H locs hI hS => ?_)
  have hI : Iw D A (w_Mo g a0 o1 ++ (rest)) H := hI
  have h9 := Option.some.inj h
  subst h9
  exact W.vret hx hb hr (fun t ht hW => ⟨⟨(), rfl, trivial, ⟨by rw [ht]; exact hI, hKK.moved hW⟩⟩, hS.F ht⟩) hS.2.2 d_Mo_comesTo_23
set_option maxRecDepth 100000 in
set_option maxHeartbeats 4000000 in
theorem t_Mo_comesTo_15 {p : Program} {l : Launch} {e : Env} {s : State} {m : MethodId} {args : Array Value} {below : List Frame} {meth : Method} {c : Code} {D : va_G} {A : Nat → Prop} {g : Nat → ClassId} {rest : va_W} {a0 : Nat → Nat} {ls : Array Slot} {H : Heap} {locs : List Loc} {s0 : S_Mo} {out : S_Mo} (X : Cx p s m args meth c prog_11_method_28_code 2 ws_Mo_comesTo R_Mo none D g) (hl : lv_has ls 2 [(0, .ref (a0 0))]) (hI : Iw D A (w_Mo g a0 s0 ++ (rest)) H) (hS : va_S A s.heap H locs) (h : B_Mo_comesTo_15  s0 = some out) : W p l e (headSpec ws_Mo_comesTo { frames := 1, cells := 0, slots := 0, locals := 20 }).room s m args below meth c H locs 0 0 (MQ below (QcV D A g (fun (_ : Unit) => w_Mo g a0 out ++ (rest))) args s 0 0 A) (F0 m 15 ls [.ref (a0 0)]) := by
  have X1 := X
  obtain ⟨hx, hb, hml, hown, hts, hr, hlocks, hKK⟩ := X1
  have ht : ∀ w ∈ TB, w.before args s = true := fun w h => hts w (List.mem_cons_of_mem _ h)
  have hK := hKK.1
  unfold B_Mo_comesTo_15 at h
  refine lv_iconst (v := 5) hx hb d_Mo_comesTo_15 (by decide) ?_
  exact t_Mo_comesTo_16 X (lv_sub hl [0] rfl) hI hS h
set_option maxRecDepth 100000 in
set_option maxHeartbeats 4000000 in
theorem t_Mo_comesTo_11 {p : Program} {l : Launch} {e : Env} {s : State} {m : MethodId} {args : Array Value} {below : List Frame} {meth : Method} {c : Code} {D : va_G} {A : Nat → Prop} {g : Nat → ClassId} {rest : va_W} {a0 : Nat → Nat} {ls : Array Slot} {H : Heap} {locs : List Loc} {s0 : S_Mo} {out : S_Mo} (X : Cx p s m args meth c prog_11_method_28_code 2 ws_Mo_comesTo R_Mo none D g) (hl : lv_has ls 2 [(0, .ref (a0 0))]) (hI : Iw D A (w_Mo g a0 s0 ++ (rest)) H) (hS : va_S A s.heap H locs) (h : B_Mo_comesTo_11  s0 = some out) : W p l e (headSpec ws_Mo_comesTo { frames := 1, cells := 0, slots := 0, locals := 20 }).room s m args below meth c H locs 0 0 (MQ below (QcV D A g (fun (_ : Unit) => w_Mo g a0 out ++ (rest))) args s 0 0 A) (F0 m 11 ls [.ref (a0 0)]) := by
  have X1 := X
  obtain ⟨hx, hb, hml, hown, hts, hr, hlocks, hKK⟩ := X1
  have ht : ∀ w ∈ TB, w.before args s = true := fun w h => hts w (List.mem_cons_of_mem _ h)
  have hK := hKK.1
  unfold B_Mo_comesTo_11 at h
  refine lv_iconst (v := 0) hx hb d_Mo_comesTo_11 (by decide) ?_
  refine lv_goto (tgt := 16) hx hb d_Mo_comesTo_12 (by decide) ?_
  exact t_Mo_comesTo_16 X (lv_sub hl [0] rfl) hI hS h
set_option maxRecDepth 100000 in
set_option maxHeartbeats 4000000 in
theorem t_Mo_comesTo_0 {p : Program} {l : Launch} {e : Env} {s : State} {m : MethodId} {args : Array Value} {below : List Frame} {meth : Method} {c : Code} {D : va_G} {A : Nat → Prop} {g : Nat → ClassId} {rest : va_W} {a0 : Nat → Nat} {ls : Array Slot} {H : Heap} {locs : List Loc} {s0 : S_Mo} {x1 : Int32} {out : S_Mo} (X : Cx p s m args meth c prog_11_method_28_code 2 ws_Mo_comesTo R_Mo none D g) (hl : lv_has ls 2 [(0, .ref (a0 0)), (1, .int x1)]) (hI : Iw D A (w_Mo g a0 s0 ++ (rest)) H) (hS : va_S A s.heap H locs) (h : B_Mo_comesTo_0  s0 x1 = some out) : W p l e (headSpec ws_Mo_comesTo { frames := 1, cells := 0, slots := 0, locals := 20 }).room s m args below meth c H locs 0 0 (MQ below (QcV D A g (fun (_ : Unit) => w_Mo g a0 out ++ (rest))) args s 0 0 A) (F0 m 0 ls []) := by
  have X1 := X
  obtain ⟨hx, hb, hml, hown, hts, hr, hlocks, hKK⟩ := X1
  have ht : ∀ w ∈ TB, w.before args s = true := fun w h => hts w (List.mem_cons_of_mem _ h)
  have hK := hKK.1
  unfold B_Mo_comesTo_0 at h
  refine lv_aload_n hx hb d_Mo_comesTo_0 rfl (lv_at hl 0 rfl) ?_
  refine lv_iload_n hx hb d_Mo_comesTo_1 rfl (lv_at hl 1 rfl) ?_
  refine pt_Mo_line hx hb ht hown hK hI hS (ht _ m_844) d_Mo_comesTo_2 (fun H locs hI hS => ?_)
  refine lv_aload_n hx hb d_Mo_comesTo_5 rfl (lv_at hl 0 rfl) ?_
  refine lv_iload_n hx hb d_Mo_comesTo_6 rfl (lv_at hl 1 rfl) ?_
  refine lv_iconst (v := 2) hx hb d_Mo_comesTo_7 (by decide) ?_
  refine lv_icmp_ne (tgt := 15) hx hb d_Mo_comesTo_8 (by decide) (fun hc => ?_) (fun hc => ?_)
  · have h := it_f h hc
    exact t_Mo_comesTo_15 X (lv_sub hl [0] rfl) hI hS h
  · have h := it_t h hc
    exact t_Mo_comesTo_11 X (lv_sub hl [0] rfl) hI hS h
set_option maxRecDepth 100000 in
set_option maxHeartbeats 4000000 in
theorem c_Mo_comesTo {l : Launch} {D : va_G} {A : Nat → Prop} {g : Nat → ClassId} {rest : va_W} {a0 : Nat → Nat} {s0 : S_Mo} {x1 : Int32} {out : S_Mo} (h : F_Mo_comesTo s0 x1 = some out) : Met l y_Mo_comesTo ws_Mo_comesTo { frames := 1, cells := 0, slots := 0, locals := 20 } (PcW D A g [.ref (a0 0), .int x1] (w_Mo g a0 s0 ++ (rest))) (QcV D A g (fun (_ : Unit) => w_Mo g a0 out ++ (rest))) 0 0 A := by
  refine Met.ofW (cc := prog_11_method_28_code) (maxL := 2) (ret := none) (by decide) rfl ?_
  intro p e s m args below meth c s₁ B hml hv
  obtain ⟨rfl, hI, hK⟩ := hv
  have hl := lv_entry [.ref (a0 0), .int x1] (n := 2) (Nat.le_of_ble_eq_true rfl)
  rw [lg_entry_eq]
  generalize (lg_sl [.ref (a0 0), .int x1] ++ List.replicate (2 - (lg_sl [.ref (a0 0), .int x1]).length) Slot.unset).toArray = ls at hl ⊢
  have hl : lv_has ls 2 [(0, .ref (a0 0)), (1, .int x1)] := hl
  exact t_Mo_comesTo_0 ⟨B.exec, B.bytes, hml, findClass_of_methodNamed B.named, atoms_spec (ws := ws_Mo_comesTo) B.pre, B.returns, B.notSynchronized, hK⟩ (lv_sub hl [0, 1] rfl) hI va_S.rf h
def ws_Mo_open : List Cond := .code y_Mo_open prog_11_method_30_code 1 (some .boolean) :: TB
def B_Mo_open_14 (s0 : S_Mo) : Option (Int32 × S_Mo) :=
  ((F_Mo_comesTo s0 (1 : Int32)).bind fun o1 => some ((1 : Int32), o1))
def B_Mo_open_12 (s0 : S_Mo) : Option (Int32 × S_Mo) :=
  some ((0 : Int32), s0)
def B_Mo_open_0 (s0 : S_Mo) : Option (Int32 × S_Mo) :=
  (if (Mo_line (Mo_set_code s0 (0 : Int32))) = 0 then (B_Mo_open_14 (Mo_set_code s0 (0 : Int32))) else (B_Mo_open_12 (Mo_set_code s0 (0 : Int32))))
def F_Mo_open (s0 : S_Mo) : Option (Int32 × S_Mo) := B_Mo_open_0 s0
set_option maxRecDepth 100000 in
set_option maxHeartbeats 4000000 in
theorem t_Mo_open_14 {p : Program} {l : Launch} {e : Env} {s : State} {m : MethodId} {args : Array Value} {below : List Frame} {meth : Method} {c : Code} {D : va_G} {A : Nat → Prop} {g : Nat → ClassId} {rest : va_W} {a0 : Nat → Nat} {ls : Array Slot} {H : Heap} {locs : List Loc} {s0 : S_Mo} {out : Int32 × S_Mo} (X : Cx p s m args meth c prog_11_method_30_code 1 ws_Mo_open R_Mo (some .boolean) D g) (hl : lv_has ls 1 [(0, .ref (a0 0))]) (hI : Iw D A (w_Mo g a0 s0 ++ (rest)) H) (hS : va_S A s.heap H locs) (h : B_Mo_open_14  s0 = some out) : W p l e (headSpec ws_Mo_open { frames := 2, cells := 0, slots := 0, locals := 41 }).room s m args below meth c H locs 0 0 (MQ below (QcI D A g out.1 (fun (_ : Unit) => w_Mo g a0 out.2 ++ (rest))) args s 0 0 A) (F0 m 14 ls []) := by
  have X1 := X
  obtain ⟨hx, hb, hml, hown, hts, hr, hlocks, hKK⟩ := X1
  have ht : ∀ w ∈ TB, w.before args s = true := fun w h => hts w (List.mem_cons_of_mem _ h)
  have hK := hKK.1
  unfold B_Mo_open_14 at h
  refine lv_aload_n hx hb d_Mo_open_14 rfl (lv_at hl 0 rfl) ?_
  refine lv_iconst (v := 1) hx hb d_Mo_open_15 (by decide) ?_
  obtain ⟨o1, ho2, h⟩ := bd_s h
  refine cl_v (W1 := fun (_ : Unit) => w_Mo g a0 o1 ++ (rest)) (va_runV (As := [.int (1 : Int32)]) (rest := []) ⟨hx, hb, hml, hown, ht⟩ (c_Mo_comesTo (l := l) (D := D) (A := A) (g := g) (rest := rest) (a0 := a0) ho2) (cwV 1 ht (gd_V m_1064 m_1066 mp_52 m_11 m_1067) rfl rfl rfl (by decide +kernel) ⟨(Nat.le_of_ble_eq_true rfl), (Nat.le_of_ble_eq_true rfl)⟩) (prV (ci := 9) (q0 := 0) hKK hI (List.Perm.refl _) rfl rfl rfl) rfl rfl hl.1 rfl (lv_room (Nat.le_of_ble_eq_true rfl)) d_Mo_open_16 ⟨(Nat.le_of_ble_eq_true rfl), (Nat.le_of_ble_eq_true rfl)⟩) hS (fun _ => ((List.Perm.refl _)).symm) (fun _ H locs hI hS => ?_)
  have hI : Iw D A (w_Mo g a0 o1 ++ (rest)) H := hI
  refine lv_iconst (v := 1) hx hb d_Mo_open_19 (by decide) ?_
  have h9 := Option.some.inj h
  subst h9
  exact W.zret (v := (1 : Int32)) hx hb hr rfl (fun t ht hW => ⟨⟨_, (), rfl, rfl, ⟨by rw [ht]; exact hI, hKK.moved hW⟩⟩, hS.F ht⟩) hS.2.2 d_Mo_open_20
set_option maxRecDepth 100000 in
set_option maxHeartbeats 4000000 in
theorem t_Mo_open_12 {p : Program} {l : Launch} {e : Env} {s : State} {m : MethodId} {args : Array Value} {below : List Frame} {meth : Method} {c : Code} {D : va_G} {A : Nat → Prop} {g : Nat → ClassId} {rest : va_W} {a0 : Nat → Nat} {ls : Array Slot} {H : Heap} {locs : List Loc} {s0 : S_Mo} {out : Int32 × S_Mo} (X : Cx p s m args meth c prog_11_method_30_code 1 ws_Mo_open R_Mo (some .boolean) D g) (hl : lv_has ls 1 []) (hI : Iw D A (w_Mo g a0 s0 ++ (rest)) H) (hS : va_S A s.heap H locs) (h : B_Mo_open_12  s0 = some out) : W p l e (headSpec ws_Mo_open { frames := 2, cells := 0, slots := 0, locals := 41 }).room s m args below meth c H locs 0 0 (MQ below (QcI D A g out.1 (fun (_ : Unit) => w_Mo g a0 out.2 ++ (rest))) args s 0 0 A) (F0 m 12 ls []) := by
  have X1 := X
  obtain ⟨hx, hb, hml, hown, hts, hr, hlocks, hKK⟩ := X1
  have ht : ∀ w ∈ TB, w.before args s = true := fun w h => hts w (List.mem_cons_of_mem _ h)
  have hK := hKK.1
  unfold B_Mo_open_12 at h
  refine lv_iconst (v := 0) hx hb d_Mo_open_12 (by decide) ?_
  have h9 := Option.some.inj h
  subst h9
  exact W.zret (v := (0 : Int32)) hx hb hr rfl (fun t ht hW => ⟨⟨_, (), rfl, rfl, ⟨by rw [ht]; exact hI, hKK.moved hW⟩⟩, hS.F ht⟩) hS.2.2 d_Mo_open_13
set_option maxRecDepth 100000 in
set_option maxHeartbeats 4000000 in
theorem t_Mo_open_0 {p : Program} {l : Launch} {e : Env} {s : State} {m : MethodId} {args : Array Value} {below : List Frame} {meth : Method} {c : Code} {D : va_G} {A : Nat → Prop} {g : Nat → ClassId} {rest : va_W} {a0 : Nat → Nat} {ls : Array Slot} {H : Heap} {locs : List Loc} {s0 : S_Mo} {out : Int32 × S_Mo} (X : Cx p s m args meth c prog_11_method_30_code 1 ws_Mo_open R_Mo (some .boolean) D g) (hl : lv_has ls 1 [(0, .ref (a0 0))]) (hI : Iw D A (w_Mo g a0 s0 ++ (rest)) H) (hS : va_S A s.heap H locs) (h : B_Mo_open_0  s0 = some out) : W p l e (headSpec ws_Mo_open { frames := 2, cells := 0, slots := 0, locals := 41 }).room s m args below meth c H locs 0 0 (MQ below (QcI D A g out.1 (fun (_ : Unit) => w_Mo g a0 out.2 ++ (rest))) args s 0 0 A) (F0 m 0 ls []) := by
  have X1 := X
  obtain ⟨hx, hb, hml, hown, hts, hr, hlocks, hKK⟩ := X1
  have ht : ∀ w ∈ TB, w.before args s = true := fun w h => hts w (List.mem_cons_of_mem _ h)
  have hK := hKK.1
  unfold B_Mo_open_0 at h
  refine lv_aload_n hx hb d_Mo_open_0 rfl (lv_at hl 0 rfl) ?_
  refine lv_iconst (v := 0) hx hb d_Mo_open_1 (by decide) ?_
  refine pt_Mo_code hx hb ht hown hK hI hS (ht _ m_817) d_Mo_open_2 (fun H locs hI hS => ?_)
  refine lv_aload_n hx hb d_Mo_open_5 rfl (lv_at hl 0 rfl) ?_
  refine gt_Mo_line hx hb ht hown hK hI (ht _ m_844) d_Mo_open_6 ?_
  refine lv_if_eq (tgt := 14) hx hb d_Mo_open_9 (by decide) (fun hc => ?_) (fun hc => ?_)
  · have h := it_t h hc
    exact t_Mo_open_14 X (lv_sub hl [0] rfl) hI hS h
  · have h := it_f h hc
    exact t_Mo_open_12 X (lv_sub hl [] rfl) hI hS h
set_option maxRecDepth 100000 in
set_option maxHeartbeats 4000000 in
theorem c_Mo_open {l : Launch} {D : va_G} {A : Nat → Prop} {g : Nat → ClassId} {rest : va_W} {a0 : Nat → Nat} {s0 : S_Mo} {out : Int32 × S_Mo} (h : F_Mo_open s0 = some out) : Met l y_Mo_open ws_Mo_open { frames := 2, cells := 0, slots := 0, locals := 41 } (PcW D A g [.ref (a0 0)] (w_Mo g a0 s0 ++ (rest))) (QcI D A g out.1 (fun (_ : Unit) => w_Mo g a0 out.2 ++ (rest))) 0 0 A := by
  refine Met.ofW (cc := prog_11_method_30_code) (maxL := 1) (ret := (some .boolean)) (by decide) rfl ?_
  intro p e s m args below meth c s₁ B hml hv
  obtain ⟨rfl, hI, hK⟩ := hv
  have hl := lv_entry [.ref (a0 0)] (n := 1) (Nat.le_of_ble_eq_true rfl)
  rw [lg_entry_eq]
  generalize (lg_sl [.ref (a0 0)] ++ List.replicate (1 - (lg_sl [.ref (a0 0)]).length) Slot.unset).toArray = ls at hl ⊢
  have hl : lv_has ls 1 [(0, .ref (a0 0))] := hl
  exact t_Mo_open_0 ⟨B.exec, B.bytes, hml, findClass_of_methodNamed B.named, atoms_spec (ws := ws_Mo_open) B.pre, B.returns, B.notSynchronized, hK⟩ (lv_sub hl [0] rfl) hI va_S.rf h
def ws_Mo_shut : List Cond := .code y_Mo_shut prog_11_method_25_code 1 none :: TB
def B_Mo_shut_0 (s0 : S_Mo) : Option S_Mo :=
  ((F_Mo_forget (Mo_set_inputs (Mo_set_timer (Mo_set_line s0 (0 : Int32)) (0 : Int32)) (0 : Int32))).bind fun o1 => some o1)
def F_Mo_shut (s0 : S_Mo) : Option S_Mo := B_Mo_shut_0 s0
set_option maxRecDepth 100000 in
set_option maxHeartbeats 4000000 in
theorem t_Mo_shut_0 {p : Program} {l : Launch} {e : Env} {s : State} {m : MethodId} {args : Array Value} {below : List Frame} {meth : Method} {c : Code} {D : va_G} {A : Nat → Prop} {g : Nat → ClassId} {rest : va_W} {a0 : Nat → Nat} {ls : Array Slot} {H : Heap} {locs : List Loc} {s0 : S_Mo} {out : S_Mo} (X : Cx p s m args meth c prog_11_method_25_code 1 ws_Mo_shut R_Mo none D g) (hl : lv_has ls 1 [(0, .ref (a0 0))]) (hI : Iw D A (w_Mo g a0 s0 ++ (rest)) H) (hS : va_S A s.heap H locs) (h : B_Mo_shut_0  s0 = some out) : W p l e (headSpec ws_Mo_shut { frames := 1, cells := 0, slots := 0, locals := 20 }).room s m args below meth c H locs 0 0 (MQ below (QcV D A g (fun (_ : Unit) => w_Mo g a0 out ++ (rest))) args s 0 0 A) (F0 m 0 ls []) := by
  have X1 := X
  obtain ⟨hx, hb, hml, hown, hts, hr, hlocks, hKK⟩ := X1
  have ht : ∀ w ∈ TB, w.before args s = true := fun w h => hts w (List.mem_cons_of_mem _ h)
  have hK := hKK.1
  unfold B_Mo_shut_0 at h
  refine lv_aload_n hx hb d_Mo_shut_0 rfl (lv_at hl 0 rfl) ?_
  refine lv_iconst (v := 0) hx hb d_Mo_shut_1 (by decide) ?_
  refine pt_Mo_line hx hb ht hown hK hI hS (ht _ m_844) d_Mo_shut_2 (fun H locs hI hS => ?_)
  refine lv_aload_n hx hb d_Mo_shut_5 rfl (lv_at hl 0 rfl) ?_
  refine lv_iconst (v := 0) hx hb d_Mo_shut_6 (by decide) ?_
  refine pt_Mo_timer hx hb ht hown hK hI hS (ht _ m_845) d_Mo_shut_7 (fun H locs hI hS => ?_)
  refine lv_aload_n hx hb d_Mo_shut_10 rfl (lv_at hl 0 rfl) ?_
  refine lv_iconst (v := 0) hx hb d_Mo_shut_11 (by decide) ?_
  refine pt_Mo_inputs hx hb ht hown hK hI hS (ht _ m_847) d_Mo_shut_12 (fun H locs hI hS => ?_)
  refine lv_aload_n hx hb d_Mo_shut_15 rfl (lv_at hl 0 rfl) ?_
  obtain ⟨o1, ho2, h⟩ := bd_s h
  refine cl_v (W1 := fun (_ : Unit) => w_Mo g a0 o1 ++ (rest)) (va_runV (As := []) (rest := []) ⟨hx, hb, hml, hown, ht⟩ (c_Mo_forget (l := l) (D := D) (A := A) (g := g) (rest := rest) (a0 := a0) ho2) (cwV 0 ht (gd_V m_1068 m_1070 mp_53 m_11 m_1071) rfl rfl rfl (by decide +kernel) ⟨(Nat.le_of_ble_eq_true rfl), (Nat.le_of_ble_eq_true rfl)⟩) (prV (ci := 9) (q0 := 0) hKK hI (List.Perm.refl _) rfl rfl rfl) rfl rfl hl.1 rfl (lv_room (Nat.le_of_ble_eq_true rfl)) d_Mo_shut_16 ⟨(Nat.le_of_ble_eq_true rfl), (Nat.le_of_ble_eq_true rfl)⟩) hS (fun _ => ((List.Perm.refl _)).symm) (fun _ H locs hI hS => ?_)
  have hI : Iw D A (w_Mo g a0 o1 ++ (rest)) H := hI
  have h9 := Option.some.inj h
  subst h9
  exact W.vret hx hb hr (fun t ht hW => ⟨⟨(), rfl, trivial, ⟨by rw [ht]; exact hI, hKK.moved hW⟩⟩, hS.F ht⟩) hS.2.2 d_Mo_shut_19
set_option maxRecDepth 100000 in
set_option maxHeartbeats 4000000 in
theorem c_Mo_shut {l : Launch} {D : va_G} {A : Nat → Prop} {g : Nat → ClassId} {rest : va_W} {a0 : Nat → Nat} {s0 : S_Mo} {out : S_Mo} (h : F_Mo_shut s0 = some out) : Met l y_Mo_shut ws_Mo_shut { frames := 1, cells := 0, slots := 0, locals := 20 } (PcW D A g [.ref (a0 0)] (w_Mo g a0 s0 ++ (rest))) (QcV D A g (fun (_ : Unit) => w_Mo g a0 out ++ (rest))) 0 0 A := by
  refine Met.ofW (cc := prog_11_method_25_code) (maxL := 1) (ret := none) (by decide) rfl ?_
  intro p e s m args below meth c s₁ B hml hv
  obtain ⟨rfl, hI, hK⟩ := hv
  have hl := lv_entry [.ref (a0 0)] (n := 1) (Nat.le_of_ble_eq_true rfl)
  rw [lg_entry_eq]
  generalize (lg_sl [.ref (a0 0)] ++ List.replicate (1 - (lg_sl [.ref (a0 0)]).length) Slot.unset).toArray = ls at hl ⊢
  have hl : lv_has ls 1 [(0, .ref (a0 0))] := hl
  exact t_Mo_shut_0 ⟨B.exec, B.bytes, hml, findClass_of_methodNamed B.named, atoms_spec (ws := ws_Mo_shut) B.pre, B.returns, B.notSynchronized, hK⟩ (lv_sub hl [0] rfl) hI va_S.rf h
def ws_Mo_close : List Cond := .code y_Mo_close prog_11_method_31_code 1 (some .boolean) :: TB
def B_Mo_close_14 (s0 : S_Mo) : Option (Int32 × S_Mo) :=
  ((F_Mo_shut s0).bind fun o1 => some ((1 : Int32), o1))
def B_Mo_close_12 (s0 : S_Mo) : Option (Int32 × S_Mo) :=
  some ((0 : Int32), s0)
def B_Mo_close_0 (s0 : S_Mo) : Option (Int32 × S_Mo) :=
  (if (Mo_line (Mo_set_code s0 (0 : Int32))) = 0 then (B_Mo_close_12 (Mo_set_code s0 (0 : Int32))) else (B_Mo_close_14 (Mo_set_code s0 (0 : Int32))))
def F_Mo_close (s0 : S_Mo) : Option (Int32 × S_Mo) := B_Mo_close_0 s0
set_option maxRecDepth 100000 in
set_option maxHeartbeats 4000000 in
theorem t_Mo_close_14 {p : Program} {l : Launch} {e : Env} {s : State} {m : MethodId} {args : Array Value} {below : List Frame} {meth : Method} {c : Code} {D : va_G} {A : Nat → Prop} {g : Nat → ClassId} {rest : va_W} {a0 : Nat → Nat} {ls : Array Slot} {H : Heap} {locs : List Loc} {s0 : S_Mo} {out : Int32 × S_Mo} (X : Cx p s m args meth c prog_11_method_31_code 1 ws_Mo_close R_Mo (some .boolean) D g) (hl : lv_has ls 1 [(0, .ref (a0 0))]) (hI : Iw D A (w_Mo g a0 s0 ++ (rest)) H) (hS : va_S A s.heap H locs) (h : B_Mo_close_14  s0 = some out) : W p l e (headSpec ws_Mo_close { frames := 2, cells := 0, slots := 0, locals := 40 }).room s m args below meth c H locs 0 0 (MQ below (QcI D A g out.1 (fun (_ : Unit) => w_Mo g a0 out.2 ++ (rest))) args s 0 0 A) (F0 m 14 ls []) := by
  have X1 := X
  obtain ⟨hx, hb, hml, hown, hts, hr, hlocks, hKK⟩ := X1
  have ht : ∀ w ∈ TB, w.before args s = true := fun w h => hts w (List.mem_cons_of_mem _ h)
  have hK := hKK.1
  unfold B_Mo_close_14 at h
  refine lv_aload_n hx hb d_Mo_close_14 rfl (lv_at hl 0 rfl) ?_
  obtain ⟨o1, ho2, h⟩ := bd_s h
  refine cl_v (W1 := fun (_ : Unit) => w_Mo g a0 o1 ++ (rest)) (va_runV (As := []) (rest := []) ⟨hx, hb, hml, hown, ht⟩ (c_Mo_shut (l := l) (D := D) (A := A) (g := g) (rest := rest) (a0 := a0) ho2) (cwV 0 ht (gd_V m_1076 m_1078 mp_54 m_11 m_1079) rfl rfl rfl (by decide +kernel) ⟨(Nat.le_of_ble_eq_true rfl), (Nat.le_of_ble_eq_true rfl)⟩) (prV (ci := 9) (q0 := 0) hKK hI (List.Perm.refl _) rfl rfl rfl) rfl rfl hl.1 rfl (lv_room (Nat.le_of_ble_eq_true rfl)) d_Mo_close_15 ⟨(Nat.le_of_ble_eq_true rfl), (Nat.le_of_ble_eq_true rfl)⟩) hS (fun _ => ((List.Perm.refl _)).symm) (fun _ H locs hI hS => ?_)
  have hI : Iw D A (w_Mo g a0 o1 ++ (rest)) H := hI
  refine lv_iconst (v := 1) hx hb d_Mo_close_18 (by decide) ?_
  have h9 := Option.some.inj h
  subst h9
  exact W.zret (v := (1 : Int32)) hx hb hr rfl (fun t ht hW => ⟨⟨_, (), rfl, rfl, ⟨by rw [ht]; exact hI, hKK.moved hW⟩⟩, hS.F ht⟩) hS.2.2 d_Mo_close_19
set_option maxRecDepth 100000 in
set_option maxHeartbeats 4000000 in
theorem t_Mo_close_12 {p : Program} {l : Launch} {e : Env} {s : State} {m : MethodId} {args : Array Value} {below : List Frame} {meth : Method} {c : Code} {D : va_G} {A : Nat → Prop} {g : Nat → ClassId} {rest : va_W} {a0 : Nat → Nat} {ls : Array Slot} {H : Heap} {locs : List Loc} {s0 : S_Mo} {out : Int32 × S_Mo} (X : Cx p s m args meth c prog_11_method_31_code 1 ws_Mo_close R_Mo (some .boolean) D g) (hl : lv_has ls 1 []) (hI : Iw D A (w_Mo g a0 s0 ++ (rest)) H) (hS : va_S A s.heap H locs) (h : B_Mo_close_12  s0 = some out) : W p l e (headSpec ws_Mo_close { frames := 2, cells := 0, slots := 0, locals := 40 }).room s m args below meth c H locs 0 0 (MQ below (QcI D A g out.1 (fun (_ : Unit) => w_Mo g a0 out.2 ++ (rest))) args s 0 0 A) (F0 m 12 ls []) := by
  have X1 := X
  obtain ⟨hx, hb, hml, hown, hts, hr, hlocks, hKK⟩ := X1
  have ht : ∀ w ∈ TB, w.before args s = true := fun w h => hts w (List.mem_cons_of_mem _ h)
  have hK := hKK.1
  unfold B_Mo_close_12 at h
  refine lv_iconst (v := 0) hx hb d_Mo_close_12 (by decide) ?_
  have h9 := Option.some.inj h
  subst h9
  exact W.zret (v := (0 : Int32)) hx hb hr rfl (fun t ht hW => ⟨⟨_, (), rfl, rfl, ⟨by rw [ht]; exact hI, hKK.moved hW⟩⟩, hS.F ht⟩) hS.2.2 d_Mo_close_13
set_option maxRecDepth 100000 in
set_option maxHeartbeats 4000000 in
theorem t_Mo_close_0 {p : Program} {l : Launch} {e : Env} {s : State} {m : MethodId} {args : Array Value} {below : List Frame} {meth : Method} {c : Code} {D : va_G} {A : Nat → Prop} {g : Nat → ClassId} {rest : va_W} {a0 : Nat → Nat} {ls : Array Slot} {H : Heap} {locs : List Loc} {s0 : S_Mo} {out : Int32 × S_Mo} (X : Cx p s m args meth c prog_11_method_31_code 1 ws_Mo_close R_Mo (some .boolean) D g) (hl : lv_has ls 1 [(0, .ref (a0 0))]) (hI : Iw D A (w_Mo g a0 s0 ++ (rest)) H) (hS : va_S A s.heap H locs) (h : B_Mo_close_0  s0 = some out) : W p l e (headSpec ws_Mo_close { frames := 2, cells := 0, slots := 0, locals := 40 }).room s m args below meth c H locs 0 0 (MQ below (QcI D A g out.1 (fun (_ : Unit) => w_Mo g a0 out.2 ++ (rest))) args s 0 0 A) (F0 m 0 ls []) := by
  have X1 := X
  obtain ⟨hx, hb, hml, hown, hts, hr, hlocks, hKK⟩ := X1
  have ht : ∀ w ∈ TB, w.before args s = true := fun w h => hts w (List.mem_cons_of_mem _ h)
  have hK := hKK.1
  unfold B_Mo_close_0 at h
  refine lv_aload_n hx hb d_Mo_close_0 rfl (lv_at hl 0 rfl) ?_
  refine lv_iconst (v := 0) hx hb d_Mo_close_1 (by decide) ?_
  refine pt_Mo_code hx hb ht hown hK hI hS (ht _ m_817) d_Mo_close_2 (fun H locs hI hS => ?_)
  refine lv_aload_n hx hb d_Mo_close_5 rfl (lv_at hl 0 rfl) ?_
  refine gt_Mo_line hx hb ht hown hK hI (ht _ m_844) d_Mo_close_6 ?_
  refine lv_if_ne (tgt := 14) hx hb d_Mo_close_9 (by decide) (fun hc => ?_) (fun hc => ?_)
  · have h := it_f h hc
    exact t_Mo_close_14 X (lv_sub hl [0] rfl) hI hS h
  · have h := it_t h hc
    exact t_Mo_close_12 X (lv_sub hl [] rfl) hI hS h
set_option maxRecDepth 100000 in
set_option maxHeartbeats 4000000 in
theorem c_Mo_close {l : Launch} {D : va_G} {A : Nat → Prop} {g : Nat → ClassId} {rest : va_W} {a0 : Nat → Nat} {s0 : S_Mo} {out : Int32 × S_Mo} (h : F_Mo_close s0 = some out) : Met l y_Mo_close ws_Mo_close { frames := 2, cells := 0, slots := 0, locals := 40 } (PcW D A g [.ref (a0 0)] (w_Mo g a0 s0 ++ (rest))) (QcI D A g out.1 (fun (_ : Unit) => w_Mo g a0 out.2 ++ (rest))) 0 0 A := by
  refine Met.ofW (cc := prog_11_method_31_code) (maxL := 1) (ret := (some .boolean)) (by decide) rfl ?_
  intro p e s m args below meth c s₁ B hml hv
  obtain ⟨rfl, hI, hK⟩ := hv
  have hl := lv_entry [.ref (a0 0)] (n := 1) (Nat.le_of_ble_eq_true rfl)
  rw [lg_entry_eq]
  generalize (lg_sl [.ref (a0 0)] ++ List.replicate (1 - (lg_sl [.ref (a0 0)]).length) Slot.unset).toArray = ls at hl ⊢
  have hl : lv_has ls 1 [(0, .ref (a0 0))] := hl
  exact t_Mo_close_0 ⟨B.exec, B.bytes, hml, findClass_of_methodNamed B.named, atoms_spec (ws := ws_Mo_close) B.pre, B.returns, B.notSynchronized, hK⟩ (lv_sub hl [0] rfl) hI va_S.rf h
def ws_Mo_tick : List Cond := .code y_Mo_tick prog_11_method_55_code 1 (some .int) :: TB
def B_Mo_tick_33 (s0 : S_Mo) : Option (Int32 × S_Mo) :=
  some ((Mo_timer s0), s0)
def B_Mo_tick_29 (s0 : S_Mo) : Option (Int32 × S_Mo) :=
  ((F_Mo_shut s0).bind fun o1 => (B_Mo_tick_33 o1))
def B_Mo_tick_12 (s0 : S_Mo) : Option (Int32 × S_Mo) :=
  (if (Mo_timer (Mo_set_timer s0 ((Mo_timer s0) - (1 : Int32)))) = 0 then (B_Mo_tick_29 (Mo_set_timer s0 ((Mo_timer s0) - (1 : Int32)))) else (B_Mo_tick_33 (Mo_set_timer s0 ((Mo_timer s0) - (1 : Int32)))))
def B_Mo_tick_0 (s0 : S_Mo) : Option (Int32 × S_Mo) :=
  (if (Mo_timer (Mo_set_code s0 (0 : Int32))) ≤ 0 then (B_Mo_tick_33 (Mo_set_code s0 (0 : Int32))) else (B_Mo_tick_12 (Mo_set_code s0 (0 : Int32))))
def F_Mo_tick (s0 : S_Mo) : Option (Int32 × S_Mo) := B_Mo_tick_0 s0
set_option maxRecDepth 100000 in
set_option maxHeartbeats 4000000 in
theorem t_Mo_tick_33 {p : Program} {l : Launch} {e : Env} {s : State} {m : MethodId} {args : Array Value} {below : List Frame} {meth : Method} {c : Code} {D : va_G} {A : Nat → Prop} {g : Nat → ClassId} {rest : va_W} {a0 : Nat → Nat} {ls : Array Slot} {H : Heap} {locs : List Loc} {s0 : S_Mo} {out : Int32 × S_Mo} (X : Cx p s m args meth c prog_11_method_55_code 1 ws_Mo_tick R_Mo (some .int) D g) (hl : lv_has ls 1 [(0, .ref (a0 0))]) (hI : Iw D A (w_Mo g a0 s0 ++ (rest)) H) (hS : va_S A s.heap H locs) (h : B_Mo_tick_33  s0 = some out) : W p l e (headSpec ws_Mo_tick { frames := 2, cells := 0, slots := 0, locals := 40 }).room s m args below meth c H locs 0 0 (MQ below (QcI D A g out.1 (fun (_ : Unit) => w_Mo g a0 out.2 ++ (rest))) args s 0 0 A) (F0 m 33 ls []) := by
  have X1 := X
  obtain ⟨hx, hb, hml, hown, hts, hr, hlocks, hKK⟩ := X1
  have ht : ∀ w ∈ TB, w.before args s = true := fun w h => hts w (List.mem_cons_of_mem _ h)
  have hK := hKK.1
  unfold B_Mo_tick_33 at h
  refine lv_aload_n hx hb d_Mo_tick_33 rfl (lv_at hl 0 rfl) ?_
  refine gt_Mo_timer hx hb ht hown hK hI (ht _ m_845) d_Mo_tick_34 ?_
  have h9 := Option.some.inj h
  subst h9
  exact W.iret (v := (Mo_timer s0)) hx hb hr (fun t ht hW => ⟨⟨_, (), rfl, rfl, ⟨by rw [ht]; exact hI, hKK.moved hW⟩⟩, hS.F ht⟩) hS.2.2 d_Mo_tick_37
set_option maxRecDepth 100000 in
set_option maxHeartbeats 4000000 in
theorem t_Mo_tick_29 {p : Program} {l : Launch} {e : Env} {s : State} {m : MethodId} {args : Array Value} {below : List Frame} {meth : Method} {c : Code} {D : va_G} {A : Nat → Prop} {g : Nat → ClassId} {rest : va_W} {a0 : Nat → Nat} {ls : Array Slot} {H : Heap} {locs : List Loc} {s0 : S_Mo} {out : Int32 × S_Mo} (X : Cx p s m args meth c prog_11_method_55_code 1 ws_Mo_tick R_Mo (some .int) D g) (hl : lv_has ls 1 [(0, .ref (a0 0))]) (hI : Iw D A (w_Mo g a0 s0 ++ (rest)) H) (hS : va_S A s.heap H locs) (h : B_Mo_tick_29  s0 = some out) : W p l e (headSpec ws_Mo_tick { frames := 2, cells := 0, slots := 0, locals := 40 }).room s m args below meth c H locs 0 0 (MQ below (QcI D A g out.1 (fun (_ : Unit) => w_Mo g a0 out.2 ++ (rest))) args s 0 0 A) (F0 m 29 ls []) := by
  have X1 := X
  obtain ⟨hx, hb, hml, hown, hts, hr, hlocks, hKK⟩ := X1
  have ht : ∀ w ∈ TB, w.before args s = true := fun w h => hts w (List.mem_cons_of_mem _ h)
  have hK := hKK.1
  unfold B_Mo_tick_29 at h
  refine lv_aload_n hx hb d_Mo_tick_29 rfl (lv_at hl 0 rfl) ?_
  obtain ⟨o1, ho2, h⟩ := bd_s h
  refine cl_v (W1 := fun (_ : Unit) => w_Mo g a0 o1 ++ (rest)) (va_runV (As := []) (rest := []) ⟨hx, hb, hml, hown, ht⟩ (c_Mo_shut (l := l) (D := D) (A := A) (g := g) (rest := rest) (a0 := a0) ho2) (cwV 0 ht (gd_V m_1076 m_1078 mp_54 m_11 m_1079) rfl rfl rfl (by decide +kernel) ⟨(Nat.le_of_ble_eq_true rfl), (Nat.le_of_ble_eq_true rfl)⟩) (prV (ci := 9) (q0 := 0) hKK hI (List.Perm.refl _) rfl rfl rfl) rfl rfl hl.1 rfl (lv_room (Nat.le_of_ble_eq_true rfl)) d_Mo_tick_30 ⟨(Nat.le_of_ble_eq_true rfl), (Nat.le_of_ble_eq_true rfl)⟩) hS (fun _ => ((List.Perm.refl _)).symm) (fun _ H locs hI hS => ?_)
  have hI : Iw D A (w_Mo g a0 o1 ++ (rest)) H := hI
  exact t_Mo_tick_33 X (lv_sub hl [0] rfl) hI hS h
set_option maxRecDepth 100000 in
set_option maxHeartbeats 4000000 in
theorem t_Mo_tick_12 {p : Program} {l : Launch} {e : Env} {s : State} {m : MethodId} {args : Array Value} {below : List Frame} {meth : Method} {c : Code} {D : va_G} {A : Nat → Prop} {g : Nat → ClassId} {rest : va_W} {a0 : Nat → Nat} {ls : Array Slot} {H : Heap} {locs : List Loc} {s0 : S_Mo} {out : Int32 × S_Mo} (X : Cx p s m args meth c prog_11_method_55_code 1 ws_Mo_tick R_Mo (some .int) D g) (hl : lv_has ls 1 [(0, .ref (a0 0))]) (hI : Iw D A (w_Mo g a0 s0 ++ (rest)) H) (hS : va_S A s.heap H locs) (h : B_Mo_tick_12  s0 = some out) : W p l e (headSpec ws_Mo_tick { frames := 2, cells := 0, slots := 0, locals := 40 }).room s m args below meth c H locs 0 0 (MQ below (QcI D A g out.1 (fun (_ : Unit) => w_Mo g a0 out.2 ++ (rest))) args s 0 0 A) (F0 m 12 ls []) := by
  have X1 := X
  obtain ⟨hx, hb, hml, hown, hts, hr, hlocks, hKK⟩ := X1
  have ht : ∀ w ∈ TB, w.before args s = true := fun w h => hts w (List.mem_cons_of_mem _ h)
  have hK := hKK.1
  unfold B_Mo_tick_12 at h
  refine lv_aload_n hx hb d_Mo_tick_12 rfl (lv_at hl 0 rfl) ?_
  refine lv_dup hx hb d_Mo_tick_13 rfl ?_
  refine gt_Mo_timer hx hb ht hown hK hI (ht _ m_845) d_Mo_tick_14 ?_
  refine lv_iconst (v := 1) hx hb d_Mo_tick_17 (by decide) ?_
  refine lv_isub hx hb d_Mo_tick_18 ?_
  refine pt_Mo_timer hx hb ht hown hK hI hS (ht _ m_845) d_Mo_tick_19 (fun H locs hI hS => ?_)
  refine lv_aload_n hx hb d_Mo_tick_22 rfl (lv_at hl 0 rfl) ?_
  refine gt_Mo_timer hx hb ht hown hK hI (ht _ m_845) d_Mo_tick_23 ?_
  refine lv_if_ne (tgt := 33) hx hb d_Mo_tick_26 (by decide) (fun hc => ?_) (fun hc => ?_)
  · have h := it_f h hc
    exact t_Mo_tick_33 X (lv_sub hl [0] rfl) hI hS h
  · have h := it_t h hc
    exact t_Mo_tick_29 X (lv_sub hl [0] rfl) hI hS h
set_option maxRecDepth 100000 in
set_option maxHeartbeats 4000000 in
theorem t_Mo_tick_0 {p : Program} {l : Launch} {e : Env} {s : State} {m : MethodId} {args : Array Value} {below : List Frame} {meth : Method} {c : Code} {D : va_G} {A : Nat → Prop} {g : Nat → ClassId} {rest : va_W} {a0 : Nat → Nat} {ls : Array Slot} {H : Heap} {locs : List Loc} {s0 : S_Mo} {out : Int32 × S_Mo} (X : Cx p s m args meth c prog_11_method_55_code 1 ws_Mo_tick R_Mo (some .int) D g) (hl : lv_has ls 1 [(0, .ref (a0 0))]) (hI : Iw D A (w_Mo g a0 s0 ++ (rest)) H) (hS : va_S A s.heap H locs) (h : B_Mo_tick_0  s0 = some out) : W p l e (headSpec ws_Mo_tick { frames := 2, cells := 0, slots := 0, locals := 40 }).room s m args below meth c H locs 0 0 (MQ below (QcI D A g out.1 (fun (_ : Unit) => w_Mo g a0 out.2 ++ (rest))) args s 0 0 A) (F0 m 0 ls []) := by
  have X1 := X
  obtain ⟨hx, hb, hml, hown, hts, hr, hlocks, hKK⟩ := X1
  have ht : ∀ w ∈ TB, w.before args s = true := fun w h => hts w (List.mem_cons_of_mem _ h)
  have hK := hKK.1
  unfold B_Mo_tick_0 at h
  refine lv_aload_n hx hb d_Mo_tick_0 rfl (lv_at hl 0 rfl) ?_
  refine lv_iconst (v := 0) hx hb d_Mo_tick_1 (by decide) ?_
  refine pt_Mo_code hx hb ht hown hK hI hS (ht _ m_817) d_Mo_tick_2 (fun H locs hI hS => ?_)
  refine lv_aload_n hx hb d_Mo_tick_5 rfl (lv_at hl 0 rfl) ?_
  refine gt_Mo_timer hx hb ht hown hK hI (ht _ m_845) d_Mo_tick_6 ?_
  refine lv_if_le (tgt := 33) hx hb d_Mo_tick_9 (by decide) (fun hc => ?_) (fun hc => ?_)
  · have h := it_t h hc
    exact t_Mo_tick_33 X (lv_sub hl [0] rfl) hI hS h
  · have h := it_f h hc
    exact t_Mo_tick_12 X (lv_sub hl [0] rfl) hI hS h
set_option maxRecDepth 100000 in
set_option maxHeartbeats 4000000 in
theorem c_Mo_tick {l : Launch} {D : va_G} {A : Nat → Prop} {g : Nat → ClassId} {rest : va_W} {a0 : Nat → Nat} {s0 : S_Mo} {out : Int32 × S_Mo} (h : F_Mo_tick s0 = some out) : Met l y_Mo_tick ws_Mo_tick { frames := 2, cells := 0, slots := 0, locals := 40 } (PcW D A g [.ref (a0 0)] (w_Mo g a0 s0 ++ (rest))) (QcI D A g out.1 (fun (_ : Unit) => w_Mo g a0 out.2 ++ (rest))) 0 0 A := by
  refine Met.ofW (cc := prog_11_method_55_code) (maxL := 1) (ret := (some .int)) (by decide) rfl ?_
  intro p e s m args below meth c s₁ B hml hv
  obtain ⟨rfl, hI, hK⟩ := hv
  have hl := lv_entry [.ref (a0 0)] (n := 1) (Nat.le_of_ble_eq_true rfl)
  rw [lg_entry_eq]
  generalize (lg_sl [.ref (a0 0)] ++ List.replicate (1 - (lg_sl [.ref (a0 0)]).length) Slot.unset).toArray = ls at hl ⊢
  have hl : lv_has ls 1 [(0, .ref (a0 0))] := hl
  exact t_Mo_tick_0 ⟨B.exec, B.bytes, hml, findClass_of_methodNamed B.named, atoms_spec (ws := ws_Mo_tick) B.pre, B.returns, B.notSynchronized, hK⟩ (lv_sub hl [0] rfl) hI va_S.rf h
def ws_Mo_take : List Cond := .code y_Mo_take prog_11_method_56_code 3 (some .int) :: TB
def B_Mo_take_72 (s0 : S_Mo) (x1 : Int32) : Option (Int32 × S_Mo) :=
  some (x1, s0)
def B_Mo_take_52 (k44 : S_Mo × Int32 × Int32 → Option (Int32 × S_Mo)) (s0 : S_Mo) (x1 : Int32) (x2 : Int32) : Option (Int32 × S_Mo) :=
  (if ((x2 + (1 : Int32)) < 0 ∨ 900 ≤ (x2 + (1 : Int32)).toNatClampNeg) then none else (if (x2 < 0 ∨ 900 ≤ x2.toNatClampNeg) then none else (k44 ((Mo_set_output s0 (upd (Mo_output s0) x2.toNatClampNeg ((Mo_output s0) (x2 + (1 : Int32)).toNatClampNeg))), x1, (x2 + 1)))))
def B_Mo_take_44 (k44 : S_Mo × Int32 × Int32 → Option (Int32 × S_Mo)) (s0 : S_Mo) (x1 : Int32) (x2 : Int32) : Option (Int32 × S_Mo) :=
  (if (Mo_outputs s0) ≤ x2 then (B_Mo_take_72 s0 x1) else (B_Mo_take_52 k44 s0 x1 x2))
def L_Mo_take_44 (v : S_Mo × Int32 × Int32) : Option (Int32 × S_Mo) := lp (fun k44 v => B_Mo_take_44  k44  v.1 v.2.1 v.2.2) FU v
def B_Mo_take_25 (s0 : S_Mo) : Option (Int32 × S_Mo) :=
  (if ((0 : Int32) < 0 ∨ 900 ≤ (0 : Int32).toNatClampNeg) then none else (L_Mo_take_44 ((Mo_set_outputs s0 ((Mo_outputs s0) - (1 : Int32))), ((Mo_output s0) (0 : Int32).toNatClampNeg), (0 : Int32))))
def B_Mo_take_23 (s0 : S_Mo) : Option (Int32 × S_Mo) :=
  some ((0 : Int32), s0)
def B_Mo_take_13 (s0 : S_Mo) (y0 : Int32) : Option (Int32 × S_Mo) :=
  (if (Mo_code (Mo_set_code s0 y0)) ≤ 0 then (B_Mo_take_25 (Mo_set_code s0 y0)) else (B_Mo_take_23 (Mo_set_code s0 y0)))
def B_Mo_take_12 (s0 : S_Mo) : Option (Int32 × S_Mo) :=
  (B_Mo_take_13 s0 (1 : Int32))
def B_Mo_take_8 (s0 : S_Mo) : Option (Int32 × S_Mo) :=
  (B_Mo_take_13 s0 (0 : Int32))
def B_Mo_take_0 (s0 : S_Mo) : Option (Int32 × S_Mo) :=
  (if (Mo_outputs s0) ≤ 0 then (B_Mo_take_12 s0) else (B_Mo_take_8 s0))
def F_Mo_take (s0 : S_Mo) : Option (Int32 × S_Mo) := B_Mo_take_0 s0
set_option maxRecDepth 100000 in
set_option maxHeartbeats 4000000 in
theorem t_Mo_take_72 {p : Program} {l : Launch} {e : Env} {s : State} {m : MethodId} {args : Array Value} {below : List Frame} {meth : Method} {c : Code} {D : va_G} {A : Nat → Prop} {g : Nat → ClassId} {rest : va_W} {a0 : Nat → Nat} {ls : Array Slot} {H : Heap} {locs : List Loc} {s0 : S_Mo} {x1 : Int32} {out : Int32 × S_Mo} (X : Cx p s m args meth c prog_11_method_56_code 3 ws_Mo_take R_Mo (some .int) D g) (hl : lv_has ls 3 [(1, .int x1)]) (hI : Iw D A (w_Mo g a0 s0 ++ (rest)) H) (hS : va_S A s.heap H locs) (h : B_Mo_take_72  s0 x1 = some out) : W p l e (headSpec ws_Mo_take { frames := 0, cells := 0, slots := 0, locals := 0 }).room s m args below meth c H locs 0 0 (MQ below (QcI D A g out.1 (fun (_ : Unit) => w_Mo g a0 out.2 ++ (rest))) args s 0 0 A) (F0 m 72 ls []) := by
  have X1 := X
  obtain ⟨hx, hb, hml, hown, hts, hr, hlocks, hKK⟩ := X1
  have ht : ∀ w ∈ TB, w.before args s = true := fun w h => hts w (List.mem_cons_of_mem _ h)
  have hK := hKK.1
  unfold B_Mo_take_72 at h
  refine lv_iload_n hx hb d_Mo_take_72 rfl (lv_at hl 0 rfl) ?_
  have h9 := Option.some.inj h
  subst h9
  exact W.iret (v := x1) hx hb hr (fun t ht hW => ⟨⟨_, (), rfl, rfl, ⟨by rw [ht]; exact hI, hKK.moved hW⟩⟩, hS.F ht⟩) hS.2.2 d_Mo_take_73
set_option maxRecDepth 100000 in
set_option maxHeartbeats 4000000 in
theorem t_Mo_take_52 {p : Program} {l : Launch} {e : Env} {s : State} {m : MethodId} {args : Array Value} {below : List Frame} {meth : Method} {c : Code} {D : va_G} {A : Nat → Prop} {g : Nat → ClassId} {rest : va_W} {a0 : Nat → Nat} {ls : Array Slot} {H : Heap} {locs : List Loc} {k44 : S_Mo × Int32 × Int32 → Option (Int32 × S_Mo)} {s0 : S_Mo} {x1 : Int32} {x2 : Int32} {out : Int32 × S_Mo} (X : Cx p s m args meth c prog_11_method_56_code 3 ws_Mo_take R_Mo (some .int) D g) (hk44 : ∀ (v : S_Mo × Int32 × Int32) (ls : Array Slot) (H : Heap) (locs : List Loc), lv_has ls 3 [(0, .ref (a0 0)), (1, .int v.2.1), (2, .int v.2.2)] → Iw D A (w_Mo g a0 v.1 ++ (rest)) H → va_S A s.heap H locs → k44 v = some out → W p l e (headSpec ws_Mo_take { frames := 0, cells := 0, slots := 0, locals := 0 }).room s m args below meth c H locs 0 0 (MQ below (QcI D A g out.1 (fun (_ : Unit) => w_Mo g a0 out.2 ++ (rest))) args s 0 0 A) (F0 m 44 ls [])) (hl : lv_has ls 3 [(0, .ref (a0 0)), (1, .int x1), (2, .int x2)]) (hI : Iw D A (w_Mo g a0 s0 ++ (rest)) H) (hS : va_S A s.heap H locs) (h : B_Mo_take_52 k44 s0 x1 x2 = some out) : W p l e (headSpec ws_Mo_take { frames := 0, cells := 0, slots := 0, locals := 0 }).room s m args below meth c H locs 0 0 (MQ below (QcI D A g out.1 (fun (_ : Unit) => w_Mo g a0 out.2 ++ (rest))) args s 0 0 A) (F0 m 52 ls []) := by
  have X1 := X
  obtain ⟨hx, hb, hml, hown, hts, hr, hlocks, hKK⟩ := X1
  have ht : ∀ w ∈ TB, w.before args s = true := fun w h => hts w (List.mem_cons_of_mem _ h)
  have hK := hKK.1
  unfold B_Mo_take_52 at h
  refine lv_aload_n hx hb d_Mo_take_52 rfl (lv_at hl 0 rfl) ?_
  refine gt_Mo_output hx hb ht hown hK hI (ht _ m_848) d_Mo_take_53 ?_
  refine lv_iload_n hx hb d_Mo_take_56 rfl (lv_at hl 2 rfl) ?_
  refine lv_aload_n hx hb d_Mo_take_57 rfl (lv_at hl 0 rfl) ?_
  refine gt_Mo_output hx hb ht hown hK hI (ht _ m_848) d_Mo_take_58 ?_
  refine lv_iload_n hx hb d_Mo_take_61 rfl (lv_at hl 2 rfl) ?_
  refine lv_iconst (v := 1) hx hb d_Mo_take_62 (by decide) ?_
  refine lv_iadd hx hb d_Mo_take_63 ?_
  by_cases hc1 : ((x2 + (1 : Int32)) < 0 ∨ 900 ≤ (x2 + (1 : Int32)).toNatClampNeg)
  · exact no_s (it_t h hc1)
  have h := it_f h hc1
  refine al_Mo_output hx hb hK hI hc1 d_Mo_take_64 ?_
  by_cases hc2 : (x2 < 0 ∨ 900 ≤ x2.toNatClampNeg)
  · exact no_s (it_t h hc2)
  have h := it_f h hc2
  refine as_Mo_output hx hb hK hI hS hc2 d_Mo_take_65 (fun H locs hI hS => ?_)
  refine lv_iinc (k := 2) (v := (x2 + 1)) hx hb d_Mo_take_66 hl rfl (congrArg (fun z => x2 + z) (by decide)) (Nat.le_of_ble_eq_true rfl) rfl (fun ls hl => ?_)
  have hl : lv_has ls 3 [(2, .int (x2 + 1)), (0, .ref (a0 0)), (1, .int x1)] := hl
  refine lv_goto (tgt := 44) hx hb d_Mo_take_69 (by decide) ?_
  exact hk44 ((Mo_set_output s0 (upd (Mo_output s0) x2.toNatClampNeg ((Mo_output s0) (x2 + (1 : Int32)).toNatClampNeg))), x1, (x2 + 1)) _ _ _ (lv_sub hl [1, 2, 0] rfl) hI hS h
set_option maxRecDepth 100000 in
set_option maxHeartbeats 4000000 in
theorem t_Mo_take_44 {p : Program} {l : Launch} {e : Env} {s : State} {m : MethodId} {args : Array Value} {below : List Frame} {meth : Method} {c : Code} {D : va_G} {A : Nat → Prop} {g : Nat → ClassId} {rest : va_W} {a0 : Nat → Nat} {ls : Array Slot} {H : Heap} {locs : List Loc} {k44 : S_Mo × Int32 × Int32 → Option (Int32 × S_Mo)} {s0 : S_Mo} {x1 : Int32} {x2 : Int32} {out : Int32 × S_Mo} (X : Cx p s m args meth c prog_11_method_56_code 3 ws_Mo_take R_Mo (some .int) D g) (hk44 : ∀ (v : S_Mo × Int32 × Int32) (ls : Array Slot) (H : Heap) (locs : List Loc), lv_has ls 3 [(0, .ref (a0 0)), (1, .int v.2.1), (2, .int v.2.2)] → Iw D A (w_Mo g a0 v.1 ++ (rest)) H → va_S A s.heap H locs → k44 v = some out → W p l e (headSpec ws_Mo_take { frames := 0, cells := 0, slots := 0, locals := 0 }).room s m args below meth c H locs 0 0 (MQ below (QcI D A g out.1 (fun (_ : Unit) => w_Mo g a0 out.2 ++ (rest))) args s 0 0 A) (F0 m 44 ls [])) (hl : lv_has ls 3 [(0, .ref (a0 0)), (1, .int x1), (2, .int x2)]) (hI : Iw D A (w_Mo g a0 s0 ++ (rest)) H) (hS : va_S A s.heap H locs) (h : B_Mo_take_44 k44 s0 x1 x2 = some out) : W p l e (headSpec ws_Mo_take { frames := 0, cells := 0, slots := 0, locals := 0 }).room s m args below meth c H locs 0 0 (MQ below (QcI D A g out.1 (fun (_ : Unit) => w_Mo g a0 out.2 ++ (rest))) args s 0 0 A) (F0 m 44 ls []) := by
  have X1 := X
  obtain ⟨hx, hb, hml, hown, hts, hr, hlocks, hKK⟩ := X1
  have ht : ∀ w ∈ TB, w.before args s = true := fun w h => hts w (List.mem_cons_of_mem _ h)
  have hK := hKK.1
  unfold B_Mo_take_44 at h
  refine lv_iload_n hx hb d_Mo_take_44 rfl (lv_at hl 2 rfl) ?_
  refine lv_aload_n hx hb d_Mo_take_45 rfl (lv_at hl 0 rfl) ?_
  refine gt_Mo_outputs hx hb ht hown hK hI (ht _ m_849) d_Mo_take_46 ?_
  refine lv_icmp_ge (tgt := 72) hx hb d_Mo_take_49 (by decide) (fun hc => ?_) (fun hc => ?_)
  · have h := it_t h hc
    exact t_Mo_take_72 X (lv_sub hl [1] rfl) hI hS h
  · have h := it_f h hc
    exact t_Mo_take_52 X hk44 (lv_sub hl [0, 1, 2] rfl) hI hS h
set_option maxRecDepth 100000 in
set_option maxHeartbeats 4000000 in
theorem T_Mo_take_44 {p : Program} {l : Launch} {e : Env} {s : State} {m : MethodId} {args : Array Value} {below : List Frame} {meth : Method} {c : Code} {D : va_G} {A : Nat → Prop} {g : Nat → ClassId} {rest : va_W} {a0 : Nat → Nat} {ls : Array Slot} {H : Heap} {locs : List Loc} {s0 : S_Mo} {x1 : Int32} {x2 : Int32} {out : Int32 × S_Mo} (X : Cx p s m args meth c prog_11_method_56_code 3 ws_Mo_take R_Mo (some .int) D g) (hl : lv_has ls 3 [(0, .ref (a0 0)), (1, .int x1), (2, .int x2)]) (hI : Iw D A (w_Mo g a0 s0 ++ (rest)) H) (hS : va_S A s.heap H locs) (h : L_Mo_take_44   (s0, x1, x2) = some out) : W p l e (headSpec ws_Mo_take { frames := 0, cells := 0, slots := 0, locals := 0 }).room s m args below meth c H locs 0 0 (MQ below (QcI D A g out.1 (fun (_ : Unit) => w_Mo g a0 out.2 ++ (rest))) args s 0 0 A) (F0 m 44 ls []) := by
  unfold L_Mo_take_44 at h
  exact lp_ind (P := fun v => ∀ (ls : Array Slot) (H : Heap) (locs : List Loc), lv_has ls 3 [(0, .ref (a0 0)), (1, .int v.2.1), (2, .int v.2.2)] → Iw D A (w_Mo g a0 v.1 ++ (rest)) H → va_S A s.heap H locs → W p l e (headSpec ws_Mo_take { frames := 0, cells := 0, slots := 0, locals := 0 }).room s m args below meth c H locs 0 0 (MQ below (QcI D A g out.1 (fun (_ : Unit) => w_Mo g a0 out.2 ++ (rest))) args s 0 0 A) (F0 m 44 ls [])) (fun k v ih hb ls H locs  hl hI hS => t_Mo_take_44 X  (fun v' ls H locs  hl hI hS h' => ih v' h' ls H locs  hl hI hS) hl hI hS hb) FU _ h ls H locs  hl hI hS
set_option maxRecDepth 100000 in
set_option maxHeartbeats 4000000 in
theorem t_Mo_take_25 {p : Program} {l : Launch} {e : Env} {s : State} {m : MethodId} {args : Array Value} {below : List Frame} {meth : Method} {c : Code} {D : va_G} {A : Nat → Prop} {g : Nat → ClassId} {rest : va_W} {a0 : Nat → Nat} {ls : Array Slot} {H : Heap} {locs : List Loc} {s0 : S_Mo} {out : Int32 × S_Mo} (X : Cx p s m args meth c prog_11_method_56_code 3 ws_Mo_take R_Mo (some .int) D g) (hl : lv_has ls 3 [(0, .ref (a0 0))]) (hI : Iw D A (w_Mo g a0 s0 ++ (rest)) H) (hS : va_S A s.heap H locs) (h : B_Mo_take_25  s0 = some out) : W p l e (headSpec ws_Mo_take { frames := 0, cells := 0, slots := 0, locals := 0 }).room s m args below meth c H locs 0 0 (MQ below (QcI D A g out.1 (fun (_ : Unit) => w_Mo g a0 out.2 ++ (rest))) args s 0 0 A) (F0 m 25 ls []) := by
  have X1 := X
  obtain ⟨hx, hb, hml, hown, hts, hr, hlocks, hKK⟩ := X1
  have ht : ∀ w ∈ TB, w.before args s = true := fun w h => hts w (List.mem_cons_of_mem _ h)
  have hK := hKK.1
  unfold B_Mo_take_25 at h
  refine lv_aload_n hx hb d_Mo_take_25 rfl (lv_at hl 0 rfl) ?_
  refine gt_Mo_output hx hb ht hown hK hI (ht _ m_848) d_Mo_take_26 ?_
  refine lv_iconst (v := 0) hx hb d_Mo_take_29 (by decide) ?_
  by_cases hc1 : ((0 : Int32) < 0 ∨ 900 ≤ (0 : Int32).toNatClampNeg)
  · exact no_s (it_t h hc1)
  have h := it_f h hc1
  refine al_Mo_output hx hb hK hI hc1 d_Mo_take_30 ?_
  refine lv_istore_n hx hb d_Mo_take_31 rfl hl (Nat.le_of_ble_eq_true rfl) rfl (fun ls hl => ?_)
  have hl : lv_has ls 3 [(1, .int ((Mo_output s0) (0 : Int32).toNatClampNeg)), (0, .ref (a0 0))] := hl
  refine lv_aload_n hx hb d_Mo_take_32 rfl (lv_at hl 1 rfl) ?_
  refine lv_dup hx hb d_Mo_take_33 rfl ?_
  refine gt_Mo_outputs hx hb ht hown hK hI (ht _ m_849) d_Mo_take_34 ?_
  refine lv_iconst (v := 1) hx hb d_Mo_take_37 (by decide) ?_
  refine lv_isub hx hb d_Mo_take_38 ?_
  refine pt_Mo_outputs hx hb ht hown hK hI hS (ht _ m_849) d_Mo_take_39 (fun H locs hI hS => ?_)
  refine lv_iconst (v := 0) hx hb d_Mo_take_42 (by decide) ?_
  refine lv_istore_n hx hb d_Mo_take_43 rfl hl (Nat.le_of_ble_eq_true rfl) rfl (fun ls hl => ?_)
  have hl : lv_has ls 3 [(2, .int (0 : Int32)), (1, .int ((Mo_output s0) (0 : Int32).toNatClampNeg)), (0, .ref (a0 0))] := hl
  exact T_Mo_take_44 X (lv_sub hl [2, 1, 0] rfl) hI hS h
set_option maxRecDepth 100000 in
set_option maxHeartbeats 4000000 in
theorem t_Mo_take_23 {p : Program} {l : Launch} {e : Env} {s : State} {m : MethodId} {args : Array Value} {below : List Frame} {meth : Method} {c : Code} {D : va_G} {A : Nat → Prop} {g : Nat → ClassId} {rest : va_W} {a0 : Nat → Nat} {ls : Array Slot} {H : Heap} {locs : List Loc} {s0 : S_Mo} {out : Int32 × S_Mo} (X : Cx p s m args meth c prog_11_method_56_code 3 ws_Mo_take R_Mo (some .int) D g) (hl : lv_has ls 3 []) (hI : Iw D A (w_Mo g a0 s0 ++ (rest)) H) (hS : va_S A s.heap H locs) (h : B_Mo_take_23  s0 = some out) : W p l e (headSpec ws_Mo_take { frames := 0, cells := 0, slots := 0, locals := 0 }).room s m args below meth c H locs 0 0 (MQ below (QcI D A g out.1 (fun (_ : Unit) => w_Mo g a0 out.2 ++ (rest))) args s 0 0 A) (F0 m 23 ls []) := by
  have X1 := X
  obtain ⟨hx, hb, hml, hown, hts, hr, hlocks, hKK⟩ := X1
  have ht : ∀ w ∈ TB, w.before args s = true := fun w h => hts w (List.mem_cons_of_mem _ h)
  have hK := hKK.1
  unfold B_Mo_take_23 at h
  refine lv_iconst (v := 0) hx hb d_Mo_take_23 (by decide) ?_
  have h9 := Option.some.inj h
  subst h9
  exact W.iret (v := (0 : Int32)) hx hb hr (fun t ht hW => ⟨⟨_, (), rfl, rfl, ⟨by rw [ht]; exact hI, hKK.moved hW⟩⟩, hS.F ht⟩) hS.2.2 d_Mo_take_24
set_option maxRecDepth 100000 in
set_option maxHeartbeats 4000000 in
theorem t_Mo_take_13 {p : Program} {l : Launch} {e : Env} {s : State} {m : MethodId} {args : Array Value} {below : List Frame} {meth : Method} {c : Code} {D : va_G} {A : Nat → Prop} {g : Nat → ClassId} {rest : va_W} {a0 : Nat → Nat} {ls : Array Slot} {H : Heap} {locs : List Loc} {s0 : S_Mo} {y0 : Int32} {out : Int32 × S_Mo} (X : Cx p s m args meth c prog_11_method_56_code 3 ws_Mo_take R_Mo (some .int) D g) (hl : lv_has ls 3 [(0, .ref (a0 0))]) (hI : Iw D A (w_Mo g a0 s0 ++ (rest)) H) (hS : va_S A s.heap H locs) (h : B_Mo_take_13  s0 y0 = some out) : W p l e (headSpec ws_Mo_take { frames := 0, cells := 0, slots := 0, locals := 0 }).room s m args below meth c H locs 0 0 (MQ below (QcI D A g out.1 (fun (_ : Unit) => w_Mo g a0 out.2 ++ (rest))) args s 0 0 A) (F0 m 13 ls [.int y0, .ref (a0 0)]) := by
  have X1 := X
  obtain ⟨hx, hb, hml, hown, hts, hr, hlocks, hKK⟩ := X1
  have ht : ∀ w ∈ TB, w.before args s = true := fun w h => hts w (List.mem_cons_of_mem _ h)
  have hK := hKK.1
  unfold B_Mo_take_13 at h
  refine pt_Mo_code hx hb ht hown hK hI hS (ht _ m_817) d_Mo_take_13 (fun H locs hI hS => ?_)
  refine lv_aload_n hx hb d_Mo_take_16 rfl (lv_at hl 0 rfl) ?_
  refine gt_Mo_code hx hb ht hown hK hI (ht _ m_817) d_Mo_take_17 ?_
  refine lv_if_le (tgt := 25) hx hb d_Mo_take_20 (by decide) (fun hc => ?_) (fun hc => ?_)
  · have h := it_t h hc
    exact t_Mo_take_25 X (lv_sub hl [0] rfl) hI hS h
  · have h := it_f h hc
    exact t_Mo_take_23 X (lv_sub hl [] rfl) hI hS h
set_option maxRecDepth 100000 in
set_option maxHeartbeats 4000000 in
theorem t_Mo_take_12 {p : Program} {l : Launch} {e : Env} {s : State} {m : MethodId} {args : Array Value} {below : List Frame} {meth : Method} {c : Code} {D : va_G} {A : Nat → Prop} {g : Nat → ClassId} {rest : va_W} {a0 : Nat → Nat} {ls : Array Slot} {H : Heap} {locs : List Loc} {s0 : S_Mo} {out : Int32 × S_Mo} (X : Cx p s m args meth c prog_11_method_56_code 3 ws_Mo_take R_Mo (some .int) D g) (hl : lv_has ls 3 [(0, .ref (a0 0))]) (hI : Iw D A (w_Mo g a0 s0 ++ (rest)) H) (hS : va_S A s.heap H locs) (h : B_Mo_take_12  s0 = some out) : W p l e (headSpec ws_Mo_take { frames := 0, cells := 0, slots := 0, locals := 0 }).room s m args below meth c H locs 0 0 (MQ below (QcI D A g out.1 (fun (_ : Unit) => w_Mo g a0 out.2 ++ (rest))) args s 0 0 A) (F0 m 12 ls [.ref (a0 0)]) := by
  have X1 := X
  obtain ⟨hx, hb, hml, hown, hts, hr, hlocks, hKK⟩ := X1
  have ht : ∀ w ∈ TB, w.before args s = true := fun w h => hts w (List.mem_cons_of_mem _ h)
  have hK := hKK.1
  unfold B_Mo_take_12 at h
  refine lv_iconst (v := 1) hx hb d_Mo_take_12 (by decide) ?_
  exact t_Mo_take_13 X (lv_sub hl [0] rfl) hI hS h
set_option maxRecDepth 100000 in
set_option maxHeartbeats 4000000 in
theorem t_Mo_take_8 {p : Program} {l : Launch} {e : Env} {s : State} {m : MethodId} {args : Array Value} {below : List Frame} {meth : Method} {c : Code} {D : va_G} {A : Nat → Prop} {g : Nat → ClassId} {rest : va_W} {a0 : Nat → Nat} {ls : Array Slot} {H : Heap} {locs : List Loc} {s0 : S_Mo} {out : Int32 × S_Mo} (X : Cx p s m args meth c prog_11_method_56_code 3 ws_Mo_take R_Mo (some .int) D g) (hl : lv_has ls 3 [(0, .ref (a0 0))]) (hI : Iw D A (w_Mo g a0 s0 ++ (rest)) H) (hS : va_S A s.heap H locs) (h : B_Mo_take_8  s0 = some out) : W p l e (headSpec ws_Mo_take { frames := 0, cells := 0, slots := 0, locals := 0 }).room s m args below meth c H locs 0 0 (MQ below (QcI D A g out.1 (fun (_ : Unit) => w_Mo g a0 out.2 ++ (rest))) args s 0 0 A) (F0 m 8 ls [.ref (a0 0)]) := by
  have X1 := X
  obtain ⟨hx, hb, hml, hown, hts, hr, hlocks, hKK⟩ := X1
  have ht : ∀ w ∈ TB, w.before args s = true := fun w h => hts w (List.mem_cons_of_mem _ h)
  have hK := hKK.1
  unfold B_Mo_take_8 at h
  refine lv_iconst (v := 0) hx hb d_Mo_take_8 (by decide) ?_
  refine lv_goto (tgt := 13) hx hb d_Mo_take_9 (by decide) ?_
  exact t_Mo_take_13 X (lv_sub hl [0] rfl) hI hS h
set_option maxRecDepth 100000 in
set_option maxHeartbeats 4000000 in
theorem t_Mo_take_0 {p : Program} {l : Launch} {e : Env} {s : State} {m : MethodId} {args : Array Value} {below : List Frame} {meth : Method} {c : Code} {D : va_G} {A : Nat → Prop} {g : Nat → ClassId} {rest : va_W} {a0 : Nat → Nat} {ls : Array Slot} {H : Heap} {locs : List Loc} {s0 : S_Mo} {out : Int32 × S_Mo} (X : Cx p s m args meth c prog_11_method_56_code 3 ws_Mo_take R_Mo (some .int) D g) (hl : lv_has ls 3 [(0, .ref (a0 0))]) (hI : Iw D A (w_Mo g a0 s0 ++ (rest)) H) (hS : va_S A s.heap H locs) (h : B_Mo_take_0  s0 = some out) : W p l e (headSpec ws_Mo_take { frames := 0, cells := 0, slots := 0, locals := 0 }).room s m args below meth c H locs 0 0 (MQ below (QcI D A g out.1 (fun (_ : Unit) => w_Mo g a0 out.2 ++ (rest))) args s 0 0 A) (F0 m 0 ls []) := by
  have X1 := X
  obtain ⟨hx, hb, hml, hown, hts, hr, hlocks, hKK⟩ := X1
  have ht : ∀ w ∈ TB, w.before args s = true := fun w h => hts w (List.mem_cons_of_mem _ h)
  have hK := hKK.1
  unfold B_Mo_take_0 at h
  refine lv_aload_n hx hb d_Mo_take_0 rfl (lv_at hl 0 rfl) ?_
  refine lv_aload_n hx hb d_Mo_take_1 rfl (lv_at hl 0 rfl) ?_
  refine gt_Mo_outputs hx hb ht hown hK hI (ht _ m_849) d_Mo_take_2 ?_
  refine lv_if_le (tgt := 12) hx hb d_Mo_take_5 (by decide) (fun hc => ?_) (fun hc => ?_)
  · have h := it_t h hc
    exact t_Mo_take_12 X (lv_sub hl [0] rfl) hI hS h
  · have h := it_f h hc
    exact t_Mo_take_8 X (lv_sub hl [0] rfl) hI hS h
set_option maxRecDepth 100000 in
set_option maxHeartbeats 4000000 in
theorem c_Mo_take {l : Launch} {D : va_G} {A : Nat → Prop} {g : Nat → ClassId} {rest : va_W} {a0 : Nat → Nat} {s0 : S_Mo} {out : Int32 × S_Mo} (h : F_Mo_take s0 = some out) : Met l y_Mo_take ws_Mo_take { frames := 0, cells := 0, slots := 0, locals := 0 } (PcW D A g [.ref (a0 0)] (w_Mo g a0 s0 ++ (rest))) (QcI D A g out.1 (fun (_ : Unit) => w_Mo g a0 out.2 ++ (rest))) 0 0 A := by
  refine Met.ofW (cc := prog_11_method_56_code) (maxL := 3) (ret := (some .int)) (by decide) rfl ?_
  intro p e s m args below meth c s₁ B hml hv
  obtain ⟨rfl, hI, hK⟩ := hv
  have hl := lv_entry [.ref (a0 0)] (n := 3) (Nat.le_of_ble_eq_true rfl)
  rw [lg_entry_eq]
  generalize (lg_sl [.ref (a0 0)] ++ List.replicate (3 - (lg_sl [.ref (a0 0)]).length) Slot.unset).toArray = ls at hl ⊢
  have hl : lv_has ls 3 [(0, .ref (a0 0))] := hl
  exact t_Mo_take_0 ⟨B.exec, B.bytes, hml, findClass_of_methodNamed B.named, atoms_spec (ws := ws_Mo_take) B.pre, B.returns, B.notSynchronized, hK⟩ (lv_sub hl [0] rfl) hI va_S.rf h
def ws_Mo_state : List Cond := .code y_Mo_state prog_11_method_57_code 2 (some .int) :: TB
def B_Mo_state_52 (s0 : S_Mo) : Option (Int32 × S_Mo) :=
  some ((Mo_line s0), s0)
def B_Mo_state_57 (s0 : S_Mo) : Option (Int32 × S_Mo) :=
  some ((Mo_timer s0), s0)
def B_Mo_state_62 (s0 : S_Mo) : Option (Int32 × S_Mo) :=
  some ((Mo_outputs s0), s0)
def B_Mo_state_67 (s0 : S_Mo) : Option (Int32 × S_Mo) :=
  some ((Mo_inputs s0), s0)
def B_Mo_state_72 (s0 : S_Mo) : Option (Int32 × S_Mo) :=
  some ((Mo_wanted s0), s0)
def B_Mo_state_95 (s0 : S_Mo) (y0 : Int32) : Option (Int32 × S_Mo) :=
  some (y0, s0)
def B_Mo_state_91 (s0 : S_Mo) : Option (Int32 × S_Mo) :=
  (B_Mo_state_95 s0 (Mo_bodies s0))
def B_Mo_state_84 (s0 : S_Mo) : Option (Int32 × S_Mo) :=
  (B_Mo_state_95 s0 (Mo_commands s0))
def B_Mo_state_77 (s0 : S_Mo) : Option (Int32 × S_Mo) :=
  (if (Mo_wanted s0) = 0 then (B_Mo_state_84 s0) else (B_Mo_state_91 s0))
def B_Mo_state_96 (s0 : S_Mo) : Option (Int32 × S_Mo) :=
  some ((Mo_records s0), s0)
def B_Mo_state_101 (s0 : S_Mo) : Option (Int32 × S_Mo) :=
  some ((Mo_answered s0), s0)
def B_Mo_state_106 (s0 : S_Mo) : Option (Int32 × S_Mo) :=
  some (((-1) : Int32), s0)
def B_Mo_state_0 (s0 : S_Mo) (x1 : Int32) : Option (Int32 × S_Mo) :=
  (if x1 = 0 then (B_Mo_state_52 (Mo_set_code s0 (0 : Int32))) else (if x1 = 1 then (B_Mo_state_57 (Mo_set_code s0 (0 : Int32))) else (if x1 = 2 then (B_Mo_state_62 (Mo_set_code s0 (0 : Int32))) else (if x1 = 3 then (B_Mo_state_67 (Mo_set_code s0 (0 : Int32))) else (if x1 = 4 then (B_Mo_state_72 (Mo_set_code s0 (0 : Int32))) else (if x1 = 5 then (B_Mo_state_77 (Mo_set_code s0 (0 : Int32))) else (if x1 = 6 then (B_Mo_state_96 (Mo_set_code s0 (0 : Int32))) else (if x1 = 7 then (B_Mo_state_101 (Mo_set_code s0 (0 : Int32))) else (B_Mo_state_106 (Mo_set_code s0 (0 : Int32)))))))))))
def F_Mo_state (s0 : S_Mo) (x1 : Int32) : Option (Int32 × S_Mo) := B_Mo_state_0 s0 x1
set_option maxRecDepth 100000 in
set_option maxHeartbeats 4000000 in
theorem t_Mo_state_52 {p : Program} {l : Launch} {e : Env} {s : State} {m : MethodId} {args : Array Value} {below : List Frame} {meth : Method} {c : Code} {D : va_G} {A : Nat → Prop} {g : Nat → ClassId} {rest : va_W} {a0 : Nat → Nat} {ls : Array Slot} {H : Heap} {locs : List Loc} {s0 : S_Mo} {out : Int32 × S_Mo} (X : Cx p s m args meth c prog_11_method_57_code 2 ws_Mo_state R_Mo (some .int) D g) (hl : lv_has ls 2 [(0, .ref (a0 0))]) (hI : Iw D A (w_Mo g a0 s0 ++ (rest)) H) (hS : va_S A s.heap H locs) (h : B_Mo_state_52  s0 = some out) : W p l e (headSpec ws_Mo_state { frames := 0, cells := 0, slots := 0, locals := 0 }).room s m args below meth c H locs 0 0 (MQ below (QcI D A g out.1 (fun (_ : Unit) => w_Mo g a0 out.2 ++ (rest))) args s 0 0 A) (F0 m 52 ls []) := by
  have X1 := X
  obtain ⟨hx, hb, hml, hown, hts, hr, hlocks, hKK⟩ := X1
  have ht : ∀ w ∈ TB, w.before args s = true := fun w h => hts w (List.mem_cons_of_mem _ h)
  have hK := hKK.1
  unfold B_Mo_state_52 at h
  refine lv_aload_n hx hb d_Mo_state_52 rfl (lv_at hl 0 rfl) ?_
  refine gt_Mo_line hx hb ht hown hK hI (ht _ m_844) d_Mo_state_53 ?_
  have h9 := Option.some.inj h
  subst h9
  exact W.iret (v := (Mo_line s0)) hx hb hr (fun t ht hW => ⟨⟨_, (), rfl, rfl, ⟨by rw [ht]; exact hI, hKK.moved hW⟩⟩, hS.F ht⟩) hS.2.2 d_Mo_state_56
set_option maxRecDepth 100000 in
set_option maxHeartbeats 4000000 in
theorem t_Mo_state_57 {p : Program} {l : Launch} {e : Env} {s : State} {m : MethodId} {args : Array Value} {below : List Frame} {meth : Method} {c : Code} {D : va_G} {A : Nat → Prop} {g : Nat → ClassId} {rest : va_W} {a0 : Nat → Nat} {ls : Array Slot} {H : Heap} {locs : List Loc} {s0 : S_Mo} {out : Int32 × S_Mo} (X : Cx p s m args meth c prog_11_method_57_code 2 ws_Mo_state R_Mo (some .int) D g) (hl : lv_has ls 2 [(0, .ref (a0 0))]) (hI : Iw D A (w_Mo g a0 s0 ++ (rest)) H) (hS : va_S A s.heap H locs) (h : B_Mo_state_57  s0 = some out) : W p l e (headSpec ws_Mo_state { frames := 0, cells := 0, slots := 0, locals := 0 }).room s m args below meth c H locs 0 0 (MQ below (QcI D A g out.1 (fun (_ : Unit) => w_Mo g a0 out.2 ++ (rest))) args s 0 0 A) (F0 m 57 ls []) := by
  have X1 := X
  obtain ⟨hx, hb, hml, hown, hts, hr, hlocks, hKK⟩ := X1
  have ht : ∀ w ∈ TB, w.before args s = true := fun w h => hts w (List.mem_cons_of_mem _ h)
  have hK := hKK.1
  unfold B_Mo_state_57 at h
  refine lv_aload_n hx hb d_Mo_state_57 rfl (lv_at hl 0 rfl) ?_
  refine gt_Mo_timer hx hb ht hown hK hI (ht _ m_845) d_Mo_state_58 ?_
  have h9 := Option.some.inj h
  subst h9
  exact W.iret (v := (Mo_timer s0)) hx hb hr (fun t ht hW => ⟨⟨_, (), rfl, rfl, ⟨by rw [ht]; exact hI, hKK.moved hW⟩⟩, hS.F ht⟩) hS.2.2 d_Mo_state_61
set_option maxRecDepth 100000 in
set_option maxHeartbeats 4000000 in
theorem t_Mo_state_62 {p : Program} {l : Launch} {e : Env} {s : State} {m : MethodId} {args : Array Value} {below : List Frame} {meth : Method} {c : Code} {D : va_G} {A : Nat → Prop} {g : Nat → ClassId} {rest : va_W} {a0 : Nat → Nat} {ls : Array Slot} {H : Heap} {locs : List Loc} {s0 : S_Mo} {out : Int32 × S_Mo} (X : Cx p s m args meth c prog_11_method_57_code 2 ws_Mo_state R_Mo (some .int) D g) (hl : lv_has ls 2 [(0, .ref (a0 0))]) (hI : Iw D A (w_Mo g a0 s0 ++ (rest)) H) (hS : va_S A s.heap H locs) (h : B_Mo_state_62  s0 = some out) : W p l e (headSpec ws_Mo_state { frames := 0, cells := 0, slots := 0, locals := 0 }).room s m args below meth c H locs 0 0 (MQ below (QcI D A g out.1 (fun (_ : Unit) => w_Mo g a0 out.2 ++ (rest))) args s 0 0 A) (F0 m 62 ls []) := by
  have X1 := X
  obtain ⟨hx, hb, hml, hown, hts, hr, hlocks, hKK⟩ := X1
  have ht : ∀ w ∈ TB, w.before args s = true := fun w h => hts w (List.mem_cons_of_mem _ h)
  have hK := hKK.1
  unfold B_Mo_state_62 at h
  refine lv_aload_n hx hb d_Mo_state_62 rfl (lv_at hl 0 rfl) ?_
  refine gt_Mo_outputs hx hb ht hown hK hI (ht _ m_849) d_Mo_state_63 ?_
  have h9 := Option.some.inj h
  subst h9
  exact W.iret (v := (Mo_outputs s0)) hx hb hr (fun t ht hW => ⟨⟨_, (), rfl, rfl, ⟨by rw [ht]; exact hI, hKK.moved hW⟩⟩, hS.F ht⟩) hS.2.2 d_Mo_state_66
set_option maxRecDepth 100000 in
set_option maxHeartbeats 4000000 in
theorem t_Mo_state_67 {p : Program} {l : Launch} {e : Env} {s : State} {m : MethodId} {args : Array Value} {below : List Frame} {meth : Method} {c : Code} {D : va_G} {A : Nat → Prop} {g : Nat → ClassId} {rest : va_W} {a0 : Nat → Nat} {ls : Array Slot} {H : Heap} {locs : List Loc} {s0 : S_Mo} {out : Int32 × S_Mo} (X : Cx p s m args meth c prog_11_method_57_code 2 ws_Mo_state R_Mo (some .int) D g) (hl : lv_has ls 2 [(0, .ref (a0 0))]) (hI : Iw D A (w_Mo g a0 s0 ++ (rest)) H) (hS : va_S A s.heap H locs) (h : B_Mo_state_67  s0 = some out) : W p l e (headSpec ws_Mo_state { frames := 0, cells := 0, slots := 0, locals := 0 }).room s m args below meth c H locs 0 0 (MQ below (QcI D A g out.1 (fun (_ : Unit) => w_Mo g a0 out.2 ++ (rest))) args s 0 0 A) (F0 m 67 ls []) := by
  have X1 := X
  obtain ⟨hx, hb, hml, hown, hts, hr, hlocks, hKK⟩ := X1
  have ht : ∀ w ∈ TB, w.before args s = true := fun w h => hts w (List.mem_cons_of_mem _ h)
  have hK := hKK.1
  unfold B_Mo_state_67 at h
  refine lv_aload_n hx hb d_Mo_state_67 rfl (lv_at hl 0 rfl) ?_
  refine gt_Mo_inputs hx hb ht hown hK hI (ht _ m_847) d_Mo_state_68 ?_
  have h9 := Option.some.inj h
  subst h9
  exact W.iret (v := (Mo_inputs s0)) hx hb hr (fun t ht hW => ⟨⟨_, (), rfl, rfl, ⟨by rw [ht]; exact hI, hKK.moved hW⟩⟩, hS.F ht⟩) hS.2.2 d_Mo_state_71
set_option maxRecDepth 100000 in
set_option maxHeartbeats 4000000 in
theorem t_Mo_state_72 {p : Program} {l : Launch} {e : Env} {s : State} {m : MethodId} {args : Array Value} {below : List Frame} {meth : Method} {c : Code} {D : va_G} {A : Nat → Prop} {g : Nat → ClassId} {rest : va_W} {a0 : Nat → Nat} {ls : Array Slot} {H : Heap} {locs : List Loc} {s0 : S_Mo} {out : Int32 × S_Mo} (X : Cx p s m args meth c prog_11_method_57_code 2 ws_Mo_state R_Mo (some .int) D g) (hl : lv_has ls 2 [(0, .ref (a0 0))]) (hI : Iw D A (w_Mo g a0 s0 ++ (rest)) H) (hS : va_S A s.heap H locs) (h : B_Mo_state_72  s0 = some out) : W p l e (headSpec ws_Mo_state { frames := 0, cells := 0, slots := 0, locals := 0 }).room s m args below meth c H locs 0 0 (MQ below (QcI D A g out.1 (fun (_ : Unit) => w_Mo g a0 out.2 ++ (rest))) args s 0 0 A) (F0 m 72 ls []) := by
  have X1 := X
  obtain ⟨hx, hb, hml, hown, hts, hr, hlocks, hKK⟩ := X1
  have ht : ∀ w ∈ TB, w.before args s = true := fun w h => hts w (List.mem_cons_of_mem _ h)
  have hK := hKK.1
  unfold B_Mo_state_72 at h
  refine lv_aload_n hx hb d_Mo_state_72 rfl (lv_at hl 0 rfl) ?_
  refine gt_Mo_wanted hx hb ht hown hK hI (ht _ m_854) d_Mo_state_73 ?_
  have h9 := Option.some.inj h
  subst h9
  exact W.iret (v := (Mo_wanted s0)) hx hb hr (fun t ht hW => ⟨⟨_, (), rfl, rfl, ⟨by rw [ht]; exact hI, hKK.moved hW⟩⟩, hS.F ht⟩) hS.2.2 d_Mo_state_76
set_option maxRecDepth 100000 in
set_option maxHeartbeats 4000000 in
theorem t_Mo_state_95 {p : Program} {l : Launch} {e : Env} {s : State} {m : MethodId} {args : Array Value} {below : List Frame} {meth : Method} {c : Code} {D : va_G} {A : Nat → Prop} {g : Nat → ClassId} {rest : va_W} {a0 : Nat → Nat} {ls : Array Slot} {H : Heap} {locs : List Loc} {s0 : S_Mo} {y0 : Int32} {out : Int32 × S_Mo} (X : Cx p s m args meth c prog_11_method_57_code 2 ws_Mo_state R_Mo (some .int) D g) (hl : lv_has ls 2 []) (hI : Iw D A (w_Mo g a0 s0 ++ (rest)) H) (hS : va_S A s.heap H locs) (h : B_Mo_state_95  s0 y0 = some out) : W p l e (headSpec ws_Mo_state { frames := 0, cells := 0, slots := 0, locals := 0 }).room s m args below meth c H locs 0 0 (MQ below (QcI D A g out.1 (fun (_ : Unit) => w_Mo g a0 out.2 ++ (rest))) args s 0 0 A) (F0 m 95 ls [.int y0]) := by
  have X1 := X
  obtain ⟨hx, hb, hml, hown, hts, hr, hlocks, hKK⟩ := X1
  have ht : ∀ w ∈ TB, w.before args s = true := fun w h => hts w (List.mem_cons_of_mem _ h)
  have hK := hKK.1
  unfold B_Mo_state_95 at h
  have h9 := Option.some.inj h
  subst h9
  exact W.iret (v := y0) hx hb hr (fun t ht hW => ⟨⟨_, (), rfl, rfl, ⟨by rw [ht]; exact hI, hKK.moved hW⟩⟩, hS.F ht⟩) hS.2.2 d_Mo_state_95
set_option maxRecDepth 100000 in
set_option maxHeartbeats 4000000 in
theorem t_Mo_state_91 {p : Program} {l : Launch} {e : Env} {s : State} {m : MethodId} {args : Array Value} {below : List Frame} {meth : Method} {c : Code} {D : va_G} {A : Nat → Prop} {g : Nat → ClassId} {rest : va_W} {a0 : Nat → Nat} {ls : Array Slot} {H : Heap} {locs : List Loc} {s0 : S_Mo} {out : Int32 × S_Mo} (X : Cx p s m args meth c prog_11_method_57_code 2 ws_Mo_state R_Mo (some .int) D g) (hl : lv_has ls 2 [(0, .ref (a0 0))]) (hI : Iw D A (w_Mo g a0 s0 ++ (rest)) H) (hS : va_S A s.heap H locs) (h : B_Mo_state_91  s0 = some out) : W p l e (headSpec ws_Mo_state { frames := 0, cells := 0, slots := 0, locals := 0 }).room s m args below meth c H locs 0 0 (MQ below (QcI D A g out.1 (fun (_ : Unit) => w_Mo g a0 out.2 ++ (rest))) args s 0 0 A) (F0 m 91 ls []) := by
  have X1 := X
  obtain ⟨hx, hb, hml, hown, hts, hr, hlocks, hKK⟩ := X1
  have ht : ∀ w ∈ TB, w.before args s = true := fun w h => hts w (List.mem_cons_of_mem _ h)
  have hK := hKK.1
  unfold B_Mo_state_91 at h
  refine lv_aload_n hx hb d_Mo_state_91 rfl (lv_at hl 0 rfl) ?_
  refine gt_Mo_bodies hx hb ht hown hK hI (ht _ m_858) d_Mo_state_92 ?_
  exact t_Mo_state_95 X (lv_sub hl [] rfl) hI hS h
set_option maxRecDepth 100000 in
set_option maxHeartbeats 4000000 in
theorem t_Mo_state_84 {p : Program} {l : Launch} {e : Env} {s : State} {m : MethodId} {args : Array Value} {below : List Frame} {meth : Method} {c : Code} {D : va_G} {A : Nat → Prop} {g : Nat → ClassId} {rest : va_W} {a0 : Nat → Nat} {ls : Array Slot} {H : Heap} {locs : List Loc} {s0 : S_Mo} {out : Int32 × S_Mo} (X : Cx p s m args meth c prog_11_method_57_code 2 ws_Mo_state R_Mo (some .int) D g) (hl : lv_has ls 2 [(0, .ref (a0 0))]) (hI : Iw D A (w_Mo g a0 s0 ++ (rest)) H) (hS : va_S A s.heap H locs) (h : B_Mo_state_84  s0 = some out) : W p l e (headSpec ws_Mo_state { frames := 0, cells := 0, slots := 0, locals := 0 }).room s m args below meth c H locs 0 0 (MQ below (QcI D A g out.1 (fun (_ : Unit) => w_Mo g a0 out.2 ++ (rest))) args s 0 0 A) (F0 m 84 ls []) := by
  have X1 := X
  obtain ⟨hx, hb, hml, hown, hts, hr, hlocks, hKK⟩ := X1
  have ht : ∀ w ∈ TB, w.before args s = true := fun w h => hts w (List.mem_cons_of_mem _ h)
  have hK := hKK.1
  unfold B_Mo_state_84 at h
  refine lv_aload_n hx hb d_Mo_state_84 rfl (lv_at hl 0 rfl) ?_
  refine gt_Mo_commands hx hb ht hown hK hI (ht _ m_856) d_Mo_state_85 ?_
  refine lv_goto (tgt := 95) hx hb d_Mo_state_88 (by decide) ?_
  exact t_Mo_state_95 X (lv_sub hl [] rfl) hI hS h
set_option maxRecDepth 100000 in
set_option maxHeartbeats 4000000 in
theorem t_Mo_state_77 {p : Program} {l : Launch} {e : Env} {s : State} {m : MethodId} {args : Array Value} {below : List Frame} {meth : Method} {c : Code} {D : va_G} {A : Nat → Prop} {g : Nat → ClassId} {rest : va_W} {a0 : Nat → Nat} {ls : Array Slot} {H : Heap} {locs : List Loc} {s0 : S_Mo} {out : Int32 × S_Mo} (X : Cx p s m args meth c prog_11_method_57_code 2 ws_Mo_state R_Mo (some .int) D g) (hl : lv_has ls 2 [(0, .ref (a0 0))]) (hI : Iw D A (w_Mo g a0 s0 ++ (rest)) H) (hS : va_S A s.heap H locs) (h : B_Mo_state_77  s0 = some out) : W p l e (headSpec ws_Mo_state { frames := 0, cells := 0, slots := 0, locals := 0 }).room s m args below meth c H locs 0 0 (MQ below (QcI D A g out.1 (fun (_ : Unit) => w_Mo g a0 out.2 ++ (rest))) args s 0 0 A) (F0 m 77 ls []) := by
  have X1 := X
  obtain ⟨hx, hb, hml, hown, hts, hr, hlocks, hKK⟩ := X1
  have ht : ∀ w ∈ TB, w.before args s = true := fun w h => hts w (List.mem_cons_of_mem _ h)
  have hK := hKK.1
  unfold B_Mo_state_77 at h
  refine lv_aload_n hx hb d_Mo_state_77 rfl (lv_at hl 0 rfl) ?_
  refine gt_Mo_wanted hx hb ht hown hK hI (ht _ m_854) d_Mo_state_78 ?_
  refine lv_if_ne (tgt := 91) hx hb d_Mo_state_81 (by decide) (fun hc => ?_) (fun hc => ?_)
  · have h := it_f h hc
    exact t_Mo_state_91 X (lv_sub hl [0] rfl) hI hS h
  · have h := it_t h hc
    exact t_Mo_state_84 X (lv_sub hl [0] rfl) hI hS h
set_option maxRecDepth 100000 in
set_option maxHeartbeats 4000000 in
theorem t_Mo_state_96 {p : Program} {l : Launch} {e : Env} {s : State} {m : MethodId} {args : Array Value} {below : List Frame} {meth : Method} {c : Code} {D : va_G} {A : Nat → Prop} {g : Nat → ClassId} {rest : va_W} {a0 : Nat → Nat} {ls : Array Slot} {H : Heap} {locs : List Loc} {s0 : S_Mo} {out : Int32 × S_Mo} (X : Cx p s m args meth c prog_11_method_57_code 2 ws_Mo_state R_Mo (some .int) D g) (hl : lv_has ls 2 [(0, .ref (a0 0))]) (hI : Iw D A (w_Mo g a0 s0 ++ (rest)) H) (hS : va_S A s.heap H locs) (h : B_Mo_state_96  s0 = some out) : W p l e (headSpec ws_Mo_state { frames := 0, cells := 0, slots := 0, locals := 0 }).room s m args below meth c H locs 0 0 (MQ below (QcI D A g out.1 (fun (_ : Unit) => w_Mo g a0 out.2 ++ (rest))) args s 0 0 A) (F0 m 96 ls []) := by
  have X1 := X
  obtain ⟨hx, hb, hml, hown, hts, hr, hlocks, hKK⟩ := X1
  have ht : ∀ w ∈ TB, w.before args s = true := fun w h => hts w (List.mem_cons_of_mem _ h)
  have hK := hKK.1
  unfold B_Mo_state_96 at h
  refine lv_aload_n hx hb d_Mo_state_96 rfl (lv_at hl 0 rfl) ?_
  refine gt_Mo_records hx hb ht hown hK hI (ht _ m_863) d_Mo_state_97 ?_
  have h9 := Option.some.inj h
  subst h9
  exact W.iret (v := (Mo_records s0)) hx hb hr (fun t ht hW => ⟨⟨_, (), rfl, rfl, ⟨by rw [ht]; exact hI, hKK.moved hW⟩⟩, hS.F ht⟩) hS.2.2 d_Mo_state_100
set_option maxRecDepth 100000 in
set_option maxHeartbeats 4000000 in
theorem t_Mo_state_101 {p : Program} {l : Launch} {e : Env} {s : State} {m : MethodId} {args : Array Value} {below : List Frame} {meth : Method} {c : Code} {D : va_G} {A : Nat → Prop} {g : Nat → ClassId} {rest : va_W} {a0 : Nat → Nat} {ls : Array Slot} {H : Heap} {locs : List Loc} {s0 : S_Mo} {out : Int32 × S_Mo} (X : Cx p s m args meth c prog_11_method_57_code 2 ws_Mo_state R_Mo (some .int) D g) (hl : lv_has ls 2 [(0, .ref (a0 0))]) (hI : Iw D A (w_Mo g a0 s0 ++ (rest)) H) (hS : va_S A s.heap H locs) (h : B_Mo_state_101  s0 = some out) : W p l e (headSpec ws_Mo_state { frames := 0, cells := 0, slots := 0, locals := 0 }).room s m args below meth c H locs 0 0 (MQ below (QcI D A g out.1 (fun (_ : Unit) => w_Mo g a0 out.2 ++ (rest))) args s 0 0 A) (F0 m 101 ls []) := by
  have X1 := X
  obtain ⟨hx, hb, hml, hown, hts, hr, hlocks, hKK⟩ := X1
  have ht : ∀ w ∈ TB, w.before args s = true := fun w h => hts w (List.mem_cons_of_mem _ h)
  have hK := hKK.1
  unfold B_Mo_state_101 at h
  refine lv_aload_n hx hb d_Mo_state_101 rfl (lv_at hl 0 rfl) ?_
  refine gt_Mo_answered hx hb ht hown hK hI (ht _ m_862) d_Mo_state_102 ?_
  have h9 := Option.some.inj h
  subst h9
  exact W.iret (v := (Mo_answered s0)) hx hb hr (fun t ht hW => ⟨⟨_, (), rfl, rfl, ⟨by rw [ht]; exact hI, hKK.moved hW⟩⟩, hS.F ht⟩) hS.2.2 d_Mo_state_105
set_option maxRecDepth 100000 in
set_option maxHeartbeats 4000000 in
theorem t_Mo_state_106 {p : Program} {l : Launch} {e : Env} {s : State} {m : MethodId} {args : Array Value} {below : List Frame} {meth : Method} {c : Code} {D : va_G} {A : Nat → Prop} {g : Nat → ClassId} {rest : va_W} {a0 : Nat → Nat} {ls : Array Slot} {H : Heap} {locs : List Loc} {s0 : S_Mo} {out : Int32 × S_Mo} (X : Cx p s m args meth c prog_11_method_57_code 2 ws_Mo_state R_Mo (some .int) D g) (hl : lv_has ls 2 []) (hI : Iw D A (w_Mo g a0 s0 ++ (rest)) H) (hS : va_S A s.heap H locs) (h : B_Mo_state_106  s0 = some out) : W p l e (headSpec ws_Mo_state { frames := 0, cells := 0, slots := 0, locals := 0 }).room s m args below meth c H locs 0 0 (MQ below (QcI D A g out.1 (fun (_ : Unit) => w_Mo g a0 out.2 ++ (rest))) args s 0 0 A) (F0 m 106 ls []) := by
  have X1 := X
  obtain ⟨hx, hb, hml, hown, hts, hr, hlocks, hKK⟩ := X1
  have ht : ∀ w ∈ TB, w.before args s = true := fun w h => hts w (List.mem_cons_of_mem _ h)
  have hK := hKK.1
  unfold B_Mo_state_106 at h
  refine lv_iconst (v := (-1)) hx hb d_Mo_state_106 (by decide) ?_
  have h9 := Option.some.inj h
  subst h9
  exact W.iret (v := ((-1) : Int32)) hx hb hr (fun t ht hW => ⟨⟨_, (), rfl, rfl, ⟨by rw [ht]; exact hI, hKK.moved hW⟩⟩, hS.F ht⟩) hS.2.2 d_Mo_state_107
set_option maxRecDepth 100000 in
set_option maxHeartbeats 4000000 in
theorem t_Mo_state_0 {p : Program} {l : Launch} {e : Env} {s : State} {m : MethodId} {args : Array Value} {below : List Frame} {meth : Method} {c : Code} {D : va_G} {A : Nat → Prop} {g : Nat → ClassId} {rest : va_W} {a0 : Nat → Nat} {ls : Array Slot} {H : Heap} {locs : List Loc} {s0 : S_Mo} {x1 : Int32} {out : Int32 × S_Mo} (X : Cx p s m args meth c prog_11_method_57_code 2 ws_Mo_state R_Mo (some .int) D g) (hl : lv_has ls 2 [(0, .ref (a0 0)), (1, .int x1)]) (hI : Iw D A (w_Mo g a0 s0 ++ (rest)) H) (hS : va_S A s.heap H locs) (h : B_Mo_state_0  s0 x1 = some out) : W p l e (headSpec ws_Mo_state { frames := 0, cells := 0, slots := 0, locals := 0 }).room s m args below meth c H locs 0 0 (MQ below (QcI D A g out.1 (fun (_ : Unit) => w_Mo g a0 out.2 ++ (rest))) args s 0 0 A) (F0 m 0 ls []) := by
  have X1 := X
  obtain ⟨hx, hb, hml, hown, hts, hr, hlocks, hKK⟩ := X1
  have ht : ∀ w ∈ TB, w.before args s = true := fun w h => hts w (List.mem_cons_of_mem _ h)
  have hK := hKK.1
  unfold B_Mo_state_0 at h
  refine lv_aload_n hx hb d_Mo_state_0 rfl (lv_at hl 0 rfl) ?_
  refine lv_iconst (v := 0) hx hb d_Mo_state_1 (by decide) ?_
  refine pt_Mo_code hx hb ht hown hK hI hS (ht _ m_817) d_Mo_state_2 (fun H locs hI hS => ?_)
  refine lv_iload_n hx hb d_Mo_state_5 rfl (lv_at hl 1 rfl) ?_
  by_cases hs1 : x1 = 0
  · have h := it_t h hs1
    refine lv_tableIn (tgt := 52) hx hb d_Mo_state_6 (by rw [hs1]; decide) (by rw [hs1]; decide) (by rw [hs1]; rfl) (by decide) ?_
    exact t_Mo_state_52 X (lv_sub hl [0] rfl) hI hS h
  have h := it_f h hs1
  have hs1t := lv_neT (a := 0) hs1 (by decide)
  by_cases hs2 : x1 = 1
  · have h := it_t h hs2
    refine lv_tableIn (tgt := 57) hx hb d_Mo_state_6 (by rw [hs2]; decide) (by rw [hs2]; decide) (by rw [hs2]; rfl) (by decide) ?_
    exact t_Mo_state_57 X (lv_sub hl [0] rfl) hI hS h
  have h := it_f h hs2
  have hs2t := lv_neT (a := 1) hs2 (by decide)
  by_cases hs3 : x1 = 2
  · have h := it_t h hs3
    refine lv_tableIn (tgt := 62) hx hb d_Mo_state_6 (by rw [hs3]; decide) (by rw [hs3]; decide) (by rw [hs3]; rfl) (by decide) ?_
    exact t_Mo_state_62 X (lv_sub hl [0] rfl) hI hS h
  have h := it_f h hs3
  have hs3t := lv_neT (a := 2) hs3 (by decide)
  by_cases hs4 : x1 = 3
  · have h := it_t h hs4
    refine lv_tableIn (tgt := 67) hx hb d_Mo_state_6 (by rw [hs4]; decide) (by rw [hs4]; decide) (by rw [hs4]; rfl) (by decide) ?_
    exact t_Mo_state_67 X (lv_sub hl [0] rfl) hI hS h
  have h := it_f h hs4
  have hs4t := lv_neT (a := 3) hs4 (by decide)
  by_cases hs5 : x1 = 4
  · have h := it_t h hs5
    refine lv_tableIn (tgt := 72) hx hb d_Mo_state_6 (by rw [hs5]; decide) (by rw [hs5]; decide) (by rw [hs5]; rfl) (by decide) ?_
    exact t_Mo_state_72 X (lv_sub hl [0] rfl) hI hS h
  have h := it_f h hs5
  have hs5t := lv_neT (a := 4) hs5 (by decide)
  by_cases hs6 : x1 = 5
  · have h := it_t h hs6
    refine lv_tableIn (tgt := 77) hx hb d_Mo_state_6 (by rw [hs6]; decide) (by rw [hs6]; decide) (by rw [hs6]; rfl) (by decide) ?_
    exact t_Mo_state_77 X (lv_sub hl [0] rfl) hI hS h
  have h := it_f h hs6
  have hs6t := lv_neT (a := 5) hs6 (by decide)
  by_cases hs7 : x1 = 6
  · have h := it_t h hs7
    refine lv_tableIn (tgt := 96) hx hb d_Mo_state_6 (by rw [hs7]; decide) (by rw [hs7]; decide) (by rw [hs7]; rfl) (by decide) ?_
    exact t_Mo_state_96 X (lv_sub hl [0] rfl) hI hS h
  have h := it_f h hs7
  have hs7t := lv_neT (a := 6) hs7 (by decide)
  by_cases hs8 : x1 = 7
  · have h := it_t h hs8
    refine lv_tableIn (tgt := 101) hx hb d_Mo_state_6 (by rw [hs8]; decide) (by rw [hs8]; decide) (by rw [hs8]; rfl) (by decide) ?_
    exact t_Mo_state_101 X (lv_sub hl [0] rfl) hI hS h
  have h := it_f h hs8
  have hs8t := lv_neT (a := 7) hs8 (by decide)
  refine lv_tableOut (tgt := 106) hx hb d_Mo_state_6 (by omega) (by decide) ?_
  exact t_Mo_state_106 X (lv_sub hl [] rfl) hI hS h
set_option maxRecDepth 100000 in
set_option maxHeartbeats 4000000 in
theorem c_Mo_state {l : Launch} {D : va_G} {A : Nat → Prop} {g : Nat → ClassId} {rest : va_W} {a0 : Nat → Nat} {s0 : S_Mo} {x1 : Int32} {out : Int32 × S_Mo} (h : F_Mo_state s0 x1 = some out) : Met l y_Mo_state ws_Mo_state { frames := 0, cells := 0, slots := 0, locals := 0 } (PcW D A g [.ref (a0 0), .int x1] (w_Mo g a0 s0 ++ (rest))) (QcI D A g out.1 (fun (_ : Unit) => w_Mo g a0 out.2 ++ (rest))) 0 0 A := by
  refine Met.ofW (cc := prog_11_method_57_code) (maxL := 2) (ret := (some .int)) (by decide) rfl ?_
  intro p e s m args below meth c s₁ B hml hv
  obtain ⟨rfl, hI, hK⟩ := hv
  have hl := lv_entry [.ref (a0 0), .int x1] (n := 2) (Nat.le_of_ble_eq_true rfl)
  rw [lg_entry_eq]
  generalize (lg_sl [.ref (a0 0), .int x1] ++ List.replicate (2 - (lg_sl [.ref (a0 0), .int x1]).length) Slot.unset).toArray = ls at hl ⊢
  have hl : lv_has ls 2 [(0, .ref (a0 0)), (1, .int x1)] := hl
  exact t_Mo_state_0 ⟨B.exec, B.bytes, hml, findClass_of_methodNamed B.named, atoms_spec (ws := ws_Mo_state) B.pre, B.returns, B.notSynchronized, hK⟩ (lv_sub hl [0, 1] rfl) hI va_S.rf h
def ws_Mo_contextOf : List Cond := .code y_Mo_contextOf prog_11_method_38_code 3 (some .int) :: TB
def B_Mo_contextOf_28 (s0 : S_Mo) : Option Int32 :=
  some ((-1) : Int32)
def B_Mo_contextOf_22 (k2 : Int32 × Int32 → Option Int32) (s0 : S_Mo) (x1 : Int32) (x2 : Int32) : Option Int32 :=
  (k2 (x1, (x2 + 1)))
def B_Mo_contextOf_20 (s0 : S_Mo) (x2 : Int32) : Option Int32 :=
  some x2
def B_Mo_contextOf_10 (k2 : Int32 × Int32 → Option Int32) (s0 : S_Mo) (x1 : Int32) (x2 : Int32) : Option Int32 :=
  (if (x2 < 0 ∨ 4 ≤ x2.toNatClampNeg) then none else (if ((Mo_ids s0) x2.toNatClampNeg) = x1 then (B_Mo_contextOf_20 s0 x2) else (B_Mo_contextOf_22 k2 s0 x1 x2)))
def B_Mo_contextOf_2 (k2 : Int32 × Int32 → Option Int32) (s0 : S_Mo) (x1 : Int32) (x2 : Int32) : Option Int32 :=
  (if (Mo_contexts s0) ≤ x2 then (B_Mo_contextOf_28 s0) else (B_Mo_contextOf_10 k2 s0 x1 x2))
def L_Mo_contextOf_2 (s0 : S_Mo) (v : Int32 × Int32) : Option Int32 := lp (fun k2 v => B_Mo_contextOf_2  k2 s0 v.1 v.2) FU v
def B_Mo_contextOf_0 (s0 : S_Mo) (x1 : Int32) : Option Int32 :=
  (L_Mo_contextOf_2 s0 (x1, (0 : Int32)))
def F_Mo_contextOf (s0 : S_Mo) (x1 : Int32) : Option Int32 := B_Mo_contextOf_0 s0 x1
set_option maxRecDepth 100000 in
set_option maxHeartbeats 4000000 in
theorem t_Mo_contextOf_28 {p : Program} {l : Launch} {e : Env} {s : State} {m : MethodId} {args : Array Value} {below : List Frame} {meth : Method} {c : Code} {D : va_G} {A : Nat → Prop} {g : Nat → ClassId} {rest : va_W} {a0 : Nat → Nat} {ls : Array Slot} {H : Heap} {locs : List Loc} {s0 : S_Mo} {out : Int32} (X : Cx p s m args meth c prog_11_method_38_code 3 ws_Mo_contextOf R_Mo (some .int) D g) (hl : lv_has ls 3 []) (hI : Iw D A (w_Mo g a0 s0 ++ (rest)) H) (hS : va_S A s.heap H locs) (h : B_Mo_contextOf_28  s0 = some out) : W p l e (headSpec ws_Mo_contextOf { frames := 0, cells := 0, slots := 0, locals := 0 }).room s m args below meth c H locs 0 0 (MQ below (QcI D A g out (fun (_ : Unit) => w_Mo g a0 s0 ++ (rest))) args s 0 0 A) (F0 m 28 ls []) := by
  have X1 := X
  obtain ⟨hx, hb, hml, hown, hts, hr, hlocks, hKK⟩ := X1
  have ht : ∀ w ∈ TB, w.before args s = true := fun w h => hts w (List.mem_cons_of_mem _ h)
  have hK := hKK.1
  unfold B_Mo_contextOf_28 at h
  refine lv_iconst (v := (-1)) hx hb d_Mo_contextOf_28 (by decide) ?_
  have h9 := Option.some.inj h
  subst h9
  exact W.iret (v := ((-1) : Int32)) hx hb hr (fun t ht hW => ⟨⟨_, (), rfl, rfl, ⟨by rw [ht]; exact hI, hKK.moved hW⟩⟩, hS.F ht⟩) hS.2.2 d_Mo_contextOf_29
set_option maxRecDepth 100000 in
set_option maxHeartbeats 4000000 in
theorem t_Mo_contextOf_22 {p : Program} {l : Launch} {e : Env} {s : State} {m : MethodId} {args : Array Value} {below : List Frame} {meth : Method} {c : Code} {D : va_G} {A : Nat → Prop} {g : Nat → ClassId} {rest : va_W} {a0 : Nat → Nat} {ls : Array Slot} {H : Heap} {locs : List Loc} {k2 : Int32 × Int32 → Option Int32} {s0 : S_Mo} {x1 : Int32} {x2 : Int32} {out : Int32} (X : Cx p s m args meth c prog_11_method_38_code 3 ws_Mo_contextOf R_Mo (some .int) D g) (hk2 : ∀ (v : Int32 × Int32) (ls : Array Slot) (H : Heap) (locs : List Loc), lv_has ls 3 [(0, .ref (a0 0)), (1, .int v.1), (2, .int v.2)] → Iw D A (w_Mo g a0 s0 ++ (rest)) H → va_S A s.heap H locs → k2 v = some out → W p l e (headSpec ws_Mo_contextOf { frames := 0, cells := 0, slots := 0, locals := 0 }).room s m args below meth c H locs 0 0 (MQ below (QcI D A g out (fun (_ : Unit) => w_Mo g a0 s0 ++ (rest))) args s 0 0 A) (F0 m 2 ls [])) (hl : lv_has ls 3 [(0, .ref (a0 0)), (1, .int x1), (2, .int x2)]) (hI : Iw D A (w_Mo g a0 s0 ++ (rest)) H) (hS : va_S A s.heap H locs) (h : B_Mo_contextOf_22 k2 s0 x1 x2 = some out) : W p l e (headSpec ws_Mo_contextOf { frames := 0, cells := 0, slots := 0, locals := 0 }).room s m args below meth c H locs 0 0 (MQ below (QcI D A g out (fun (_ : Unit) => w_Mo g a0 s0 ++ (rest))) args s 0 0 A) (F0 m 22 ls []) := by
  have X1 := X
  obtain ⟨hx, hb, hml, hown, hts, hr, hlocks, hKK⟩ := X1
  have ht : ∀ w ∈ TB, w.before args s = true := fun w h => hts w (List.mem_cons_of_mem _ h)
  have hK := hKK.1
  unfold B_Mo_contextOf_22 at h
  refine lv_iinc (k := 2) (v := (x2 + 1)) hx hb d_Mo_contextOf_22 hl rfl (congrArg (fun z => x2 + z) (by decide)) (Nat.le_of_ble_eq_true rfl) rfl (fun ls hl => ?_)
  have hl : lv_has ls 3 [(2, .int (x2 + 1)), (0, .ref (a0 0)), (1, .int x1)] := hl
  refine lv_goto (tgt := 2) hx hb d_Mo_contextOf_25 (by decide) ?_
  exact hk2 (x1, (x2 + 1)) _ _ _ (lv_sub hl [1, 2, 0] rfl) hI hS h
set_option maxRecDepth 100000 in
set_option maxHeartbeats 4000000 in
theorem t_Mo_contextOf_20 {p : Program} {l : Launch} {e : Env} {s : State} {m : MethodId} {args : Array Value} {below : List Frame} {meth : Method} {c : Code} {D : va_G} {A : Nat → Prop} {g : Nat → ClassId} {rest : va_W} {a0 : Nat → Nat} {ls : Array Slot} {H : Heap} {locs : List Loc} {s0 : S_Mo} {x2 : Int32} {out : Int32} (X : Cx p s m args meth c prog_11_method_38_code 3 ws_Mo_contextOf R_Mo (some .int) D g) (hl : lv_has ls 3 [(2, .int x2)]) (hI : Iw D A (w_Mo g a0 s0 ++ (rest)) H) (hS : va_S A s.heap H locs) (h : B_Mo_contextOf_20  s0 x2 = some out) : W p l e (headSpec ws_Mo_contextOf { frames := 0, cells := 0, slots := 0, locals := 0 }).room s m args below meth c H locs 0 0 (MQ below (QcI D A g out (fun (_ : Unit) => w_Mo g a0 s0 ++ (rest))) args s 0 0 A) (F0 m 20 ls []) := by
  have X1 := X
  obtain ⟨hx, hb, hml, hown, hts, hr, hlocks, hKK⟩ := X1
  have ht : ∀ w ∈ TB, w.before args s = true := fun w h => hts w (List.mem_cons_of_mem _ h)
  have hK := hKK.1
  unfold B_Mo_contextOf_20 at h
  refine lv_iload_n hx hb d_Mo_contextOf_20 rfl (lv_at hl 0 rfl) ?_
  have h9 := Option.some.inj h
  subst h9
  exact W.iret (v := x2) hx hb hr (fun t ht hW => ⟨⟨_, (), rfl, rfl, ⟨by rw [ht]; exact hI, hKK.moved hW⟩⟩, hS.F ht⟩) hS.2.2 d_Mo_contextOf_21
set_option maxRecDepth 100000 in
set_option maxHeartbeats 4000000 in
theorem t_Mo_contextOf_10 {p : Program} {l : Launch} {e : Env} {s : State} {m : MethodId} {args : Array Value} {below : List Frame} {meth : Method} {c : Code} {D : va_G} {A : Nat → Prop} {g : Nat → ClassId} {rest : va_W} {a0 : Nat → Nat} {ls : Array Slot} {H : Heap} {locs : List Loc} {k2 : Int32 × Int32 → Option Int32} {s0 : S_Mo} {x1 : Int32} {x2 : Int32} {out : Int32} (X : Cx p s m args meth c prog_11_method_38_code 3 ws_Mo_contextOf R_Mo (some .int) D g) (hk2 : ∀ (v : Int32 × Int32) (ls : Array Slot) (H : Heap) (locs : List Loc), lv_has ls 3 [(0, .ref (a0 0)), (1, .int v.1), (2, .int v.2)] → Iw D A (w_Mo g a0 s0 ++ (rest)) H → va_S A s.heap H locs → k2 v = some out → W p l e (headSpec ws_Mo_contextOf { frames := 0, cells := 0, slots := 0, locals := 0 }).room s m args below meth c H locs 0 0 (MQ below (QcI D A g out (fun (_ : Unit) => w_Mo g a0 s0 ++ (rest))) args s 0 0 A) (F0 m 2 ls [])) (hl : lv_has ls 3 [(0, .ref (a0 0)), (1, .int x1), (2, .int x2)]) (hI : Iw D A (w_Mo g a0 s0 ++ (rest)) H) (hS : va_S A s.heap H locs) (h : B_Mo_contextOf_10 k2 s0 x1 x2 = some out) : W p l e (headSpec ws_Mo_contextOf { frames := 0, cells := 0, slots := 0, locals := 0 }).room s m args below meth c H locs 0 0 (MQ below (QcI D A g out (fun (_ : Unit) => w_Mo g a0 s0 ++ (rest))) args s 0 0 A) (F0 m 10 ls []) := by
  have X1 := X
  obtain ⟨hx, hb, hml, hown, hts, hr, hlocks, hKK⟩ := X1
  have ht : ∀ w ∈ TB, w.before args s = true := fun w h => hts w (List.mem_cons_of_mem _ h)
  have hK := hKK.1
  unfold B_Mo_contextOf_10 at h
  refine lv_aload_n hx hb d_Mo_contextOf_10 rfl (lv_at hl 0 rfl) ?_
  refine gt_Mo_ids hx hb ht hown hK hI (ht _ m_851) d_Mo_contextOf_11 ?_
  refine lv_iload_n hx hb d_Mo_contextOf_14 rfl (lv_at hl 2 rfl) ?_
  by_cases hc1 : (x2 < 0 ∨ 4 ≤ x2.toNatClampNeg)
  · exact no_s (it_t h hc1)
  have h := it_f h hc1
  refine al_Mo_ids hx hb hK hI hc1 d_Mo_contextOf_15 ?_
  refine lv_iload_n hx hb d_Mo_contextOf_16 rfl (lv_at hl 1 rfl) ?_
  refine lv_icmp_ne (tgt := 22) hx hb d_Mo_contextOf_17 (by decide) (fun hc => ?_) (fun hc => ?_)
  · have h := it_f h hc
    exact t_Mo_contextOf_22 X hk2 (lv_sub hl [0, 1, 2] rfl) hI hS h
  · have h := it_t h hc
    exact t_Mo_contextOf_20 X (lv_sub hl [2] rfl) hI hS h
set_option maxRecDepth 100000 in
set_option maxHeartbeats 4000000 in
theorem t_Mo_contextOf_2 {p : Program} {l : Launch} {e : Env} {s : State} {m : MethodId} {args : Array Value} {below : List Frame} {meth : Method} {c : Code} {D : va_G} {A : Nat → Prop} {g : Nat → ClassId} {rest : va_W} {a0 : Nat → Nat} {ls : Array Slot} {H : Heap} {locs : List Loc} {k2 : Int32 × Int32 → Option Int32} {s0 : S_Mo} {x1 : Int32} {x2 : Int32} {out : Int32} (X : Cx p s m args meth c prog_11_method_38_code 3 ws_Mo_contextOf R_Mo (some .int) D g) (hk2 : ∀ (v : Int32 × Int32) (ls : Array Slot) (H : Heap) (locs : List Loc), lv_has ls 3 [(0, .ref (a0 0)), (1, .int v.1), (2, .int v.2)] → Iw D A (w_Mo g a0 s0 ++ (rest)) H → va_S A s.heap H locs → k2 v = some out → W p l e (headSpec ws_Mo_contextOf { frames := 0, cells := 0, slots := 0, locals := 0 }).room s m args below meth c H locs 0 0 (MQ below (QcI D A g out (fun (_ : Unit) => w_Mo g a0 s0 ++ (rest))) args s 0 0 A) (F0 m 2 ls [])) (hl : lv_has ls 3 [(0, .ref (a0 0)), (1, .int x1), (2, .int x2)]) (hI : Iw D A (w_Mo g a0 s0 ++ (rest)) H) (hS : va_S A s.heap H locs) (h : B_Mo_contextOf_2 k2 s0 x1 x2 = some out) : W p l e (headSpec ws_Mo_contextOf { frames := 0, cells := 0, slots := 0, locals := 0 }).room s m args below meth c H locs 0 0 (MQ below (QcI D A g out (fun (_ : Unit) => w_Mo g a0 s0 ++ (rest))) args s 0 0 A) (F0 m 2 ls []) := by
  have X1 := X
  obtain ⟨hx, hb, hml, hown, hts, hr, hlocks, hKK⟩ := X1
  have ht : ∀ w ∈ TB, w.before args s = true := fun w h => hts w (List.mem_cons_of_mem _ h)
  have hK := hKK.1
  unfold B_Mo_contextOf_2 at h
  refine lv_iload_n hx hb d_Mo_contextOf_2 rfl (lv_at hl 2 rfl) ?_
  refine lv_aload_n hx hb d_Mo_contextOf_3 rfl (lv_at hl 0 rfl) ?_
  refine gt_Mo_contexts hx hb ht hown hK hI (ht _ m_850) d_Mo_contextOf_4 ?_
  refine lv_icmp_ge (tgt := 28) hx hb d_Mo_contextOf_7 (by decide) (fun hc => ?_) (fun hc => ?_)
  · have h := it_t h hc
    exact t_Mo_contextOf_28 X (lv_sub hl [] rfl) hI hS h
  · have h := it_f h hc
    exact t_Mo_contextOf_10 X hk2 (lv_sub hl [0, 1, 2] rfl) hI hS h
set_option maxRecDepth 100000 in
set_option maxHeartbeats 4000000 in
theorem T_Mo_contextOf_2 {p : Program} {l : Launch} {e : Env} {s : State} {m : MethodId} {args : Array Value} {below : List Frame} {meth : Method} {c : Code} {D : va_G} {A : Nat → Prop} {g : Nat → ClassId} {rest : va_W} {a0 : Nat → Nat} {ls : Array Slot} {H : Heap} {locs : List Loc} {s0 : S_Mo} {x1 : Int32} {x2 : Int32} {out : Int32} (X : Cx p s m args meth c prog_11_method_38_code 3 ws_Mo_contextOf R_Mo (some .int) D g) (hl : lv_has ls 3 [(0, .ref (a0 0)), (1, .int x1), (2, .int x2)]) (hI : Iw D A (w_Mo g a0 s0 ++ (rest)) H) (hS : va_S A s.heap H locs) (h : L_Mo_contextOf_2  s0 (x1, x2) = some out) : W p l e (headSpec ws_Mo_contextOf { frames := 0, cells := 0, slots := 0, locals := 0 }).room s m args below meth c H locs 0 0 (MQ below (QcI D A g out (fun (_ : Unit) => w_Mo g a0 s0 ++ (rest))) args s 0 0 A) (F0 m 2 ls []) := by
  unfold L_Mo_contextOf_2 at h
  exact lp_ind (P := fun v => ∀ (ls : Array Slot) (H : Heap) (locs : List Loc), lv_has ls 3 [(0, .ref (a0 0)), (1, .int v.1), (2, .int v.2)] → Iw D A (w_Mo g a0 s0 ++ (rest)) H → va_S A s.heap H locs → W p l e (headSpec ws_Mo_contextOf { frames := 0, cells := 0, slots := 0, locals := 0 }).room s m args below meth c H locs 0 0 (MQ below (QcI D A g out (fun (_ : Unit) => w_Mo g a0 s0 ++ (rest))) args s 0 0 A) (F0 m 2 ls [])) (fun k v ih hb ls H locs  hl hI hS => t_Mo_contextOf_2 X  (fun v' ls H locs  hl hI hS h' => ih v' h' ls H locs  hl hI hS) hl hI hS hb) FU _ h ls H locs  hl hI hS
set_option maxRecDepth 100000 in
set_option maxHeartbeats 4000000 in
theorem t_Mo_contextOf_0 {p : Program} {l : Launch} {e : Env} {s : State} {m : MethodId} {args : Array Value} {below : List Frame} {meth : Method} {c : Code} {D : va_G} {A : Nat → Prop} {g : Nat → ClassId} {rest : va_W} {a0 : Nat → Nat} {ls : Array Slot} {H : Heap} {locs : List Loc} {s0 : S_Mo} {x1 : Int32} {out : Int32} (X : Cx p s m args meth c prog_11_method_38_code 3 ws_Mo_contextOf R_Mo (some .int) D g) (hl : lv_has ls 3 [(0, .ref (a0 0)), (1, .int x1)]) (hI : Iw D A (w_Mo g a0 s0 ++ (rest)) H) (hS : va_S A s.heap H locs) (h : B_Mo_contextOf_0  s0 x1 = some out) : W p l e (headSpec ws_Mo_contextOf { frames := 0, cells := 0, slots := 0, locals := 0 }).room s m args below meth c H locs 0 0 (MQ below (QcI D A g out (fun (_ : Unit) => w_Mo g a0 s0 ++ (rest))) args s 0 0 A) (F0 m 0 ls []) := by
  have X1 := X
  obtain ⟨hx, hb, hml, hown, hts, hr, hlocks, hKK⟩ := X1
  have ht : ∀ w ∈ TB, w.before args s = true := fun w h => hts w (List.mem_cons_of_mem _ h)
  have hK := hKK.1
  unfold B_Mo_contextOf_0 at h
  refine lv_iconst (v := 0) hx hb d_Mo_contextOf_0 (by decide) ?_
  refine lv_istore_n hx hb d_Mo_contextOf_1 rfl hl (Nat.le_of_ble_eq_true rfl) rfl (fun ls hl => ?_)
  have hl : lv_has ls 3 [(2, .int (0 : Int32)), (0, .ref (a0 0)), (1, .int x1)] := hl
  exact T_Mo_contextOf_2 X (lv_sub hl [1, 2, 0] rfl) hI hS h
set_option maxRecDepth 100000 in
set_option maxHeartbeats 4000000 in
theorem c_Mo_contextOf {l : Launch} {D : va_G} {A : Nat → Prop} {g : Nat → ClassId} {rest : va_W} {a0 : Nat → Nat} {s0 : S_Mo} {x1 : Int32} {out : Int32} (h : F_Mo_contextOf s0 x1 = some out) : Met l y_Mo_contextOf ws_Mo_contextOf { frames := 0, cells := 0, slots := 0, locals := 0 } (PcW D A g [.ref (a0 0), .int x1] (w_Mo g a0 s0 ++ (rest))) (QcI D A g out (fun (_ : Unit) => w_Mo g a0 s0 ++ (rest))) 0 0 A := by
  refine Met.ofW (cc := prog_11_method_38_code) (maxL := 3) (ret := (some .int)) (by decide) rfl ?_
  intro p e s m args below meth c s₁ B hml hv
  obtain ⟨rfl, hI, hK⟩ := hv
  have hl := lv_entry [.ref (a0 0), .int x1] (n := 3) (Nat.le_of_ble_eq_true rfl)
  rw [lg_entry_eq]
  generalize (lg_sl [.ref (a0 0), .int x1] ++ List.replicate (3 - (lg_sl [.ref (a0 0), .int x1]).length) Slot.unset).toArray = ls at hl ⊢
  have hl : lv_has ls 3 [(0, .ref (a0 0)), (1, .int x1)] := hl
  exact t_Mo_contextOf_0 ⟨B.exec, B.bytes, hml, findClass_of_methodNamed B.named, atoms_spec (ws := ws_Mo_contextOf) B.pre, B.returns, B.notSynchronized, hK⟩ (lv_sub hl [0, 1] rfl) hI va_S.rf h
def ws_Mo_context : List Cond := .code y_Mo_context prog_11_method_58_code 3 (some .int) :: TB
def B_Mo_context_37 (s0 : S_Mo) (y0 : Int32) : Option (Int32 × S_Mo) :=
  some (y0, s0)
def B_Mo_context_31 (s0 : S_Mo) (x2 : Int32) : Option (Int32 × S_Mo) :=
  (if (x2 < 0 ∨ 4 ≤ x2.toNatClampNeg) then none else (B_Mo_context_37 s0 ((Mo_results s0) x2.toNatClampNeg)))
def B_Mo_context_27 (s0 : S_Mo) : Option (Int32 × S_Mo) :=
  (B_Mo_context_37 s0 ((-1) : Int32))
def B_Mo_context_22 (s0 : S_Mo) (y0 : Int32) : Option (Int32 × S_Mo) :=
  (if 0 ≤ y0 then (B_Mo_context_31 s0 y0) else (B_Mo_context_27 s0))
def B_Mo_context_21 (s0 : S_Mo) : Option (Int32 × S_Mo) :=
  (B_Mo_context_22 s0 ((-1) : Int32))
def B_Mo_context_13 (s0 : S_Mo) (x1 : Int32) : Option (Int32 × S_Mo) :=
  ((F_Mo_contextOf s0 x1).bind fun o1 => (B_Mo_context_22 s0 o1))
def B_Mo_context_0 (s0 : S_Mo) (x1 : Int32) : Option (Int32 × S_Mo) :=
  (if (Mo_line (Mo_set_code s0 (0 : Int32))) = (2 : Int32) then (B_Mo_context_13 (Mo_set_code s0 (0 : Int32)) x1) else (B_Mo_context_21 (Mo_set_code s0 (0 : Int32))))
def F_Mo_context (s0 : S_Mo) (x1 : Int32) : Option (Int32 × S_Mo) := B_Mo_context_0 s0 x1
set_option maxRecDepth 100000 in
set_option maxHeartbeats 4000000 in
theorem t_Mo_context_37 {p : Program} {l : Launch} {e : Env} {s : State} {m : MethodId} {args : Array Value} {below : List Frame} {meth : Method} {c : Code} {D : va_G} {A : Nat → Prop} {g : Nat → ClassId} {rest : va_W} {a0 : Nat → Nat} {ls : Array Slot} {H : Heap} {locs : List Loc} {s0 : S_Mo} {y0 : Int32} {out : Int32 × S_Mo} (X : Cx p s m args meth c prog_11_method_58_code 3 ws_Mo_context R_Mo (some .int) D g) (hl : lv_has ls 3 []) (hI : Iw D A (w_Mo g a0 s0 ++ (rest)) H) (hS : va_S A s.heap H locs) (h : B_Mo_context_37  s0 y0 = some out) : W p l e (headSpec ws_Mo_context { frames := 1, cells := 0, slots := 0, locals := 22 }).room s m args below meth c H locs 0 0 (MQ below (QcI D A g out.1 (fun (_ : Unit) => w_Mo g a0 out.2 ++ (rest))) args s 0 0 A) (F0 m 37 ls [.int y0]) := by
  have X1 := X
  obtain ⟨hx, hb, hml, hown, hts, hr, hlocks, hKK⟩ := X1
  have ht : ∀ w ∈ TB, w.before args s = true := fun w h => hts w (List.mem_cons_of_mem _ h)
  have hK := hKK.1
  unfold B_Mo_context_37 at h
  have h9 := Option.some.inj h
  subst h9
  exact W.iret (v := y0) hx hb hr (fun t ht hW => ⟨⟨_, (), rfl, rfl, ⟨by rw [ht]; exact hI, hKK.moved hW⟩⟩, hS.F ht⟩) hS.2.2 d_Mo_context_37
set_option maxRecDepth 100000 in
set_option maxHeartbeats 4000000 in
theorem t_Mo_context_31 {p : Program} {l : Launch} {e : Env} {s : State} {m : MethodId} {args : Array Value} {below : List Frame} {meth : Method} {c : Code} {D : va_G} {A : Nat → Prop} {g : Nat → ClassId} {rest : va_W} {a0 : Nat → Nat} {ls : Array Slot} {H : Heap} {locs : List Loc} {s0 : S_Mo} {x2 : Int32} {out : Int32 × S_Mo} (X : Cx p s m args meth c prog_11_method_58_code 3 ws_Mo_context R_Mo (some .int) D g) (hl : lv_has ls 3 [(0, .ref (a0 0)), (2, .int x2)]) (hI : Iw D A (w_Mo g a0 s0 ++ (rest)) H) (hS : va_S A s.heap H locs) (h : B_Mo_context_31  s0 x2 = some out) : W p l e (headSpec ws_Mo_context { frames := 1, cells := 0, slots := 0, locals := 22 }).room s m args below meth c H locs 0 0 (MQ below (QcI D A g out.1 (fun (_ : Unit) => w_Mo g a0 out.2 ++ (rest))) args s 0 0 A) (F0 m 31 ls []) := by
  have X1 := X
  obtain ⟨hx, hb, hml, hown, hts, hr, hlocks, hKK⟩ := X1
  have ht : ∀ w ∈ TB, w.before args s = true := fun w h => hts w (List.mem_cons_of_mem _ h)
  have hK := hKK.1
  unfold B_Mo_context_31 at h
  refine lv_aload_n hx hb d_Mo_context_31 rfl (lv_at hl 0 rfl) ?_
  refine gt_Mo_results hx hb ht hown hK hI (ht _ m_853) d_Mo_context_32 ?_
  refine lv_iload_n hx hb d_Mo_context_35 rfl (lv_at hl 1 rfl) ?_
  by_cases hc1 : (x2 < 0 ∨ 4 ≤ x2.toNatClampNeg)
  · exact no_s (it_t h hc1)
  have h := it_f h hc1
  refine al_Mo_results hx hb hK hI hc1 d_Mo_context_36 ?_
  exact t_Mo_context_37 X (lv_sub hl [] rfl) hI hS h
set_option maxRecDepth 100000 in
set_option maxHeartbeats 4000000 in
theorem t_Mo_context_27 {p : Program} {l : Launch} {e : Env} {s : State} {m : MethodId} {args : Array Value} {below : List Frame} {meth : Method} {c : Code} {D : va_G} {A : Nat → Prop} {g : Nat → ClassId} {rest : va_W} {a0 : Nat → Nat} {ls : Array Slot} {H : Heap} {locs : List Loc} {s0 : S_Mo} {out : Int32 × S_Mo} (X : Cx p s m args meth c prog_11_method_58_code 3 ws_Mo_context R_Mo (some .int) D g) (hl : lv_has ls 3 []) (hI : Iw D A (w_Mo g a0 s0 ++ (rest)) H) (hS : va_S A s.heap H locs) (h : B_Mo_context_27  s0 = some out) : W p l e (headSpec ws_Mo_context { frames := 1, cells := 0, slots := 0, locals := 22 }).room s m args below meth c H locs 0 0 (MQ below (QcI D A g out.1 (fun (_ : Unit) => w_Mo g a0 out.2 ++ (rest))) args s 0 0 A) (F0 m 27 ls []) := by
  have X1 := X
  obtain ⟨hx, hb, hml, hown, hts, hr, hlocks, hKK⟩ := X1
  have ht : ∀ w ∈ TB, w.before args s = true := fun w h => hts w (List.mem_cons_of_mem _ h)
  have hK := hKK.1
  unfold B_Mo_context_27 at h
  refine lv_iconst (v := (-1)) hx hb d_Mo_context_27 (by decide) ?_
  refine lv_goto (tgt := 37) hx hb d_Mo_context_28 (by decide) ?_
  exact t_Mo_context_37 X (lv_sub hl [] rfl) hI hS h
set_option maxRecDepth 100000 in
set_option maxHeartbeats 4000000 in
theorem t_Mo_context_22 {p : Program} {l : Launch} {e : Env} {s : State} {m : MethodId} {args : Array Value} {below : List Frame} {meth : Method} {c : Code} {D : va_G} {A : Nat → Prop} {g : Nat → ClassId} {rest : va_W} {a0 : Nat → Nat} {ls : Array Slot} {H : Heap} {locs : List Loc} {s0 : S_Mo} {y0 : Int32} {out : Int32 × S_Mo} (X : Cx p s m args meth c prog_11_method_58_code 3 ws_Mo_context R_Mo (some .int) D g) (hl : lv_has ls 3 [(0, .ref (a0 0))]) (hI : Iw D A (w_Mo g a0 s0 ++ (rest)) H) (hS : va_S A s.heap H locs) (h : B_Mo_context_22  s0 y0 = some out) : W p l e (headSpec ws_Mo_context { frames := 1, cells := 0, slots := 0, locals := 22 }).room s m args below meth c H locs 0 0 (MQ below (QcI D A g out.1 (fun (_ : Unit) => w_Mo g a0 out.2 ++ (rest))) args s 0 0 A) (F0 m 22 ls [.int y0]) := by
  have X1 := X
  obtain ⟨hx, hb, hml, hown, hts, hr, hlocks, hKK⟩ := X1
  have ht : ∀ w ∈ TB, w.before args s = true := fun w h => hts w (List.mem_cons_of_mem _ h)
  have hK := hKK.1
  unfold B_Mo_context_22 at h
  refine lv_istore_n hx hb d_Mo_context_22 rfl hl (Nat.le_of_ble_eq_true rfl) rfl (fun ls hl => ?_)
  have hl : lv_has ls 3 [(2, .int y0), (0, .ref (a0 0))] := hl
  refine lv_iload_n hx hb d_Mo_context_23 rfl (lv_at hl 0 rfl) ?_
  refine lv_if_ge (tgt := 31) hx hb d_Mo_context_24 (by decide) (fun hc => ?_) (fun hc => ?_)
  · have h := it_t h hc
    exact t_Mo_context_31 X (lv_sub hl [1, 0] rfl) hI hS h
  · have h := it_f h hc
    exact t_Mo_context_27 X (lv_sub hl [] rfl) hI hS h
set_option maxRecDepth 100000 in
set_option maxHeartbeats 4000000 in
theorem t_Mo_context_21 {p : Program} {l : Launch} {e : Env} {s : State} {m : MethodId} {args : Array Value} {below : List Frame} {meth : Method} {c : Code} {D : va_G} {A : Nat → Prop} {g : Nat → ClassId} {rest : va_W} {a0 : Nat → Nat} {ls : Array Slot} {H : Heap} {locs : List Loc} {s0 : S_Mo} {out : Int32 × S_Mo} (X : Cx p s m args meth c prog_11_method_58_code 3 ws_Mo_context R_Mo (some .int) D g) (hl : lv_has ls 3 [(0, .ref (a0 0))]) (hI : Iw D A (w_Mo g a0 s0 ++ (rest)) H) (hS : va_S A s.heap H locs) (h : B_Mo_context_21  s0 = some out) : W p l e (headSpec ws_Mo_context { frames := 1, cells := 0, slots := 0, locals := 22 }).room s m args below meth c H locs 0 0 (MQ below (QcI D A g out.1 (fun (_ : Unit) => w_Mo g a0 out.2 ++ (rest))) args s 0 0 A) (F0 m 21 ls []) := by
  have X1 := X
  obtain ⟨hx, hb, hml, hown, hts, hr, hlocks, hKK⟩ := X1
  have ht : ∀ w ∈ TB, w.before args s = true := fun w h => hts w (List.mem_cons_of_mem _ h)
  have hK := hKK.1
  unfold B_Mo_context_21 at h
  refine lv_iconst (v := (-1)) hx hb d_Mo_context_21 (by decide) ?_
  exact t_Mo_context_22 X (lv_sub hl [0] rfl) hI hS h
set_option maxRecDepth 100000 in
set_option maxHeartbeats 4000000 in
theorem t_Mo_context_13 {p : Program} {l : Launch} {e : Env} {s : State} {m : MethodId} {args : Array Value} {below : List Frame} {meth : Method} {c : Code} {D : va_G} {A : Nat → Prop} {g : Nat → ClassId} {rest : va_W} {a0 : Nat → Nat} {ls : Array Slot} {H : Heap} {locs : List Loc} {s0 : S_Mo} {x1 : Int32} {out : Int32 × S_Mo} (X : Cx p s m args meth c prog_11_method_58_code 3 ws_Mo_context R_Mo (some .int) D g) (hl : lv_has ls 3 [(0, .ref (a0 0)), (1, .int x1)]) (hI : Iw D A (w_Mo g a0 s0 ++ (rest)) H) (hS : va_S A s.heap H locs) (h : B_Mo_context_13  s0 x1 = some out) : W p l e (headSpec ws_Mo_context { frames := 1, cells := 0, slots := 0, locals := 22 }).room s m args below meth c H locs 0 0 (MQ below (QcI D A g out.1 (fun (_ : Unit) => w_Mo g a0 out.2 ++ (rest))) args s 0 0 A) (F0 m 13 ls []) := by
  have X1 := X
  obtain ⟨hx, hb, hml, hown, hts, hr, hlocks, hKK⟩ := X1
  have ht : ∀ w ∈ TB, w.before args s = true := fun w h => hts w (List.mem_cons_of_mem _ h)
  have hK := hKK.1
  unfold B_Mo_context_13 at h
  refine lv_aload_n hx hb d_Mo_context_13 rfl (lv_at hl 0 rfl) ?_
  refine lv_iload_n hx hb d_Mo_context_14 rfl (lv_at hl 1 rfl) ?_
  obtain ⟨o1, ho2, h⟩ := bd_s h
  refine cl_i (W1 := fun (_ : Unit) => w_Mo g a0 s0 ++ (rest)) (va_runV (As := [.int x1]) (rest := []) ⟨hx, hb, hml, hown, ht⟩ (c_Mo_contextOf (l := l) (D := D) (A := A) (g := g) (rest := rest) (a0 := a0) ho2) (cwV 1 ht (gd_V m_1112 m_1114 mp_62 m_11 m_1115) rfl rfl rfl (by decide +kernel) ⟨(Nat.le_of_ble_eq_true rfl), (Nat.le_of_ble_eq_true rfl)⟩) (prV (ci := 9) (q0 := 0) hKK hI (List.Perm.refl _) rfl rfl rfl) rfl rfl hl.1 rfl (lv_room (Nat.le_of_ble_eq_true rfl)) d_Mo_context_15 ⟨(Nat.le_of_ble_eq_true rfl), (Nat.le_of_ble_eq_true rfl)⟩) hS (fun _ => ((List.Perm.refl _)).symm) (fun _ H locs hI hS => ?_)
  have hI : Iw D A (w_Mo g a0 s0 ++ (rest)) H := hI
  refine lv_goto (tgt := 22) hx hb d_Mo_context_18 (by decide) ?_
  exact t_Mo_context_22 X (lv_sub hl [0] rfl) hI hS h
set_option maxRecDepth 100000 in
set_option maxHeartbeats 4000000 in
theorem t_Mo_context_0 {p : Program} {l : Launch} {e : Env} {s : State} {m : MethodId} {args : Array Value} {below : List Frame} {meth : Method} {c : Code} {D : va_G} {A : Nat → Prop} {g : Nat → ClassId} {rest : va_W} {a0 : Nat → Nat} {ls : Array Slot} {H : Heap} {locs : List Loc} {s0 : S_Mo} {x1 : Int32} {out : Int32 × S_Mo} (X : Cx p s m args meth c prog_11_method_58_code 3 ws_Mo_context R_Mo (some .int) D g) (hl : lv_has ls 3 [(0, .ref (a0 0)), (1, .int x1)]) (hI : Iw D A (w_Mo g a0 s0 ++ (rest)) H) (hS : va_S A s.heap H locs) (h : B_Mo_context_0  s0 x1 = some out) : W p l e (headSpec ws_Mo_context { frames := 1, cells := 0, slots := 0, locals := 22 }).room s m args below meth c H locs 0 0 (MQ below (QcI D A g out.1 (fun (_ : Unit) => w_Mo g a0 out.2 ++ (rest))) args s 0 0 A) (F0 m 0 ls []) := by
  have X1 := X
  obtain ⟨hx, hb, hml, hown, hts, hr, hlocks, hKK⟩ := X1
  have ht : ∀ w ∈ TB, w.before args s = true := fun w h => hts w (List.mem_cons_of_mem _ h)
  have hK := hKK.1
  unfold B_Mo_context_0 at h
  refine lv_aload_n hx hb d_Mo_context_0 rfl (lv_at hl 0 rfl) ?_
  refine lv_iconst (v := 0) hx hb d_Mo_context_1 (by decide) ?_
  refine pt_Mo_code hx hb ht hown hK hI hS (ht _ m_817) d_Mo_context_2 (fun H locs hI hS => ?_)
  refine lv_aload_n hx hb d_Mo_context_5 rfl (lv_at hl 0 rfl) ?_
  refine gt_Mo_line hx hb ht hown hK hI (ht _ m_844) d_Mo_context_6 ?_
  refine lv_iconst (v := 2) hx hb d_Mo_context_9 (by decide) ?_
  refine lv_icmp_ne (tgt := 21) hx hb d_Mo_context_10 (by decide) (fun hc => ?_) (fun hc => ?_)
  · have h := it_f h hc
    exact t_Mo_context_21 X (lv_sub hl [0] rfl) hI hS h
  · have h := it_t h hc
    exact t_Mo_context_13 X (lv_sub hl [0, 1] rfl) hI hS h
set_option maxRecDepth 100000 in
set_option maxHeartbeats 4000000 in
theorem c_Mo_context {l : Launch} {D : va_G} {A : Nat → Prop} {g : Nat → ClassId} {rest : va_W} {a0 : Nat → Nat} {s0 : S_Mo} {x1 : Int32} {out : Int32 × S_Mo} (h : F_Mo_context s0 x1 = some out) : Met l y_Mo_context ws_Mo_context { frames := 1, cells := 0, slots := 0, locals := 22 } (PcW D A g [.ref (a0 0), .int x1] (w_Mo g a0 s0 ++ (rest))) (QcI D A g out.1 (fun (_ : Unit) => w_Mo g a0 out.2 ++ (rest))) 0 0 A := by
  refine Met.ofW (cc := prog_11_method_58_code) (maxL := 3) (ret := (some .int)) (by decide) rfl ?_
  intro p e s m args below meth c s₁ B hml hv
  obtain ⟨rfl, hI, hK⟩ := hv
  have hl := lv_entry [.ref (a0 0), .int x1] (n := 3) (Nat.le_of_ble_eq_true rfl)
  rw [lg_entry_eq]
  generalize (lg_sl [.ref (a0 0), .int x1] ++ List.replicate (3 - (lg_sl [.ref (a0 0), .int x1]).length) Slot.unset).toArray = ls at hl ⊢
  have hl : lv_has ls 3 [(0, .ref (a0 0)), (1, .int x1)] := hl
  exact t_Mo_context_0 ⟨B.exec, B.bytes, hml, findClass_of_methodNamed B.named, atoms_spec (ws := ws_Mo_context) B.pre, B.returns, B.notSynchronized, hK⟩ (lv_sub hl [0, 1] rfl) hI va_S.rf h
def ws_Mo_record : List Cond := .code y_Mo_record prog_11_method_59_code 3 (some .int) :: TB
def B_Mo_record_75 (s0 : S_Mo) (y0 : Int32) : Option (Int32 × S_Mo) :=
  some (y0, s0)
def B_Mo_record_63 (s0 : S_Mo) (x1 : Int32) (x2 : Int32) : Option (Int32 × S_Mo) :=
  (if ((((200 : Int32) * x1) + x2) < 0 ∨ 1600 ≤ (((200 : Int32) * x1) + x2).toNatClampNeg) then none else (B_Mo_record_75 s0 ((Mo_kept s0) (((200 : Int32) * x1) + x2).toNatClampNeg)))
def B_Mo_record_54 (s0 : S_Mo) (x1 : Int32) : Option (Int32 × S_Mo) :=
  (if (x1 < 0 ∨ 8 ≤ x1.toNatClampNeg) then none else (B_Mo_record_75 s0 ((Mo_lengths s0) x1.toNatClampNeg)))
def B_Mo_record_50 (s0 : S_Mo) (x1 : Int32) (x2 : Int32) : Option (Int32 × S_Mo) :=
  (if 0 ≤ x2 then (B_Mo_record_63 s0 x1 x2) else (B_Mo_record_54 s0 x1))
def B_Mo_record_46 (s0 : S_Mo) : Option (Int32 × S_Mo) :=
  (B_Mo_record_75 s0 (0 : Int32))
def B_Mo_record_36 (s0 : S_Mo) (x1 : Int32) (x2 : Int32) (y0 : Int32) : Option (Int32 × S_Mo) :=
  (if (Mo_code (Mo_set_code s0 y0)) ≤ 0 then (B_Mo_record_50 (Mo_set_code s0 y0) x1 x2) else (B_Mo_record_46 (Mo_set_code s0 y0)))
def B_Mo_record_35 (s0 : S_Mo) (x1 : Int32) (x2 : Int32) : Option (Int32 × S_Mo) :=
  (B_Mo_record_36 s0 x1 x2 (1 : Int32))
def B_Mo_record_31 (s0 : S_Mo) (x1 : Int32) (x2 : Int32) : Option (Int32 × S_Mo) :=
  (B_Mo_record_36 s0 x1 x2 (0 : Int32))
def B_Mo_record_15 (s0 : S_Mo) (x1 : Int32) (x2 : Int32) : Option (Int32 × S_Mo) :=
  (if (x1 < 0 ∨ 8 ≤ x1.toNatClampNeg) then none else ((F_Mo_in x2 ((-1) : Int32) (((Mo_lengths s0) x1.toNatClampNeg) - (1 : Int32))).bind fun o2 => (if o2 = 0 then (B_Mo_record_35 s0 x1 x2) else (B_Mo_record_31 s0 x1 x2))))
def B_Mo_record_0 (s0 : S_Mo) (x1 : Int32) (x2 : Int32) : Option (Int32 × S_Mo) :=
  ((F_Mo_in x1 (0 : Int32) ((Mo_records s0) - (1 : Int32))).bind fun o1 => (if o1 = 0 then (B_Mo_record_35 s0 x1 x2) else (B_Mo_record_15 s0 x1 x2)))
def F_Mo_record (s0 : S_Mo) (x1 : Int32) (x2 : Int32) : Option (Int32 × S_Mo) := B_Mo_record_0 s0 x1 x2
set_option maxRecDepth 100000 in
set_option maxHeartbeats 4000000 in
theorem t_Mo_record_75 {p : Program} {l : Launch} {e : Env} {s : State} {m : MethodId} {args : Array Value} {below : List Frame} {meth : Method} {c : Code} {D : va_G} {A : Nat → Prop} {g : Nat → ClassId} {rest : va_W} {a0 : Nat → Nat} {ls : Array Slot} {H : Heap} {locs : List Loc} {s0 : S_Mo} {y0 : Int32} {out : Int32 × S_Mo} (X : Cx p s m args meth c prog_11_method_59_code 3 ws_Mo_record R_Mo (some .int) D g) (hl : lv_has ls 3 []) (hI : Iw D A (w_Mo g a0 s0 ++ (rest)) H) (hS : va_S A s.heap H locs) (h : B_Mo_record_75  s0 y0 = some out) : W p l e (headSpec ws_Mo_record { frames := 1, cells := 0, slots := 0, locals := 22 }).room s m args below meth c H locs 0 0 (MQ below (QcI D A g out.1 (fun (_ : Unit) => w_Mo g a0 out.2 ++ (rest))) args s 0 0 A) (F0 m 75 ls [.int y0]) := by
  have X1 := X
  obtain ⟨hx, hb, hml, hown, hts, hr, hlocks, hKK⟩ := X1
  have ht : ∀ w ∈ TB, w.before args s = true := fun w h => hts w (List.mem_cons_of_mem _ h)
  have hK := hKK.1
  unfold B_Mo_record_75 at h
  have h9 := Option.some.inj h
  subst h9
  exact W.iret (v := y0) hx hb hr (fun t ht hW => ⟨⟨_, (), rfl, rfl, ⟨by rw [ht]; exact hI, hKK.moved hW⟩⟩, hS.F ht⟩) hS.2.2 d_Mo_record_75
set_option maxRecDepth 100000 in
set_option maxHeartbeats 4000000 in
theorem t_Mo_record_63 {p : Program} {l : Launch} {e : Env} {s : State} {m : MethodId} {args : Array Value} {below : List Frame} {meth : Method} {c : Code} {D : va_G} {A : Nat → Prop} {g : Nat → ClassId} {rest : va_W} {a0 : Nat → Nat} {ls : Array Slot} {H : Heap} {locs : List Loc} {s0 : S_Mo} {x1 : Int32} {x2 : Int32} {out : Int32 × S_Mo} (X : Cx p s m args meth c prog_11_method_59_code 3 ws_Mo_record R_Mo (some .int) D g) (hl : lv_has ls 3 [(0, .ref (a0 0)), (1, .int x1), (2, .int x2)]) (hI : Iw D A (w_Mo g a0 s0 ++ (rest)) H) (hS : va_S A s.heap H locs) (h : B_Mo_record_63  s0 x1 x2 = some out) : W p l e (headSpec ws_Mo_record { frames := 1, cells := 0, slots := 0, locals := 22 }).room s m args below meth c H locs 0 0 (MQ below (QcI D A g out.1 (fun (_ : Unit) => w_Mo g a0 out.2 ++ (rest))) args s 0 0 A) (F0 m 63 ls []) := by
  have X1 := X
  obtain ⟨hx, hb, hml, hown, hts, hr, hlocks, hKK⟩ := X1
  have ht : ∀ w ∈ TB, w.before args s = true := fun w h => hts w (List.mem_cons_of_mem _ h)
  have hK := hKK.1
  unfold B_Mo_record_63 at h
  refine lv_aload_n hx hb d_Mo_record_63 rfl (lv_at hl 0 rfl) ?_
  refine gt_Mo_kept hx hb ht hown hK hI (ht _ m_864) d_Mo_record_64 ?_
  refine lv_sipush (v := 200) hx hb d_Mo_record_67 (by decide) ?_
  refine lv_iload_n hx hb d_Mo_record_70 rfl (lv_at hl 1 rfl) ?_
  refine lv_imul hx hb d_Mo_record_71 ?_
  refine lv_iload_n hx hb d_Mo_record_72 rfl (lv_at hl 2 rfl) ?_
  refine lv_iadd hx hb d_Mo_record_73 ?_
  by_cases hc1 : ((((200 : Int32) * x1) + x2) < 0 ∨ 1600 ≤ (((200 : Int32) * x1) + x2).toNatClampNeg)
  · exact no_s (it_t h hc1)
  have h := it_f h hc1
  refine al_Mo_kept hx hb hK hI hc1 d_Mo_record_74 ?_
  exact t_Mo_record_75 X (lv_sub hl [] rfl) hI hS h
set_option maxRecDepth 100000 in
set_option maxHeartbeats 4000000 in
theorem t_Mo_record_54 {p : Program} {l : Launch} {e : Env} {s : State} {m : MethodId} {args : Array Value} {below : List Frame} {meth : Method} {c : Code} {D : va_G} {A : Nat → Prop} {g : Nat → ClassId} {rest : va_W} {a0 : Nat → Nat} {ls : Array Slot} {H : Heap} {locs : List Loc} {s0 : S_Mo} {x1 : Int32} {out : Int32 × S_Mo} (X : Cx p s m args meth c prog_11_method_59_code 3 ws_Mo_record R_Mo (some .int) D g) (hl : lv_has ls 3 [(0, .ref (a0 0)), (1, .int x1)]) (hI : Iw D A (w_Mo g a0 s0 ++ (rest)) H) (hS : va_S A s.heap H locs) (h : B_Mo_record_54  s0 x1 = some out) : W p l e (headSpec ws_Mo_record { frames := 1, cells := 0, slots := 0, locals := 22 }).room s m args below meth c H locs 0 0 (MQ below (QcI D A g out.1 (fun (_ : Unit) => w_Mo g a0 out.2 ++ (rest))) args s 0 0 A) (F0 m 54 ls []) := by
  have X1 := X
  obtain ⟨hx, hb, hml, hown, hts, hr, hlocks, hKK⟩ := X1
  have ht : ∀ w ∈ TB, w.before args s = true := fun w h => hts w (List.mem_cons_of_mem _ h)
  have hK := hKK.1
  unfold B_Mo_record_54 at h
  refine lv_aload_n hx hb d_Mo_record_54 rfl (lv_at hl 0 rfl) ?_
  refine gt_Mo_lengths hx hb ht hown hK hI (ht _ m_865) d_Mo_record_55 ?_
  refine lv_iload_n hx hb d_Mo_record_58 rfl (lv_at hl 1 rfl) ?_
  by_cases hc1 : (x1 < 0 ∨ 8 ≤ x1.toNatClampNeg)
  · exact no_s (it_t h hc1)
  have h := it_f h hc1
  refine al_Mo_lengths hx hb hK hI hc1 d_Mo_record_59 ?_
  refine lv_goto (tgt := 75) hx hb d_Mo_record_60 (by decide) ?_
  exact t_Mo_record_75 X (lv_sub hl [] rfl) hI hS h
set_option maxRecDepth 100000 in
set_option maxHeartbeats 4000000 in
theorem t_Mo_record_50 {p : Program} {l : Launch} {e : Env} {s : State} {m : MethodId} {args : Array Value} {below : List Frame} {meth : Method} {c : Code} {D : va_G} {A : Nat → Prop} {g : Nat → ClassId} {rest : va_W} {a0 : Nat → Nat} {ls : Array Slot} {H : Heap} {locs : List Loc} {s0 : S_Mo} {x1 : Int32} {x2 : Int32} {out : Int32 × S_Mo} (X : Cx p s m args meth c prog_11_method_59_code 3 ws_Mo_record R_Mo (some .int) D g) (hl : lv_has ls 3 [(0, .ref (a0 0)), (1, .int x1), (2, .int x2)]) (hI : Iw D A (w_Mo g a0 s0 ++ (rest)) H) (hS : va_S A s.heap H locs) (h : B_Mo_record_50  s0 x1 x2 = some out) : W p l e (headSpec ws_Mo_record { frames := 1, cells := 0, slots := 0, locals := 22 }).room s m args below meth c H locs 0 0 (MQ below (QcI D A g out.1 (fun (_ : Unit) => w_Mo g a0 out.2 ++ (rest))) args s 0 0 A) (F0 m 50 ls []) := by
  have X1 := X
  obtain ⟨hx, hb, hml, hown, hts, hr, hlocks, hKK⟩ := X1
  have ht : ∀ w ∈ TB, w.before args s = true := fun w h => hts w (List.mem_cons_of_mem _ h)
  have hK := hKK.1
  unfold B_Mo_record_50 at h
  refine lv_iload_n hx hb d_Mo_record_50 rfl (lv_at hl 2 rfl) ?_
  refine lv_if_ge (tgt := 63) hx hb d_Mo_record_51 (by decide) (fun hc => ?_) (fun hc => ?_)
  · have h := it_t h hc
    exact t_Mo_record_63 X (lv_sub hl [0, 1, 2] rfl) hI hS h
  · have h := it_f h hc
    exact t_Mo_record_54 X (lv_sub hl [0, 1] rfl) hI hS h
set_option maxRecDepth 100000 in
set_option maxHeartbeats 4000000 in
theorem t_Mo_record_46 {p : Program} {l : Launch} {e : Env} {s : State} {m : MethodId} {args : Array Value} {below : List Frame} {meth : Method} {c : Code} {D : va_G} {A : Nat → Prop} {g : Nat → ClassId} {rest : va_W} {a0 : Nat → Nat} {ls : Array Slot} {H : Heap} {locs : List Loc} {s0 : S_Mo} {out : Int32 × S_Mo} (X : Cx p s m args meth c prog_11_method_59_code 3 ws_Mo_record R_Mo (some .int) D g) (hl : lv_has ls 3 []) (hI : Iw D A (w_Mo g a0 s0 ++ (rest)) H) (hS : va_S A s.heap H locs) (h : B_Mo_record_46  s0 = some out) : W p l e (headSpec ws_Mo_record { frames := 1, cells := 0, slots := 0, locals := 22 }).room s m args below meth c H locs 0 0 (MQ below (QcI D A g out.1 (fun (_ : Unit) => w_Mo g a0 out.2 ++ (rest))) args s 0 0 A) (F0 m 46 ls []) := by
  have X1 := X
  obtain ⟨hx, hb, hml, hown, hts, hr, hlocks, hKK⟩ := X1
  have ht : ∀ w ∈ TB, w.before args s = true := fun w h => hts w (List.mem_cons_of_mem _ h)
  have hK := hKK.1
  unfold B_Mo_record_46 at h
  refine lv_iconst (v := 0) hx hb d_Mo_record_46 (by decide) ?_
  refine lv_goto (tgt := 75) hx hb d_Mo_record_47 (by decide) ?_
  exact t_Mo_record_75 X (lv_sub hl [] rfl) hI hS h
set_option maxRecDepth 100000 in
set_option maxHeartbeats 4000000 in
theorem t_Mo_record_36 {p : Program} {l : Launch} {e : Env} {s : State} {m : MethodId} {args : Array Value} {below : List Frame} {meth : Method} {c : Code} {D : va_G} {A : Nat → Prop} {g : Nat → ClassId} {rest : va_W} {a0 : Nat → Nat} {ls : Array Slot} {H : Heap} {locs : List Loc} {s0 : S_Mo} {x1 : Int32} {x2 : Int32} {y0 : Int32} {out : Int32 × S_Mo} (X : Cx p s m args meth c prog_11_method_59_code 3 ws_Mo_record R_Mo (some .int) D g) (hl : lv_has ls 3 [(0, .ref (a0 0)), (1, .int x1), (2, .int x2)]) (hI : Iw D A (w_Mo g a0 s0 ++ (rest)) H) (hS : va_S A s.heap H locs) (h : B_Mo_record_36  s0 x1 x2 y0 = some out) : W p l e (headSpec ws_Mo_record { frames := 1, cells := 0, slots := 0, locals := 22 }).room s m args below meth c H locs 0 0 (MQ below (QcI D A g out.1 (fun (_ : Unit) => w_Mo g a0 out.2 ++ (rest))) args s 0 0 A) (F0 m 36 ls [.int y0, .ref (a0 0)]) := by
  have X1 := X
  obtain ⟨hx, hb, hml, hown, hts, hr, hlocks, hKK⟩ := X1
  have ht : ∀ w ∈ TB, w.before args s = true := fun w h => hts w (List.mem_cons_of_mem _ h)
  have hK := hKK.1
  unfold B_Mo_record_36 at h
  refine pt_Mo_code hx hb ht hown hK hI hS (ht _ m_817) d_Mo_record_36 (fun H locs hI hS => ?_)
  refine lv_aload_n hx hb d_Mo_record_39 rfl (lv_at hl 0 rfl) ?_
  refine gt_Mo_code hx hb ht hown hK hI (ht _ m_817) d_Mo_record_40 ?_
  refine lv_if_le (tgt := 50) hx hb d_Mo_record_43 (by decide) (fun hc => ?_) (fun hc => ?_)
  · have h := it_t h hc
    exact t_Mo_record_50 X (lv_sub hl [0, 1, 2] rfl) hI hS h
  · have h := it_f h hc
    exact t_Mo_record_46 X (lv_sub hl [] rfl) hI hS h
set_option maxRecDepth 100000 in
set_option maxHeartbeats 4000000 in
theorem t_Mo_record_35 {p : Program} {l : Launch} {e : Env} {s : State} {m : MethodId} {args : Array Value} {below : List Frame} {meth : Method} {c : Code} {D : va_G} {A : Nat → Prop} {g : Nat → ClassId} {rest : va_W} {a0 : Nat → Nat} {ls : Array Slot} {H : Heap} {locs : List Loc} {s0 : S_Mo} {x1 : Int32} {x2 : Int32} {out : Int32 × S_Mo} (X : Cx p s m args meth c prog_11_method_59_code 3 ws_Mo_record R_Mo (some .int) D g) (hl : lv_has ls 3 [(0, .ref (a0 0)), (1, .int x1), (2, .int x2)]) (hI : Iw D A (w_Mo g a0 s0 ++ (rest)) H) (hS : va_S A s.heap H locs) (h : B_Mo_record_35  s0 x1 x2 = some out) : W p l e (headSpec ws_Mo_record { frames := 1, cells := 0, slots := 0, locals := 22 }).room s m args below meth c H locs 0 0 (MQ below (QcI D A g out.1 (fun (_ : Unit) => w_Mo g a0 out.2 ++ (rest))) args s 0 0 A) (F0 m 35 ls [.ref (a0 0)]) := by
  have X1 := X
  obtain ⟨hx, hb, hml, hown, hts, hr, hlocks, hKK⟩ := X1
  have ht : ∀ w ∈ TB, w.before args s = true := fun w h => hts w (List.mem_cons_of_mem _ h)
  have hK := hKK.1
  unfold B_Mo_record_35 at h
  refine lv_iconst (v := 1) hx hb d_Mo_record_35 (by decide) ?_
  exact t_Mo_record_36 X (lv_sub hl [0, 1, 2] rfl) hI hS h
set_option maxRecDepth 100000 in
set_option maxHeartbeats 4000000 in
theorem t_Mo_record_31 {p : Program} {l : Launch} {e : Env} {s : State} {m : MethodId} {args : Array Value} {below : List Frame} {meth : Method} {c : Code} {D : va_G} {A : Nat → Prop} {g : Nat → ClassId} {rest : va_W} {a0 : Nat → Nat} {ls : Array Slot} {H : Heap} {locs : List Loc} {s0 : S_Mo} {x1 : Int32} {x2 : Int32} {out : Int32 × S_Mo} (X : Cx p s m args meth c prog_11_method_59_code 3 ws_Mo_record R_Mo (some .int) D g) (hl : lv_has ls 3 [(0, .ref (a0 0)), (1, .int x1), (2, .int x2)]) (hI : Iw D A (w_Mo g a0 s0 ++ (rest)) H) (hS : va_S A s.heap H locs) (h : B_Mo_record_31  s0 x1 x2 = some out) : W p l e (headSpec ws_Mo_record { frames := 1, cells := 0, slots := 0, locals := 22 }).room s m args below meth c H locs 0 0 (MQ below (QcI D A g out.1 (fun (_ : Unit) => w_Mo g a0 out.2 ++ (rest))) args s 0 0 A) (F0 m 31 ls [.ref (a0 0)]) := by
  have X1 := X
  obtain ⟨hx, hb, hml, hown, hts, hr, hlocks, hKK⟩ := X1
  have ht : ∀ w ∈ TB, w.before args s = true := fun w h => hts w (List.mem_cons_of_mem _ h)
  have hK := hKK.1
  unfold B_Mo_record_31 at h
  refine lv_iconst (v := 0) hx hb d_Mo_record_31 (by decide) ?_
  refine lv_goto (tgt := 36) hx hb d_Mo_record_32 (by decide) ?_
  exact t_Mo_record_36 X (lv_sub hl [0, 1, 2] rfl) hI hS h
set_option maxRecDepth 100000 in
set_option maxHeartbeats 4000000 in
theorem t_Mo_record_15 {p : Program} {l : Launch} {e : Env} {s : State} {m : MethodId} {args : Array Value} {below : List Frame} {meth : Method} {c : Code} {D : va_G} {A : Nat → Prop} {g : Nat → ClassId} {rest : va_W} {a0 : Nat → Nat} {ls : Array Slot} {H : Heap} {locs : List Loc} {s0 : S_Mo} {x1 : Int32} {x2 : Int32} {out : Int32 × S_Mo} (X : Cx p s m args meth c prog_11_method_59_code 3 ws_Mo_record R_Mo (some .int) D g) (hl : lv_has ls 3 [(0, .ref (a0 0)), (1, .int x1), (2, .int x2)]) (hI : Iw D A (w_Mo g a0 s0 ++ (rest)) H) (hS : va_S A s.heap H locs) (h : B_Mo_record_15  s0 x1 x2 = some out) : W p l e (headSpec ws_Mo_record { frames := 1, cells := 0, slots := 0, locals := 22 }).room s m args below meth c H locs 0 0 (MQ below (QcI D A g out.1 (fun (_ : Unit) => w_Mo g a0 out.2 ++ (rest))) args s 0 0 A) (F0 m 15 ls [.ref (a0 0)]) := by
  have X1 := X
  obtain ⟨hx, hb, hml, hown, hts, hr, hlocks, hKK⟩ := X1
  have ht : ∀ w ∈ TB, w.before args s = true := fun w h => hts w (List.mem_cons_of_mem _ h)
  have hK := hKK.1
  unfold B_Mo_record_15 at h
  refine lv_iload_n hx hb d_Mo_record_15 rfl (lv_at hl 2 rfl) ?_
  refine lv_iconst (v := (-1)) hx hb d_Mo_record_16 (by decide) ?_
  refine lv_aload_n hx hb d_Mo_record_17 rfl (lv_at hl 0 rfl) ?_
  refine gt_Mo_lengths hx hb ht hown hK hI (ht _ m_865) d_Mo_record_18 ?_
  refine lv_iload_n hx hb d_Mo_record_21 rfl (lv_at hl 1 rfl) ?_
  by_cases hc1 : (x1 < 0 ∨ 8 ≤ x1.toNatClampNeg)
  · exact no_s (it_t h hc1)
  have h := it_f h hc1
  refine al_Mo_lengths hx hb hK hI hc1 d_Mo_record_22 ?_
  refine lv_iconst (v := 1) hx hb d_Mo_record_23 (by decide) ?_
  refine lv_isub hx hb d_Mo_record_24 ?_
  obtain ⟨o2, ho3, h⟩ := bd_s h
  refine cl_i (W1 := fun (_ : Unit) => w_Mo g a0 s0 ++ (rest)) (va_runS (As := [.int x2, .int ((-1) : Int32), .int (((Mo_lengths s0) x1.toNatClampNeg) - (1 : Int32))]) (rest := [.ref (a0 0)]) ⟨hx, hb, hml, hown, ht⟩ (c_Mo_in (l := l) (D := D) (A := A) (g := g) (rest := w_Mo g a0 s0 ++ (rest))  ho3) (va_cwS 3 ht (gd_S m_975 m_976 m_11 m_977) rfl rfl rfl (by decide +kernel) ⟨(Nat.le_of_ble_eq_true rfl), (Nat.le_of_ble_eq_true rfl)⟩) (prS hKK hI (List.Perm.refl _)) rfl rfl hl.1 rfl (lv_room (Nat.le_of_ble_eq_true rfl)) d_Mo_record_25 ⟨(Nat.le_of_ble_eq_true rfl), (Nat.le_of_ble_eq_true rfl)⟩) hS (fun _ => ((List.Perm.refl _)).symm) (fun _ H locs hI hS => ?_)
  have hI : Iw D A (w_Mo g a0 s0 ++ (rest)) H := hI
  refine lv_if_eq (tgt := 35) hx hb d_Mo_record_28 (by decide) (fun hc => ?_) (fun hc => ?_)
  · have h := it_t h hc
    exact t_Mo_record_35 X (lv_sub hl [0, 1, 2] rfl) hI hS h
  · have h := it_f h hc
    exact t_Mo_record_31 X (lv_sub hl [0, 1, 2] rfl) hI hS h
set_option maxRecDepth 100000 in
set_option maxHeartbeats 4000000 in
theorem t_Mo_record_0 {p : Program} {l : Launch} {e : Env} {s : State} {m : MethodId} {args : Array Value} {below : List Frame} {meth : Method} {c : Code} {D : va_G} {A : Nat → Prop} {g : Nat → ClassId} {rest : va_W} {a0 : Nat → Nat} {ls : Array Slot} {H : Heap} {locs : List Loc} {s0 : S_Mo} {x1 : Int32} {x2 : Int32} {out : Int32 × S_Mo} (X : Cx p s m args meth c prog_11_method_59_code 3 ws_Mo_record R_Mo (some .int) D g) (hl : lv_has ls 3 [(0, .ref (a0 0)), (1, .int x1), (2, .int x2)]) (hI : Iw D A (w_Mo g a0 s0 ++ (rest)) H) (hS : va_S A s.heap H locs) (h : B_Mo_record_0  s0 x1 x2 = some out) : W p l e (headSpec ws_Mo_record { frames := 1, cells := 0, slots := 0, locals := 22 }).room s m args below meth c H locs 0 0 (MQ below (QcI D A g out.1 (fun (_ : Unit) => w_Mo g a0 out.2 ++ (rest))) args s 0 0 A) (F0 m 0 ls []) := by
  have X1 := X
  obtain ⟨hx, hb, hml, hown, hts, hr, hlocks, hKK⟩ := X1
  have ht : ∀ w ∈ TB, w.before args s = true := fun w h => hts w (List.mem_cons_of_mem _ h)
  have hK := hKK.1
  unfold B_Mo_record_0 at h
  refine lv_aload_n hx hb d_Mo_record_0 rfl (lv_at hl 0 rfl) ?_
  refine lv_iload_n hx hb d_Mo_record_1 rfl (lv_at hl 1 rfl) ?_
  refine lv_iconst (v := 0) hx hb d_Mo_record_2 (by decide) ?_
  refine lv_aload_n hx hb d_Mo_record_3 rfl (lv_at hl 0 rfl) ?_
  refine gt_Mo_records hx hb ht hown hK hI (ht _ m_863) d_Mo_record_4 ?_
  refine lv_iconst (v := 1) hx hb d_Mo_record_7 (by decide) ?_
  refine lv_isub hx hb d_Mo_record_8 ?_
  obtain ⟨o1, ho2, h⟩ := bd_s h
  refine cl_i (W1 := fun (_ : Unit) => w_Mo g a0 s0 ++ (rest)) (va_runS (As := [.int x1, .int (0 : Int32), .int ((Mo_records s0) - (1 : Int32))]) (rest := [.ref (a0 0)]) ⟨hx, hb, hml, hown, ht⟩ (c_Mo_in (l := l) (D := D) (A := A) (g := g) (rest := w_Mo g a0 s0 ++ (rest))  ho2) (va_cwS 3 ht (gd_S m_975 m_976 m_11 m_977) rfl rfl rfl (by decide +kernel) ⟨(Nat.le_of_ble_eq_true rfl), (Nat.le_of_ble_eq_true rfl)⟩) (prS hKK hI (List.Perm.refl _)) rfl rfl hl.1 rfl (lv_room (Nat.le_of_ble_eq_true rfl)) d_Mo_record_9 ⟨(Nat.le_of_ble_eq_true rfl), (Nat.le_of_ble_eq_true rfl)⟩) hS (fun _ => ((List.Perm.refl _)).symm) (fun _ H locs hI hS => ?_)
  have hI : Iw D A (w_Mo g a0 s0 ++ (rest)) H := hI
  refine lv_if_eq (tgt := 35) hx hb d_Mo_record_12 (by decide) (fun hc => ?_) (fun hc => ?_)
  · have h := it_t h hc
    exact t_Mo_record_35 X (lv_sub hl [0, 1, 2] rfl) hI hS h
  · have h := it_f h hc
    exact t_Mo_record_15 X (lv_sub hl [0, 1, 2] rfl) hI hS h
set_option maxRecDepth 100000 in
set_option maxHeartbeats 4000000 in
theorem c_Mo_record {l : Launch} {D : va_G} {A : Nat → Prop} {g : Nat → ClassId} {rest : va_W} {a0 : Nat → Nat} {s0 : S_Mo} {x1 : Int32} {x2 : Int32} {out : Int32 × S_Mo} (h : F_Mo_record s0 x1 x2 = some out) : Met l y_Mo_record ws_Mo_record { frames := 1, cells := 0, slots := 0, locals := 22 } (PcW D A g [.ref (a0 0), .int x1, .int x2] (w_Mo g a0 s0 ++ (rest))) (QcI D A g out.1 (fun (_ : Unit) => w_Mo g a0 out.2 ++ (rest))) 0 0 A := by
  refine Met.ofW (cc := prog_11_method_59_code) (maxL := 3) (ret := (some .int)) (by decide) rfl ?_
  intro p e s m args below meth c s₁ B hml hv
  obtain ⟨rfl, hI, hK⟩ := hv
  have hl := lv_entry [.ref (a0 0), .int x1, .int x2] (n := 3) (Nat.le_of_ble_eq_true rfl)
  rw [lg_entry_eq]
  generalize (lg_sl [.ref (a0 0), .int x1, .int x2] ++ List.replicate (3 - (lg_sl [.ref (a0 0), .int x1, .int x2]).length) Slot.unset).toArray = ls at hl ⊢
  have hl : lv_has ls 3 [(0, .ref (a0 0)), (1, .int x1), (2, .int x2)] := hl
  exact t_Mo_record_0 ⟨B.exec, B.bytes, hml, findClass_of_methodNamed B.named, atoms_spec (ws := ws_Mo_record) B.pre, B.returns, B.notSynchronized, hK⟩ (lv_sub hl [0, 1, 2] rfl) hI va_S.rf h
def ws_Mo_numberAt : List Cond := .code y_Mo_numberAt prog_11_method_40_code 5 (some .int) :: TB
def B_Mo_numberAt_54 (s0 : S_Mo) : Option Int32 :=
  some ((-1) : Int32)
def B_Mo_numberAt_42 (k8 : Int32 × Int32 × Int32 × Int32 → Option Int32) (s0 : S_Mo) (x1 : Int32) (x2 : Int32) (x3 : Int32) (x4 : Int32) : Option Int32 :=
  (if (x4 < 0 ∨ 260 ≤ x4.toNatClampNeg) then none else (k8 (x1, x2, x3, ((Mo_next s0) x4.toNatClampNeg))))
def B_Mo_numberAt_39 (s0 : S_Mo) (x4 : Int32) : Option Int32 :=
  some x4
def B_Mo_numberAt_24 (k8 : Int32 × Int32 × Int32 × Int32 → Option Int32) (s0 : S_Mo) (x1 : Int32) (x2 : Int32) (x3 : Int32) (x4 : Int32) : Option Int32 :=
  (if (x4 < 0 ∨ 260 ≤ x4.toNatClampNeg) then none else ((F_Mo_in ((Mo_value s0) x4.toNatClampNeg) x2 x3).bind fun o2 => (if o2 = 0 then (B_Mo_numberAt_42 k8 s0 x1 x2 x3 x4) else (B_Mo_numberAt_39 s0 x4))))
def B_Mo_numberAt_13 (k8 : Int32 × Int32 × Int32 × Int32 → Option Int32) (s0 : S_Mo) (x1 : Int32) (x2 : Int32) (x3 : Int32) (x4 : Int32) : Option Int32 :=
  (if (x4 < 0 ∨ 260 ≤ x4.toNatClampNeg) then none else (if ((Mo_tag s0) x4.toNatClampNeg) = x1 then (B_Mo_numberAt_24 k8 s0 x1 x2 x3 x4) else (B_Mo_numberAt_42 k8 s0 x1 x2 x3 x4)))
def B_Mo_numberAt_8 (k8 : Int32 × Int32 × Int32 × Int32 → Option Int32) (s0 : S_Mo) (x1 : Int32) (x2 : Int32) (x3 : Int32) (x4 : Int32) : Option Int32 :=
  (if x4 < 0 then (B_Mo_numberAt_54 s0) else (B_Mo_numberAt_13 k8 s0 x1 x2 x3 x4))
def L_Mo_numberAt_8 (s0 : S_Mo) (v : Int32 × Int32 × Int32 × Int32) : Option Int32 := lp (fun k8 v => B_Mo_numberAt_8  k8 s0 v.1 v.2.1 v.2.2.1 v.2.2.2) FU v
def B_Mo_numberAt_0 (s0 : S_Mo) (x1 : Int32) (x2 : Int32) (x3 : Int32) : Option Int32 :=
  (if ((0 : Int32) < 0 ∨ 260 ≤ (0 : Int32).toNatClampNeg) then none else (L_Mo_numberAt_8 s0 (x1, x2, x3, ((Mo_first s0) (0 : Int32).toNatClampNeg))))
def F_Mo_numberAt (s0 : S_Mo) (x1 : Int32) (x2 : Int32) (x3 : Int32) : Option Int32 := B_Mo_numberAt_0 s0 x1 x2 x3
set_option maxRecDepth 100000 in
set_option maxHeartbeats 4000000 in
theorem t_Mo_numberAt_54 {p : Program} {l : Launch} {e : Env} {s : State} {m : MethodId} {args : Array Value} {below : List Frame} {meth : Method} {c : Code} {D : va_G} {A : Nat → Prop} {g : Nat → ClassId} {rest : va_W} {a0 : Nat → Nat} {ls : Array Slot} {H : Heap} {locs : List Loc} {s0 : S_Mo} {out : Int32} (X : Cx p s m args meth c prog_11_method_40_code 5 ws_Mo_numberAt R_Mo (some .int) D g) (hl : lv_has ls 5 []) (hI : Iw D A (w_Mo g a0 s0 ++ (rest)) H) (hS : va_S A s.heap H locs) (h : B_Mo_numberAt_54  s0 = some out) : W p l e (headSpec ws_Mo_numberAt { frames := 1, cells := 0, slots := 0, locals := 22 }).room s m args below meth c H locs 0 0 (MQ below (QcI D A g out (fun (_ : Unit) => w_Mo g a0 s0 ++ (rest))) args s 0 0 A) (F0 m 54 ls []) := by
  have X1 := X
  obtain ⟨hx, hb, hml, hown, hts, hr, hlocks, hKK⟩ := X1
  have ht : ∀ w ∈ TB, w.before args s = true := fun w h => hts w (List.mem_cons_of_mem _ h)
  have hK := hKK.1
  unfold B_Mo_numberAt_54 at h
  refine lv_iconst (v := (-1)) hx hb d_Mo_numberAt_54 (by decide) ?_
  have h9 := Option.some.inj h
  subst h9
  exact W.iret (v := ((-1) : Int32)) hx hb hr (fun t ht hW => ⟨⟨_, (), rfl, rfl, ⟨by rw [ht]; exact hI, hKK.moved hW⟩⟩, hS.F ht⟩) hS.2.2 d_Mo_numberAt_55
set_option maxRecDepth 100000 in
set_option maxHeartbeats 4000000 in
theorem t_Mo_numberAt_42 {p : Program} {l : Launch} {e : Env} {s : State} {m : MethodId} {args : Array Value} {below : List Frame} {meth : Method} {c : Code} {D : va_G} {A : Nat → Prop} {g : Nat → ClassId} {rest : va_W} {a0 : Nat → Nat} {ls : Array Slot} {H : Heap} {locs : List Loc} {k8 : Int32 × Int32 × Int32 × Int32 → Option Int32} {s0 : S_Mo} {x1 : Int32} {x2 : Int32} {x3 : Int32} {x4 : Int32} {out : Int32} (X : Cx p s m args meth c prog_11_method_40_code 5 ws_Mo_numberAt R_Mo (some .int) D g) (hk8 : ∀ (v : Int32 × Int32 × Int32 × Int32) (ls : Array Slot) (H : Heap) (locs : List Loc), lv_has ls 5 [(0, .ref (a0 0)), (1, .int v.1), (2, .int v.2.1), (3, .int v.2.2.1), (4, .int v.2.2.2)] → Iw D A (w_Mo g a0 s0 ++ (rest)) H → va_S A s.heap H locs → k8 v = some out → W p l e (headSpec ws_Mo_numberAt { frames := 1, cells := 0, slots := 0, locals := 22 }).room s m args below meth c H locs 0 0 (MQ below (QcI D A g out (fun (_ : Unit) => w_Mo g a0 s0 ++ (rest))) args s 0 0 A) (F0 m 8 ls [])) (hl : lv_has ls 5 [(0, .ref (a0 0)), (1, .int x1), (2, .int x2), (3, .int x3), (4, .int x4)]) (hI : Iw D A (w_Mo g a0 s0 ++ (rest)) H) (hS : va_S A s.heap H locs) (h : B_Mo_numberAt_42 k8 s0 x1 x2 x3 x4 = some out) : W p l e (headSpec ws_Mo_numberAt { frames := 1, cells := 0, slots := 0, locals := 22 }).room s m args below meth c H locs 0 0 (MQ below (QcI D A g out (fun (_ : Unit) => w_Mo g a0 s0 ++ (rest))) args s 0 0 A) (F0 m 42 ls []) := by
  have X1 := X
  obtain ⟨hx, hb, hml, hown, hts, hr, hlocks, hKK⟩ := X1
  have ht : ∀ w ∈ TB, w.before args s = true := fun w h => hts w (List.mem_cons_of_mem _ h)
  have hK := hKK.1
  unfold B_Mo_numberAt_42 at h
  refine lv_aload_n hx hb d_Mo_numberAt_42 rfl (lv_at hl 0 rfl) ?_
  refine gt_Mo_next hx hb ht hown hK hI (ht _ m_829) d_Mo_numberAt_43 ?_
  refine lv_iload hx hb d_Mo_numberAt_46 (lv_at hl 4 rfl) ?_
  by_cases hc1 : (x4 < 0 ∨ 260 ≤ x4.toNatClampNeg)
  · exact no_s (it_t h hc1)
  have h := it_f h hc1
  refine al_Mo_next hx hb hK hI hc1 d_Mo_numberAt_48 ?_
  refine lv_istore hx hb d_Mo_numberAt_49 hl (Nat.le_of_ble_eq_true rfl) rfl (fun ls hl => ?_)
  have hl : lv_has ls 5 [(4, .int ((Mo_next s0) x4.toNatClampNeg)), (0, .ref (a0 0)), (1, .int x1), (2, .int x2), (3, .int x3)] := hl
  refine lv_goto (tgt := 8) hx hb d_Mo_numberAt_51 (by decide) ?_
  exact hk8 (x1, x2, x3, ((Mo_next s0) x4.toNatClampNeg)) _ _ _ (lv_sub hl [1, 2, 3, 4, 0] rfl) hI hS h
set_option maxRecDepth 100000 in
set_option maxHeartbeats 4000000 in
theorem t_Mo_numberAt_39 {p : Program} {l : Launch} {e : Env} {s : State} {m : MethodId} {args : Array Value} {below : List Frame} {meth : Method} {c : Code} {D : va_G} {A : Nat → Prop} {g : Nat → ClassId} {rest : va_W} {a0 : Nat → Nat} {ls : Array Slot} {H : Heap} {locs : List Loc} {s0 : S_Mo} {x4 : Int32} {out : Int32} (X : Cx p s m args meth c prog_11_method_40_code 5 ws_Mo_numberAt R_Mo (some .int) D g) (hl : lv_has ls 5 [(4, .int x4)]) (hI : Iw D A (w_Mo g a0 s0 ++ (rest)) H) (hS : va_S A s.heap H locs) (h : B_Mo_numberAt_39  s0 x4 = some out) : W p l e (headSpec ws_Mo_numberAt { frames := 1, cells := 0, slots := 0, locals := 22 }).room s m args below meth c H locs 0 0 (MQ below (QcI D A g out (fun (_ : Unit) => w_Mo g a0 s0 ++ (rest))) args s 0 0 A) (F0 m 39 ls []) := by
  have X1 := X
  obtain ⟨hx, hb, hml, hown, hts, hr, hlocks, hKK⟩ := X1
  have ht : ∀ w ∈ TB, w.before args s = true := fun w h => hts w (List.mem_cons_of_mem _ h)
  have hK := hKK.1
  unfold B_Mo_numberAt_39 at h
  refine lv_iload hx hb d_Mo_numberAt_39 (lv_at hl 0 rfl) ?_
  have h9 := Option.some.inj h
  subst h9
  exact W.iret (v := x4) hx hb hr (fun t ht hW => ⟨⟨_, (), rfl, rfl, ⟨by rw [ht]; exact hI, hKK.moved hW⟩⟩, hS.F ht⟩) hS.2.2 d_Mo_numberAt_41
set_option maxRecDepth 100000 in
set_option maxHeartbeats 4000000 in
theorem t_Mo_numberAt_24 {p : Program} {l : Launch} {e : Env} {s : State} {m : MethodId} {args : Array Value} {below : List Frame} {meth : Method} {c : Code} {D : va_G} {A : Nat → Prop} {g : Nat → ClassId} {rest : va_W} {a0 : Nat → Nat} {ls : Array Slot} {H : Heap} {locs : List Loc} {k8 : Int32 × Int32 × Int32 × Int32 → Option Int32} {s0 : S_Mo} {x1 : Int32} {x2 : Int32} {x3 : Int32} {x4 : Int32} {out : Int32} (X : Cx p s m args meth c prog_11_method_40_code 5 ws_Mo_numberAt R_Mo (some .int) D g) (hk8 : ∀ (v : Int32 × Int32 × Int32 × Int32) (ls : Array Slot) (H : Heap) (locs : List Loc), lv_has ls 5 [(0, .ref (a0 0)), (1, .int v.1), (2, .int v.2.1), (3, .int v.2.2.1), (4, .int v.2.2.2)] → Iw D A (w_Mo g a0 s0 ++ (rest)) H → va_S A s.heap H locs → k8 v = some out → W p l e (headSpec ws_Mo_numberAt { frames := 1, cells := 0, slots := 0, locals := 22 }).room s m args below meth c H locs 0 0 (MQ below (QcI D A g out (fun (_ : Unit) => w_Mo g a0 s0 ++ (rest))) args s 0 0 A) (F0 m 8 ls [])) (hl : lv_has ls 5 [(0, .ref (a0 0)), (1, .int x1), (2, .int x2), (3, .int x3), (4, .int x4)]) (hI : Iw D A (w_Mo g a0 s0 ++ (rest)) H) (hS : va_S A s.heap H locs) (h : B_Mo_numberAt_24 k8 s0 x1 x2 x3 x4 = some out) : W p l e (headSpec ws_Mo_numberAt { frames := 1, cells := 0, slots := 0, locals := 22 }).room s m args below meth c H locs 0 0 (MQ below (QcI D A g out (fun (_ : Unit) => w_Mo g a0 s0 ++ (rest))) args s 0 0 A) (F0 m 24 ls []) := by
  have X1 := X
  obtain ⟨hx, hb, hml, hown, hts, hr, hlocks, hKK⟩ := X1
  have ht : ∀ w ∈ TB, w.before args s = true := fun w h => hts w (List.mem_cons_of_mem _ h)
  have hK := hKK.1
  unfold B_Mo_numberAt_24 at h
  refine lv_aload_n hx hb d_Mo_numberAt_24 rfl (lv_at hl 0 rfl) ?_
  refine gt_Mo_value hx hb ht hown hK hI (ht _ m_825) d_Mo_numberAt_25 ?_
  refine lv_iload hx hb d_Mo_numberAt_28 (lv_at hl 4 rfl) ?_
  by_cases hc1 : (x4 < 0 ∨ 260 ≤ x4.toNatClampNeg)
  · exact no_s (it_t h hc1)
  have h := it_f h hc1
  refine al_Mo_value hx hb hK hI hc1 d_Mo_numberAt_30 ?_
  refine lv_iload_n hx hb d_Mo_numberAt_31 rfl (lv_at hl 2 rfl) ?_
  refine lv_iload_n hx hb d_Mo_numberAt_32 rfl (lv_at hl 3 rfl) ?_
  obtain ⟨o2, ho3, h⟩ := bd_s h
  refine cl_i (W1 := fun (_ : Unit) => w_Mo g a0 s0 ++ (rest)) (va_runS (As := [.int ((Mo_value s0) x4.toNatClampNeg), .int x2, .int x3]) (rest := []) ⟨hx, hb, hml, hown, ht⟩ (c_Mo_in (l := l) (D := D) (A := A) (g := g) (rest := w_Mo g a0 s0 ++ (rest))  ho3) (va_cwS 3 ht (gd_S m_975 m_976 m_11 m_977) rfl rfl rfl (by decide +kernel) ⟨(Nat.le_of_ble_eq_true rfl), (Nat.le_of_ble_eq_true rfl)⟩) (prS hKK hI (List.Perm.refl _)) rfl rfl hl.1 rfl (lv_room (Nat.le_of_ble_eq_true rfl)) d_Mo_numberAt_33 ⟨(Nat.le_of_ble_eq_true rfl), (Nat.le_of_ble_eq_true rfl)⟩) hS (fun _ => ((List.Perm.refl _)).symm) (fun _ H locs hI hS => ?_)
  have hI : Iw D A (w_Mo g a0 s0 ++ (rest)) H := hI
  refine lv_if_eq (tgt := 42) hx hb d_Mo_numberAt_36 (by decide) (fun hc => ?_) (fun hc => ?_)
  · have h := it_t h hc
    exact t_Mo_numberAt_42 X hk8 (lv_sub hl [0, 1, 2, 3, 4] rfl) hI hS h
  · have h := it_f h hc
    exact t_Mo_numberAt_39 X (lv_sub hl [4] rfl) hI hS h
set_option maxRecDepth 100000 in
set_option maxHeartbeats 4000000 in
theorem t_Mo_numberAt_13 {p : Program} {l : Launch} {e : Env} {s : State} {m : MethodId} {args : Array Value} {below : List Frame} {meth : Method} {c : Code} {D : va_G} {A : Nat → Prop} {g : Nat → ClassId} {rest : va_W} {a0 : Nat → Nat} {ls : Array Slot} {H : Heap} {locs : List Loc} {k8 : Int32 × Int32 × Int32 × Int32 → Option Int32} {s0 : S_Mo} {x1 : Int32} {x2 : Int32} {x3 : Int32} {x4 : Int32} {out : Int32} (X : Cx p s m args meth c prog_11_method_40_code 5 ws_Mo_numberAt R_Mo (some .int) D g) (hk8 : ∀ (v : Int32 × Int32 × Int32 × Int32) (ls : Array Slot) (H : Heap) (locs : List Loc), lv_has ls 5 [(0, .ref (a0 0)), (1, .int v.1), (2, .int v.2.1), (3, .int v.2.2.1), (4, .int v.2.2.2)] → Iw D A (w_Mo g a0 s0 ++ (rest)) H → va_S A s.heap H locs → k8 v = some out → W p l e (headSpec ws_Mo_numberAt { frames := 1, cells := 0, slots := 0, locals := 22 }).room s m args below meth c H locs 0 0 (MQ below (QcI D A g out (fun (_ : Unit) => w_Mo g a0 s0 ++ (rest))) args s 0 0 A) (F0 m 8 ls [])) (hl : lv_has ls 5 [(0, .ref (a0 0)), (1, .int x1), (2, .int x2), (3, .int x3), (4, .int x4)]) (hI : Iw D A (w_Mo g a0 s0 ++ (rest)) H) (hS : va_S A s.heap H locs) (h : B_Mo_numberAt_13 k8 s0 x1 x2 x3 x4 = some out) : W p l e (headSpec ws_Mo_numberAt { frames := 1, cells := 0, slots := 0, locals := 22 }).room s m args below meth c H locs 0 0 (MQ below (QcI D A g out (fun (_ : Unit) => w_Mo g a0 s0 ++ (rest))) args s 0 0 A) (F0 m 13 ls []) := by
  have X1 := X
  obtain ⟨hx, hb, hml, hown, hts, hr, hlocks, hKK⟩ := X1
  have ht : ∀ w ∈ TB, w.before args s = true := fun w h => hts w (List.mem_cons_of_mem _ h)
  have hK := hKK.1
  unfold B_Mo_numberAt_13 at h
  refine lv_aload_n hx hb d_Mo_numberAt_13 rfl (lv_at hl 0 rfl) ?_
  refine gt_Mo_tag hx hb ht hown hK hI (ht _ m_824) d_Mo_numberAt_14 ?_
  refine lv_iload hx hb d_Mo_numberAt_17 (lv_at hl 4 rfl) ?_
  by_cases hc1 : (x4 < 0 ∨ 260 ≤ x4.toNatClampNeg)
  · exact no_s (it_t h hc1)
  have h := it_f h hc1
  refine al_Mo_tag hx hb hK hI hc1 d_Mo_numberAt_19 ?_
  refine lv_iload_n hx hb d_Mo_numberAt_20 rfl (lv_at hl 1 rfl) ?_
  refine lv_icmp_ne (tgt := 42) hx hb d_Mo_numberAt_21 (by decide) (fun hc => ?_) (fun hc => ?_)
  · have h := it_f h hc
    exact t_Mo_numberAt_42 X hk8 (lv_sub hl [0, 1, 2, 3, 4] rfl) hI hS h
  · have h := it_t h hc
    exact t_Mo_numberAt_24 X hk8 (lv_sub hl [0, 1, 2, 3, 4] rfl) hI hS h
set_option maxRecDepth 100000 in
set_option maxHeartbeats 4000000 in
theorem t_Mo_numberAt_8 {p : Program} {l : Launch} {e : Env} {s : State} {m : MethodId} {args : Array Value} {below : List Frame} {meth : Method} {c : Code} {D : va_G} {A : Nat → Prop} {g : Nat → ClassId} {rest : va_W} {a0 : Nat → Nat} {ls : Array Slot} {H : Heap} {locs : List Loc} {k8 : Int32 × Int32 × Int32 × Int32 → Option Int32} {s0 : S_Mo} {x1 : Int32} {x2 : Int32} {x3 : Int32} {x4 : Int32} {out : Int32} (X : Cx p s m args meth c prog_11_method_40_code 5 ws_Mo_numberAt R_Mo (some .int) D g) (hk8 : ∀ (v : Int32 × Int32 × Int32 × Int32) (ls : Array Slot) (H : Heap) (locs : List Loc), lv_has ls 5 [(0, .ref (a0 0)), (1, .int v.1), (2, .int v.2.1), (3, .int v.2.2.1), (4, .int v.2.2.2)] → Iw D A (w_Mo g a0 s0 ++ (rest)) H → va_S A s.heap H locs → k8 v = some out → W p l e (headSpec ws_Mo_numberAt { frames := 1, cells := 0, slots := 0, locals := 22 }).room s m args below meth c H locs 0 0 (MQ below (QcI D A g out (fun (_ : Unit) => w_Mo g a0 s0 ++ (rest))) args s 0 0 A) (F0 m 8 ls [])) (hl : lv_has ls 5 [(0, .ref (a0 0)), (1, .int x1), (2, .int x2), (3, .int x3), (4, .int x4)]) (hI : Iw D A (w_Mo g a0 s0 ++ (rest)) H) (hS : va_S A s.heap H locs) (h : B_Mo_numberAt_8 k8 s0 x1 x2 x3 x4 = some out) : W p l e (headSpec ws_Mo_numberAt { frames := 1, cells := 0, slots := 0, locals := 22 }).room s m args below meth c H locs 0 0 (MQ below (QcI D A g out (fun (_ : Unit) => w_Mo g a0 s0 ++ (rest))) args s 0 0 A) (F0 m 8 ls []) := by
  have X1 := X
  obtain ⟨hx, hb, hml, hown, hts, hr, hlocks, hKK⟩ := X1
  have ht : ∀ w ∈ TB, w.before args s = true := fun w h => hts w (List.mem_cons_of_mem _ h)
  have hK := hKK.1
  unfold B_Mo_numberAt_8 at h
  refine lv_iload hx hb d_Mo_numberAt_8 (lv_at hl 4 rfl) ?_
  refine lv_if_lt (tgt := 54) hx hb d_Mo_numberAt_10 (by decide) (fun hc => ?_) (fun hc => ?_)
  · have h := it_t h hc
    exact t_Mo_numberAt_54 X (lv_sub hl [] rfl) hI hS h
  · have h := it_f h hc
    exact t_Mo_numberAt_13 X hk8 (lv_sub hl [0, 1, 2, 3, 4] rfl) hI hS h
set_option maxRecDepth 100000 in
set_option maxHeartbeats 4000000 in
theorem T_Mo_numberAt_8 {p : Program} {l : Launch} {e : Env} {s : State} {m : MethodId} {args : Array Value} {below : List Frame} {meth : Method} {c : Code} {D : va_G} {A : Nat → Prop} {g : Nat → ClassId} {rest : va_W} {a0 : Nat → Nat} {ls : Array Slot} {H : Heap} {locs : List Loc} {s0 : S_Mo} {x1 : Int32} {x2 : Int32} {x3 : Int32} {x4 : Int32} {out : Int32} (X : Cx p s m args meth c prog_11_method_40_code 5 ws_Mo_numberAt R_Mo (some .int) D g) (hl : lv_has ls 5 [(0, .ref (a0 0)), (1, .int x1), (2, .int x2), (3, .int x3), (4, .int x4)]) (hI : Iw D A (w_Mo g a0 s0 ++ (rest)) H) (hS : va_S A s.heap H locs) (h : L_Mo_numberAt_8  s0 (x1, x2, x3, x4) = some out) : W p l e (headSpec ws_Mo_numberAt { frames := 1, cells := 0, slots := 0, locals := 22 }).room s m args below meth c H locs 0 0 (MQ below (QcI D A g out (fun (_ : Unit) => w_Mo g a0 s0 ++ (rest))) args s 0 0 A) (F0 m 8 ls []) := by
  unfold L_Mo_numberAt_8 at h
  exact lp_ind (P := fun v => ∀ (ls : Array Slot) (H : Heap) (locs : List Loc), lv_has ls 5 [(0, .ref (a0 0)), (1, .int v.1), (2, .int v.2.1), (3, .int v.2.2.1), (4, .int v.2.2.2)] → Iw D A (w_Mo g a0 s0 ++ (rest)) H → va_S A s.heap H locs → W p l e (headSpec ws_Mo_numberAt { frames := 1, cells := 0, slots := 0, locals := 22 }).room s m args below meth c H locs 0 0 (MQ below (QcI D A g out (fun (_ : Unit) => w_Mo g a0 s0 ++ (rest))) args s 0 0 A) (F0 m 8 ls [])) (fun k v ih hb ls H locs  hl hI hS => t_Mo_numberAt_8 X  (fun v' ls H locs  hl hI hS h' => ih v' h' ls H locs  hl hI hS) hl hI hS hb) FU _ h ls H locs  hl hI hS
set_option maxRecDepth 100000 in
set_option maxHeartbeats 4000000 in
theorem t_Mo_numberAt_0 {p : Program} {l : Launch} {e : Env} {s : State} {m : MethodId} {args : Array Value} {below : List Frame} {meth : Method} {c : Code} {D : va_G} {A : Nat → Prop} {g : Nat → ClassId} {rest : va_W} {a0 : Nat → Nat} {ls : Array Slot} {H : Heap} {locs : List Loc} {s0 : S_Mo} {x1 : Int32} {x2 : Int32} {x3 : Int32} {out : Int32} (X : Cx p s m args meth c prog_11_method_40_code 5 ws_Mo_numberAt R_Mo (some .int) D g) (hl : lv_has ls 5 [(0, .ref (a0 0)), (1, .int x1), (2, .int x2), (3, .int x3)]) (hI : Iw D A (w_Mo g a0 s0 ++ (rest)) H) (hS : va_S A s.heap H locs) (h : B_Mo_numberAt_0  s0 x1 x2 x3 = some out) : W p l e (headSpec ws_Mo_numberAt { frames := 1, cells := 0, slots := 0, locals := 22 }).room s m args below meth c H locs 0 0 (MQ below (QcI D A g out (fun (_ : Unit) => w_Mo g a0 s0 ++ (rest))) args s 0 0 A) (F0 m 0 ls []) := by
  have X1 := X
  obtain ⟨hx, hb, hml, hown, hts, hr, hlocks, hKK⟩ := X1
  have ht : ∀ w ∈ TB, w.before args s = true := fun w h => hts w (List.mem_cons_of_mem _ h)
  have hK := hKK.1
  unfold B_Mo_numberAt_0 at h
  refine lv_aload_n hx hb d_Mo_numberAt_0 rfl (lv_at hl 0 rfl) ?_
  refine gt_Mo_first hx hb ht hown hK hI (ht _ m_828) d_Mo_numberAt_1 ?_
  refine lv_iconst (v := 0) hx hb d_Mo_numberAt_4 (by decide) ?_
  by_cases hc1 : ((0 : Int32) < 0 ∨ 260 ≤ (0 : Int32).toNatClampNeg)
  · exact no_s (it_t h hc1)
  have h := it_f h hc1
  refine al_Mo_first hx hb hK hI hc1 d_Mo_numberAt_5 ?_
  refine lv_istore hx hb d_Mo_numberAt_6 hl (Nat.le_of_ble_eq_true rfl) rfl (fun ls hl => ?_)
  have hl : lv_has ls 5 [(4, .int ((Mo_first s0) (0 : Int32).toNatClampNeg)), (0, .ref (a0 0)), (1, .int x1), (2, .int x2), (3, .int x3)] := hl
  exact T_Mo_numberAt_8 X (lv_sub hl [1, 2, 3, 4, 0] rfl) hI hS h
set_option maxRecDepth 100000 in
set_option maxHeartbeats 4000000 in
theorem c_Mo_numberAt {l : Launch} {D : va_G} {A : Nat → Prop} {g : Nat → ClassId} {rest : va_W} {a0 : Nat → Nat} {s0 : S_Mo} {x1 : Int32} {x2 : Int32} {x3 : Int32} {out : Int32} (h : F_Mo_numberAt s0 x1 x2 x3 = some out) : Met l y_Mo_numberAt ws_Mo_numberAt { frames := 1, cells := 0, slots := 0, locals := 22 } (PcW D A g [.ref (a0 0), .int x1, .int x2, .int x3] (w_Mo g a0 s0 ++ (rest))) (QcI D A g out (fun (_ : Unit) => w_Mo g a0 s0 ++ (rest))) 0 0 A := by
  refine Met.ofW (cc := prog_11_method_40_code) (maxL := 5) (ret := (some .int)) (by decide) rfl ?_
  intro p e s m args below meth c s₁ B hml hv
  obtain ⟨rfl, hI, hK⟩ := hv
  have hl := lv_entry [.ref (a0 0), .int x1, .int x2, .int x3] (n := 5) (Nat.le_of_ble_eq_true rfl)
  rw [lg_entry_eq]
  generalize (lg_sl [.ref (a0 0), .int x1, .int x2, .int x3] ++ List.replicate (5 - (lg_sl [.ref (a0 0), .int x1, .int x2, .int x3]).length) Slot.unset).toArray = ls at hl ⊢
  have hl : lv_has ls 5 [(0, .ref (a0 0)), (1, .int x1), (2, .int x2), (3, .int x3)] := hl
  exact t_Mo_numberAt_0 ⟨B.exec, B.bytes, hml, findClass_of_methodNamed B.named, atoms_spec (ws := ws_Mo_numberAt) B.pre, B.returns, B.notSynchronized, hK⟩ (lv_sub hl [0, 1, 2, 3] rfl) hI va_S.rf h
