/-! the law's own methods: names, words, decoded -/
def R_La : String := "RecordNodeLaw"
def y_La_cell : MethodName := ⟨R_La, "cell", "([II)I"⟩
def y_La_check : MethodName := ⟨R_La, "check", "(LRecordNode;I[J)I"⟩
def y_La_convert : MethodName := ⟨R_La, "convert", "(LRecordNode;II[J)I"⟩
def y_La_at : MethodName := ⟨R_La, "at", "(LRecordNode;I[J)I"⟩
def y_La_feed : MethodName := ⟨R_La, "feed", "(LRecordNode;JI[J)I"⟩
def y_La_take : MethodName := ⟨R_La, "take", "(LRecordNode;[J)I"⟩
def y_La_record : MethodName := ⟨R_La, "record", "(LRecordNode;II[J)I"⟩
def ws_La_check : List Cond := .codeWith y_La_check method_3_code 4 (some .int) [(0, 9, 12, 13)] :: TB
def ws_La_convert : List Cond := .codeWith y_La_convert method_4_code 5 (some .int) [(0, 10, 13, 13), (0, 10, 17, 19)] :: TB
def ws_La_at : List Cond := .codeWith y_La_at method_5_code 4 (some .int) [(0, 9, 12, 24)] :: TB
def ws_La_feed : List Cond := .codeWith y_La_feed method_6_code 6 (some .int) [(0, 18, 21, 13)] :: TB
def ws_La_take : List Cond := .codeWith y_La_take method_7_code 3 (some .int) [(0, 8, 11, 24)] :: TB
def ws_La_record : List Cond := .codeWith y_La_record method_8_code 5 (some .int) [(0, 10, 13, 24)] :: TB
def ws_La_cell : List Cond := .code y_La_cell method_2_code 2 (some .int) :: TB
theorem d_La_cell_0 : decode method_2_code 0 = .ok (.iload_n 1, 1) := by decide +kernel
theorem d_La_cell_1 : decode method_2_code 1 = .ok (.aload_n 0, 1) := by decide +kernel
theorem d_La_cell_2 : decode method_2_code 2 = .ok (.arraylength, 1) := by decide +kernel
theorem d_La_cell_3 : decode method_2_code 3 = .ok (.if_icmp .ge 9, 3) := by decide +kernel
theorem d_La_cell_6 : decode method_2_code 6 = .ok (.aload_n 0, 1) := by decide +kernel
theorem d_La_cell_7 : decode method_2_code 7 = .ok (.iload_n 1, 1) := by decide +kernel
theorem d_La_cell_8 : decode method_2_code 8 = .ok (.iaload, 1) := by decide +kernel
theorem d_La_cell_9 : decode method_2_code 9 = .ok (.goto 4, 3) := by decide +kernel
theorem d_La_cell_12 : decode method_2_code 12 = .ok (.iconst 0, 1) := by decide +kernel
theorem d_La_cell_13 : decode method_2_code 13 = .ok (.ireturn, 1) := by decide +kernel
theorem d_La_check_0 : decode method_3_code 0 = .ok (.aload_n 2, 1) := by decide +kernel
theorem d_La_check_1 : decode method_3_code 1 = .ok (.iconst 0, 1) := by decide +kernel
theorem d_La_check_2 : decode method_3_code 2 = .ok (.aload_n 0, 1) := by decide +kernel
theorem d_La_check_3 : decode method_3_code 3 = .ok (.iload_n 1, 1) := by decide +kernel
theorem d_La_check_4 : decode method_3_code 4 = .ok (.invokevirtual 7, 3) := by decide +kernel
theorem d_La_check_7 : decode method_3_code 7 = .ok (.i2l, 1) := by decide +kernel
theorem d_La_check_8 : decode method_3_code 8 = .ok (.lastore, 1) := by decide +kernel
theorem d_La_check_9 : decode method_3_code 9 = .ok (.goto 6, 3) := by decide +kernel
theorem d_La_check_12 : decode method_3_code 12 = .ok (.astore_n 3, 1) := by decide +kernel
theorem d_La_check_13 : decode method_3_code 13 = .ok (.iconst 1, 1) := by decide +kernel
theorem d_La_check_14 : decode method_3_code 14 = .ok (.ireturn, 1) := by decide +kernel
theorem d_La_check_15 : decode method_3_code 15 = .ok (.iconst 0, 1) := by decide +kernel
theorem d_La_check_16 : decode method_3_code 16 = .ok (.ireturn, 1) := by decide +kernel
theorem d_La_at_0 : decode method_5_code 0 = .ok (.aload_n 2, 1) := by decide +kernel
theorem d_La_at_1 : decode method_5_code 1 = .ok (.iconst 0, 1) := by decide +kernel
theorem d_La_at_2 : decode method_5_code 2 = .ok (.aload_n 0, 1) := by decide +kernel
theorem d_La_at_3 : decode method_5_code 3 = .ok (.iload_n 1, 1) := by decide +kernel
theorem d_La_at_4 : decode method_5_code 4 = .ok (.invokevirtual 21, 3) := by decide +kernel
theorem d_La_at_7 : decode method_5_code 7 = .ok (.i2l, 1) := by decide +kernel
theorem d_La_at_8 : decode method_5_code 8 = .ok (.lastore, 1) := by decide +kernel
theorem d_La_at_9 : decode method_5_code 9 = .ok (.goto 6, 3) := by decide +kernel
theorem d_La_at_12 : decode method_5_code 12 = .ok (.astore_n 3, 1) := by decide +kernel
theorem d_La_at_13 : decode method_5_code 13 = .ok (.iconst 1, 1) := by decide +kernel
theorem d_La_at_14 : decode method_5_code 14 = .ok (.ireturn, 1) := by decide +kernel
theorem d_La_at_15 : decode method_5_code 15 = .ok (.iconst 0, 1) := by decide +kernel
theorem d_La_at_16 : decode method_5_code 16 = .ok (.ireturn, 1) := by decide +kernel
theorem d_La_convert_0 : decode method_4_code 0 = .ok (.aload_n 3, 1) := by decide +kernel
theorem d_La_convert_1 : decode method_4_code 1 = .ok (.iconst 0, 1) := by decide +kernel
theorem d_La_convert_2 : decode method_4_code 2 = .ok (.aload_n 0, 1) := by decide +kernel
theorem d_La_convert_3 : decode method_4_code 3 = .ok (.iload_n 1, 1) := by decide +kernel
theorem d_La_convert_4 : decode method_4_code 4 = .ok (.iload_n 2, 1) := by decide +kernel
theorem d_La_convert_5 : decode method_4_code 5 = .ok (.invokevirtual 15, 3) := by decide +kernel
theorem d_La_convert_8 : decode method_4_code 8 = .ok (.i2l, 1) := by decide +kernel
theorem d_La_convert_9 : decode method_4_code 9 = .ok (.lastore, 1) := by decide +kernel
theorem d_La_convert_10 : decode method_4_code 10 = .ok (.goto 11, 3) := by decide +kernel
theorem d_La_convert_13 : decode method_4_code 13 = .ok (.astore 4, 2) := by decide +kernel
theorem d_La_convert_15 : decode method_4_code 15 = .ok (.iconst 1, 1) := by decide +kernel
theorem d_La_convert_16 : decode method_4_code 16 = .ok (.ireturn, 1) := by decide +kernel
theorem d_La_convert_17 : decode method_4_code 17 = .ok (.astore 4, 2) := by decide +kernel
theorem d_La_convert_19 : decode method_4_code 19 = .ok (.iconst 2, 1) := by decide +kernel
theorem d_La_convert_20 : decode method_4_code 20 = .ok (.ireturn, 1) := by decide +kernel
theorem d_La_convert_21 : decode method_4_code 21 = .ok (.iconst 0, 1) := by decide +kernel
theorem d_La_convert_22 : decode method_4_code 22 = .ok (.ireturn, 1) := by decide +kernel
theorem d_La_feed_0 : decode method_6_code 0 = .ok (.aload 4, 2) := by decide +kernel
theorem d_La_feed_2 : decode method_6_code 2 = .ok (.iconst 0, 1) := by decide +kernel
theorem d_La_feed_3 : decode method_6_code 3 = .ok (.aload_n 0, 1) := by decide +kernel
theorem d_La_feed_4 : decode method_6_code 4 = .ok (.lload_n 1, 1) := by decide +kernel
theorem d_La_feed_5 : decode method_6_code 5 = .ok (.iload_n 3, 1) := by decide +kernel
theorem d_La_feed_6 : decode method_6_code 6 = .ok (.invokevirtual 26, 3) := by decide +kernel
theorem d_La_feed_9 : decode method_6_code 9 = .ok (.ifCond .eq 7, 3) := by decide +kernel
theorem d_La_feed_12 : decode method_6_code 12 = .ok (.lconst 1, 1) := by decide +kernel
theorem d_La_feed_13 : decode method_6_code 13 = .ok (.goto 4, 3) := by decide +kernel
theorem d_La_feed_16 : decode method_6_code 16 = .ok (.lconst 0, 1) := by decide +kernel
theorem d_La_feed_17 : decode method_6_code 17 = .ok (.lastore, 1) := by decide +kernel
theorem d_La_feed_18 : decode method_6_code 18 = .ok (.goto 7, 3) := by decide +kernel
theorem d_La_feed_21 : decode method_6_code 21 = .ok (.astore 5, 2) := by decide +kernel
theorem d_La_feed_23 : decode method_6_code 23 = .ok (.iconst 1, 1) := by decide +kernel
theorem d_La_feed_24 : decode method_6_code 24 = .ok (.ireturn, 1) := by decide +kernel
theorem d_La_feed_25 : decode method_6_code 25 = .ok (.iconst 0, 1) := by decide +kernel
theorem d_La_feed_26 : decode method_6_code 26 = .ok (.ireturn, 1) := by decide +kernel
theorem d_La_take_0 : decode method_7_code 0 = .ok (.aload_n 1, 1) := by decide +kernel
theorem d_La_take_1 : decode method_7_code 1 = .ok (.iconst 0, 1) := by decide +kernel
theorem d_La_take_2 : decode method_7_code 2 = .ok (.aload_n 0, 1) := by decide +kernel
theorem d_La_take_3 : decode method_7_code 3 = .ok (.invokevirtual 30, 3) := by decide +kernel
theorem d_La_take_6 : decode method_7_code 6 = .ok (.i2l, 1) := by decide +kernel
theorem d_La_take_7 : decode method_7_code 7 = .ok (.lastore, 1) := by decide +kernel
theorem d_La_take_8 : decode method_7_code 8 = .ok (.goto 6, 3) := by decide +kernel
theorem d_La_take_11 : decode method_7_code 11 = .ok (.astore_n 2, 1) := by decide +kernel
theorem d_La_take_12 : decode method_7_code 12 = .ok (.iconst 1, 1) := by decide +kernel
theorem d_La_take_13 : decode method_7_code 13 = .ok (.ireturn, 1) := by decide +kernel
theorem d_La_take_14 : decode method_7_code 14 = .ok (.iconst 0, 1) := by decide +kernel
theorem d_La_take_15 : decode method_7_code 15 = .ok (.ireturn, 1) := by decide +kernel
theorem d_La_record_0 : decode method_8_code 0 = .ok (.aload_n 3, 1) := by decide +kernel
theorem d_La_record_1 : decode method_8_code 1 = .ok (.iconst 0, 1) := by decide +kernel
theorem d_La_record_2 : decode method_8_code 2 = .ok (.aload_n 0, 1) := by decide +kernel
theorem d_La_record_3 : decode method_8_code 3 = .ok (.iload_n 1, 1) := by decide +kernel
theorem d_La_record_4 : decode method_8_code 4 = .ok (.iload_n 2, 1) := by decide +kernel
theorem d_La_record_5 : decode method_8_code 5 = .ok (.invokevirtual 34, 3) := by decide +kernel
theorem d_La_record_8 : decode method_8_code 8 = .ok (.i2l, 1) := by decide +kernel
theorem d_La_record_9 : decode method_8_code 9 = .ok (.lastore, 1) := by decide +kernel
theorem d_La_record_10 : decode method_8_code 10 = .ok (.goto 7, 3) := by decide +kernel
theorem d_La_record_13 : decode method_8_code 13 = .ok (.astore 4, 2) := by decide +kernel
theorem d_La_record_15 : decode method_8_code 15 = .ok (.iconst 1, 1) := by decide +kernel
theorem d_La_record_16 : decode method_8_code 16 = .ok (.ireturn, 1) := by decide +kernel
theorem d_La_record_17 : decode method_8_code 17 = .ok (.iconst 0, 1) := by decide +kernel
theorem d_La_record_18 : decode method_8_code 18 = .ok (.ireturn, 1) := by decide +kernel
set_option maxRecDepth 100000 in
theorem m_0 : Cond.initialized R_La ∈ TB := TB_in 78 (by decide +kernel) rfl
set_option maxRecDepth 100000 in
theorem m_252 : Cond.methodLink R_La 51 y_Rn_type ∈ TB := TB_in 330 (by decide +kernel) rfl
set_option maxRecDepth 100000 in
theorem m_253 : Cond.instanceMethod y_Rn_type ∈ TB := TB_in 331 (by decide +kernel) rfl
set_option maxRecDepth 100000 in
theorem m_254 : Cond.selects R_Rn y_Rn_type y_Rn_type ∈ TB := TB_in 332 (by decide +kernel) rfl
set_option maxRecDepth 100000 in
theorem m_255 : Cond.code y_Rn_type prog_1_method_2_code 5 (some .boolean) ∈ TB := TB_in 333 (by decide +kernel) rfl
set_option maxRecDepth 100000 in
theorem m_270 : Cond.methodLink R_La 55 y_Rn_clear ∈ TB := TB_in 348 (by decide +kernel) rfl
set_option maxRecDepth 100000 in
theorem m_271 : Cond.instanceMethod y_Rn_clear ∈ TB := TB_in 349 (by decide +kernel) rfl
set_option maxRecDepth 100000 in
theorem m_272 : Cond.selects R_Rn y_Rn_clear y_Rn_clear ∈ TB := TB_in 350 (by decide +kernel) rfl
set_option maxRecDepth 100000 in
theorem m_273 : Cond.code y_Rn_clear prog_1_method_3_code 1 none ∈ TB := TB_in 351 (by decide +kernel) rfl
set_option maxRecDepth 100000 in
theorem m_278 : Cond.methodLink R_La 73 y_Rn_open ∈ TB := TB_in 356 (by decide +kernel) rfl
set_option maxRecDepth 100000 in
theorem m_279 : Cond.instanceMethod y_Rn_open ∈ TB := TB_in 357 (by decide +kernel) rfl
set_option maxRecDepth 100000 in
theorem m_280 : Cond.selects R_Rn y_Rn_open y_Rn_open ∈ TB := TB_in 358 (by decide +kernel) rfl
set_option maxRecDepth 100000 in
theorem m_281 : Cond.code y_Rn_open prog_1_method_7_code 1 (some .boolean) ∈ TB := TB_in 359 (by decide +kernel) rfl
set_option maxRecDepth 100000 in
theorem m_286 : Cond.methodLink R_La 78 y_Rn_close ∈ TB := TB_in 364 (by decide +kernel) rfl
set_option maxRecDepth 100000 in
theorem m_287 : Cond.instanceMethod y_Rn_close ∈ TB := TB_in 365 (by decide +kernel) rfl
set_option maxRecDepth 100000 in
theorem m_288 : Cond.selects R_Rn y_Rn_close y_Rn_close ∈ TB := TB_in 366 (by decide +kernel) rfl
set_option maxRecDepth 100000 in
theorem m_289 : Cond.code y_Rn_close prog_1_method_8_code 1 (some .boolean) ∈ TB := TB_in 367 (by decide +kernel) rfl
set_option maxRecDepth 100000 in
theorem m_298 : Cond.methodLink R_La 86 y_Rn_send ∈ TB := TB_in 376 (by decide +kernel) rfl
set_option maxRecDepth 100000 in
theorem m_299 : Cond.instanceMethod y_Rn_send ∈ TB := TB_in 377 (by decide +kernel) rfl
set_option maxRecDepth 100000 in
theorem m_300 : Cond.selects R_Rn y_Rn_send y_Rn_send ∈ TB := TB_in 378 (by decide +kernel) rfl
set_option maxRecDepth 100000 in
theorem m_301 : Cond.code y_Rn_send prog_1_method_10_code 2 (some .boolean) ∈ TB := TB_in 379 (by decide +kernel) rfl
set_option maxRecDepth 100000 in
theorem m_644 : Cond.methodLink R_La 90 y_Rn_tick ∈ TB := TB_in 722 (by decide +kernel) rfl
set_option maxRecDepth 100000 in
theorem m_645 : Cond.instanceMethod y_Rn_tick ∈ TB := TB_in 723 (by decide +kernel) rfl
set_option maxRecDepth 100000 in
theorem m_646 : Cond.selects R_Rn y_Rn_tick y_Rn_tick ∈ TB := TB_in 724 (by decide +kernel) rfl
set_option maxRecDepth 100000 in
theorem m_647 : Cond.code y_Rn_tick prog_1_method_11_code 1 (some .int) ∈ TB := TB_in 725 (by decide +kernel) rfl
set_option maxRecDepth 100000 in
theorem m_648 : Cond.methodLink R_La 98 y_Rn_state ∈ TB := TB_in 726 (by decide +kernel) rfl
set_option maxRecDepth 100000 in
theorem m_649 : Cond.instanceMethod y_Rn_state ∈ TB := TB_in 727 (by decide +kernel) rfl
set_option maxRecDepth 100000 in
theorem m_650 : Cond.selects R_Rn y_Rn_state y_Rn_state ∈ TB := TB_in 728 (by decide +kernel) rfl
set_option maxRecDepth 100000 in
theorem m_651 : Cond.code y_Rn_state prog_1_method_13_code 2 (some .int) ∈ TB := TB_in 729 (by decide +kernel) rfl
set_option maxRecDepth 100000 in
theorem m_657 : Cond.methodLink R_La 102 y_Rn_context ∈ TB := TB_in 735 (by decide +kernel) rfl
set_option maxRecDepth 100000 in
theorem m_658 : Cond.instanceMethod y_Rn_context ∈ TB := TB_in 736 (by decide +kernel) rfl
set_option maxRecDepth 100000 in
theorem m_659 : Cond.selects R_Rn y_Rn_context y_Rn_context ∈ TB := TB_in 737 (by decide +kernel) rfl
set_option maxRecDepth 100000 in
theorem m_660 : Cond.code y_Rn_context prog_1_method_14_code 2 (some .int) ∈ TB := TB_in 738 (by decide +kernel) rfl
set_option maxRecDepth 100000 in
theorem m_664 : Cond.methodLink R_La 59 y_La_check ∈ TB := TB_in 742 (by decide +kernel) rfl
set_option maxRecDepth 100000 in
theorem m_665 : Cond.static y_La_check ∈ TB := TB_in 743 (by decide +kernel) rfl
set_option maxRecDepth 100000 in
theorem m_666 : Cond.codeWith y_La_check method_3_code 4 (some .int) [(0, 9, 12, 13)] ∈ TB := TB_in 744 (by decide +kernel) rfl
set_option maxRecDepth 100000 in
theorem m_667 : Cond.classLink R_La 13 "java/lang/IllegalArgumentException" ∈ TB := TB_in 745 (by decide +kernel) rfl
set_option maxRecDepth 100000 in
theorem m_668 : Cond.methodLink R_La 7 y_Rn_check ∈ TB := TB_in 746 (by decide +kernel) rfl
set_option maxRecDepth 100000 in
theorem m_669 : Cond.instanceMethod y_Rn_check ∈ TB := TB_in 747 (by decide +kernel) rfl
set_option maxRecDepth 100000 in
theorem m_670 : Cond.selects R_Rn y_Rn_check y_Rn_check ∈ TB := TB_in 748 (by decide +kernel) rfl
set_option maxRecDepth 100000 in
theorem m_671 : Cond.code y_Rn_check prog_1_method_4_code 2 (some .int) ∈ TB := TB_in 749 (by decide +kernel) rfl
set_option maxRecDepth 100000 in
theorem m_738 : Cond.methodLink R_La 66 y_La_convert ∈ TB := TB_in 816 (by decide +kernel) rfl
set_option maxRecDepth 100000 in
theorem m_739 : Cond.static y_La_convert ∈ TB := TB_in 817 (by decide +kernel) rfl
set_option maxRecDepth 100000 in
theorem m_740 : Cond.codeWith y_La_convert method_4_code 5 (some .int) [(0, 10, 13, 13), (0, 10, 17, 19)] ∈ TB := TB_in 818 (by decide +kernel) rfl
set_option maxRecDepth 100000 in
theorem m_741 : Cond.classLink R_La 19 "java/lang/IllegalStateException" ∈ TB := TB_in 819 (by decide +kernel) rfl
set_option maxRecDepth 100000 in
theorem m_742 : Cond.methodLink R_La 15 y_Rn_convert ∈ TB := TB_in 820 (by decide +kernel) rfl
set_option maxRecDepth 100000 in
theorem m_743 : Cond.instanceMethod y_Rn_convert ∈ TB := TB_in 821 (by decide +kernel) rfl
set_option maxRecDepth 100000 in
theorem m_744 : Cond.selects R_Rn y_Rn_convert y_Rn_convert ∈ TB := TB_in 822 (by decide +kernel) rfl
set_option maxRecDepth 100000 in
theorem m_745 : Cond.code y_Rn_convert prog_1_method_5_code 4 (some .int) ∈ TB := TB_in 823 (by decide +kernel) rfl
set_option maxRecDepth 100000 in
theorem m_762 : Cond.methodLink R_La 70 y_La_at ∈ TB := TB_in 840 (by decide +kernel) rfl
set_option maxRecDepth 100000 in
theorem m_763 : Cond.static y_La_at ∈ TB := TB_in 841 (by decide +kernel) rfl
set_option maxRecDepth 100000 in
theorem m_764 : Cond.codeWith y_La_at method_5_code 4 (some .int) [(0, 9, 12, 24)] ∈ TB := TB_in 842 (by decide +kernel) rfl
set_option maxRecDepth 100000 in
theorem m_765 : Cond.classLink R_La 24 "java/util/NoSuchElementException" ∈ TB := TB_in 843 (by decide +kernel) rfl
set_option maxRecDepth 100000 in
theorem m_766 : Cond.methodLink R_La 21 y_Rn_at ∈ TB := TB_in 844 (by decide +kernel) rfl
set_option maxRecDepth 100000 in
theorem m_767 : Cond.instanceMethod y_Rn_at ∈ TB := TB_in 845 (by decide +kernel) rfl
set_option maxRecDepth 100000 in
theorem m_768 : Cond.selects R_Rn y_Rn_at y_Rn_at ∈ TB := TB_in 846 (by decide +kernel) rfl
set_option maxRecDepth 100000 in
theorem m_769 : Cond.code y_Rn_at prog_1_method_6_code 2 (some .int) ∈ TB := TB_in 847 (by decide +kernel) rfl
set_option maxRecDepth 100000 in
theorem m_785 : Cond.methodLink R_La 82 y_La_feed ∈ TB := TB_in 863 (by decide +kernel) rfl
set_option maxRecDepth 100000 in
theorem m_786 : Cond.static y_La_feed ∈ TB := TB_in 864 (by decide +kernel) rfl
set_option maxRecDepth 100000 in
theorem m_787 : Cond.codeWith y_La_feed method_6_code 6 (some .int) [(0, 18, 21, 13)] ∈ TB := TB_in 865 (by decide +kernel) rfl
set_option maxRecDepth 100000 in
theorem m_788 : Cond.methodLink R_La 26 y_Rn_feed ∈ TB := TB_in 866 (by decide +kernel) rfl
set_option maxRecDepth 100000 in
theorem m_789 : Cond.instanceMethod y_Rn_feed ∈ TB := TB_in 867 (by decide +kernel) rfl
set_option maxRecDepth 100000 in
theorem m_790 : Cond.selects R_Rn y_Rn_feed y_Rn_feed ∈ TB := TB_in 868 (by decide +kernel) rfl
set_option maxRecDepth 100000 in
theorem m_791 : Cond.code y_Rn_feed prog_1_method_9_code 5 (some .boolean) ∈ TB := TB_in 869 (by decide +kernel) rfl
set_option maxRecDepth 100000 in
theorem m_792 : Cond.methodLink R_La 94 y_La_take ∈ TB := TB_in 870 (by decide +kernel) rfl
set_option maxRecDepth 100000 in
theorem m_793 : Cond.static y_La_take ∈ TB := TB_in 871 (by decide +kernel) rfl
set_option maxRecDepth 100000 in
theorem m_794 : Cond.codeWith y_La_take method_7_code 3 (some .int) [(0, 8, 11, 24)] ∈ TB := TB_in 872 (by decide +kernel) rfl
set_option maxRecDepth 100000 in
theorem m_795 : Cond.methodLink R_La 30 y_Rn_take ∈ TB := TB_in 873 (by decide +kernel) rfl
set_option maxRecDepth 100000 in
theorem m_796 : Cond.instanceMethod y_Rn_take ∈ TB := TB_in 874 (by decide +kernel) rfl
set_option maxRecDepth 100000 in
theorem m_797 : Cond.selects R_Rn y_Rn_take y_Rn_take ∈ TB := TB_in 875 (by decide +kernel) rfl
set_option maxRecDepth 100000 in
theorem m_798 : Cond.code y_Rn_take prog_1_method_12_code 1 (some .int) ∈ TB := TB_in 876 (by decide +kernel) rfl
set_option maxRecDepth 100000 in
theorem m_803 : Cond.methodLink R_La 106 y_La_record ∈ TB := TB_in 881 (by decide +kernel) rfl
set_option maxRecDepth 100000 in
theorem m_804 : Cond.static y_La_record ∈ TB := TB_in 882 (by decide +kernel) rfl
set_option maxRecDepth 100000 in
theorem m_805 : Cond.codeWith y_La_record method_8_code 5 (some .int) [(0, 10, 13, 24)] ∈ TB := TB_in 883 (by decide +kernel) rfl
set_option maxRecDepth 100000 in
theorem m_806 : Cond.methodLink R_La 34 y_Rn_record ∈ TB := TB_in 884 (by decide +kernel) rfl
set_option maxRecDepth 100000 in
theorem m_807 : Cond.instanceMethod y_Rn_record ∈ TB := TB_in 885 (by decide +kernel) rfl
set_option maxRecDepth 100000 in
theorem m_808 : Cond.selects R_Rn y_Rn_record y_Rn_record ∈ TB := TB_in 886 (by decide +kernel) rfl
set_option maxRecDepth 100000 in
theorem m_809 : Cond.code y_Rn_record prog_1_method_15_code 3 (some .int) ∈ TB := TB_in 887 (by decide +kernel) rfl
set_option maxRecDepth 100000 in
theorem m_967 : Cond.methodLink R_La 63 y_Mo_thrown ∈ TB := TB_in 1045 (by decide +kernel) rfl
set_option maxRecDepth 100000 in
theorem m_968 : Cond.instanceMethod y_Mo_thrown ∈ TB := TB_in 1046 (by decide +kernel) rfl
set_option maxRecDepth 100000 in
theorem m_969 : Cond.selects R_Mo y_Mo_thrown y_Mo_thrown ∈ TB := TB_in 1047 (by decide +kernel) rfl
set_option maxRecDepth 100000 in
theorem m_970 : Cond.code y_Mo_thrown prog_11_method_2_code 1 (some .int) ∈ TB := TB_in 1048 (by decide +kernel) rfl
set_option maxRecDepth 100000 in
theorem m_971 : Cond.methodLink R_La 54 y_Mo_type ∈ TB := TB_in 1049 (by decide +kernel) rfl
set_option maxRecDepth 100000 in
theorem m_972 : Cond.instanceMethod y_Mo_type ∈ TB := TB_in 1050 (by decide +kernel) rfl
set_option maxRecDepth 100000 in
theorem m_973 : Cond.selects R_Mo y_Mo_type y_Mo_type ∈ TB := TB_in 1051 (by decide +kernel) rfl
set_option maxRecDepth 100000 in
theorem m_974 : Cond.code y_Mo_type prog_11_method_19_code 5 (some .boolean) ∈ TB := TB_in 1052 (by decide +kernel) rfl
set_option maxRecDepth 100000 in
theorem m_979 : Cond.methodLink R_La 58 y_Mo_clear ∈ TB := TB_in 1057 (by decide +kernel) rfl
set_option maxRecDepth 100000 in
theorem m_980 : Cond.instanceMethod y_Mo_clear ∈ TB := TB_in 1058 (by decide +kernel) rfl
set_option maxRecDepth 100000 in
theorem m_981 : Cond.selects R_Mo y_Mo_clear y_Mo_clear ∈ TB := TB_in 1059 (by decide +kernel) rfl
set_option maxRecDepth 100000 in
theorem m_982 : Cond.code y_Mo_clear prog_11_method_20_code 1 none ∈ TB := TB_in 1060 (by decide +kernel) rfl
set_option maxRecDepth 100000 in
theorem m_983 : Cond.methodLink R_La 62 y_Mo_check ∈ TB := TB_in 1061 (by decide +kernel) rfl
set_option maxRecDepth 100000 in
theorem m_984 : Cond.instanceMethod y_Mo_check ∈ TB := TB_in 1062 (by decide +kernel) rfl
set_option maxRecDepth 100000 in
theorem m_985 : Cond.selects R_Mo y_Mo_check y_Mo_check ∈ TB := TB_in 1063 (by decide +kernel) rfl
set_option maxRecDepth 100000 in
theorem m_986 : Cond.code y_Mo_check prog_11_method_22_code 2 (some .int) ∈ TB := TB_in 1064 (by decide +kernel) rfl
set_option maxRecDepth 100000 in
theorem m_1027 : Cond.methodLink R_La 69 y_Mo_convert ∈ TB := TB_in 1105 (by decide +kernel) rfl
set_option maxRecDepth 100000 in
theorem m_1028 : Cond.instanceMethod y_Mo_convert ∈ TB := TB_in 1106 (by decide +kernel) rfl
set_option maxRecDepth 100000 in
theorem m_1029 : Cond.selects R_Mo y_Mo_convert y_Mo_convert ∈ TB := TB_in 1107 (by decide +kernel) rfl
set_option maxRecDepth 100000 in
theorem m_1030 : Cond.code y_Mo_convert prog_11_method_23_code 5 (some .int) ∈ TB := TB_in 1108 (by decide +kernel) rfl
set_option maxRecDepth 100000 in
theorem m_1056 : Cond.methodLink R_La 72 y_Mo_at ∈ TB := TB_in 1134 (by decide +kernel) rfl
set_option maxRecDepth 100000 in
theorem m_1057 : Cond.instanceMethod y_Mo_at ∈ TB := TB_in 1135 (by decide +kernel) rfl
set_option maxRecDepth 100000 in
theorem m_1058 : Cond.selects R_Mo y_Mo_at y_Mo_at ∈ TB := TB_in 1136 (by decide +kernel) rfl
set_option maxRecDepth 100000 in
theorem m_1059 : Cond.code y_Mo_at prog_11_method_24_code 2 (some .int) ∈ TB := TB_in 1137 (by decide +kernel) rfl
set_option maxRecDepth 100000 in
theorem m_1060 : Cond.methodLink R_La 77 y_Mo_open ∈ TB := TB_in 1138 (by decide +kernel) rfl
set_option maxRecDepth 100000 in
theorem m_1061 : Cond.instanceMethod y_Mo_open ∈ TB := TB_in 1139 (by decide +kernel) rfl
set_option maxRecDepth 100000 in
theorem m_1062 : Cond.selects R_Mo y_Mo_open y_Mo_open ∈ TB := TB_in 1140 (by decide +kernel) rfl
set_option maxRecDepth 100000 in
theorem m_1063 : Cond.code y_Mo_open prog_11_method_30_code 1 (some .boolean) ∈ TB := TB_in 1141 (by decide +kernel) rfl
set_option maxRecDepth 100000 in
theorem m_1072 : Cond.methodLink R_La 81 y_Mo_close ∈ TB := TB_in 1150 (by decide +kernel) rfl
set_option maxRecDepth 100000 in
theorem m_1073 : Cond.instanceMethod y_Mo_close ∈ TB := TB_in 1151 (by decide +kernel) rfl
set_option maxRecDepth 100000 in
theorem m_1074 : Cond.selects R_Mo y_Mo_close y_Mo_close ∈ TB := TB_in 1152 (by decide +kernel) rfl
set_option maxRecDepth 100000 in
theorem m_1075 : Cond.code y_Mo_close prog_11_method_31_code 1 (some .boolean) ∈ TB := TB_in 1153 (by decide +kernel) rfl
set_option maxRecDepth 100000 in
theorem m_1080 : Cond.methodLink R_La 85 y_Mo_feed ∈ TB := TB_in 1158 (by decide +kernel) rfl
set_option maxRecDepth 100000 in
theorem m_1081 : Cond.instanceMethod y_Mo_feed ∈ TB := TB_in 1159 (by decide +kernel) rfl
set_option maxRecDepth 100000 in
theorem m_1082 : Cond.selects R_Mo y_Mo_feed y_Mo_feed ∈ TB := TB_in 1160 (by decide +kernel) rfl
set_option maxRecDepth 100000 in
theorem m_1083 : Cond.code y_Mo_feed prog_11_method_32_code 5 (some .boolean) ∈ TB := TB_in 1161 (by decide +kernel) rfl
set_option maxRecDepth 100000 in
theorem m_1178 : Cond.methodLink R_La 89 y_Mo_send ∈ TB := TB_in 1256 (by decide +kernel) rfl
set_option maxRecDepth 100000 in
theorem m_1179 : Cond.instanceMethod y_Mo_send ∈ TB := TB_in 1257 (by decide +kernel) rfl
set_option maxRecDepth 100000 in
theorem m_1180 : Cond.selects R_Mo y_Mo_send y_Mo_send ∈ TB := TB_in 1258 (by decide +kernel) rfl
set_option maxRecDepth 100000 in
theorem m_1181 : Cond.code y_Mo_send prog_11_method_33_code 2 (some .boolean) ∈ TB := TB_in 1259 (by decide +kernel) rfl
set_option maxRecDepth 100000 in
theorem m_1182 : Cond.methodLink R_La 93 y_Mo_tick ∈ TB := TB_in 1260 (by decide +kernel) rfl
set_option maxRecDepth 100000 in
theorem m_1183 : Cond.instanceMethod y_Mo_tick ∈ TB := TB_in 1261 (by decide +kernel) rfl
set_option maxRecDepth 100000 in
theorem m_1184 : Cond.selects R_Mo y_Mo_tick y_Mo_tick ∈ TB := TB_in 1262 (by decide +kernel) rfl
set_option maxRecDepth 100000 in
theorem m_1185 : Cond.code y_Mo_tick prog_11_method_55_code 1 (some .int) ∈ TB := TB_in 1263 (by decide +kernel) rfl
set_option maxRecDepth 100000 in
theorem m_1186 : Cond.methodLink R_La 97 y_Mo_take ∈ TB := TB_in 1264 (by decide +kernel) rfl
set_option maxRecDepth 100000 in
theorem m_1187 : Cond.instanceMethod y_Mo_take ∈ TB := TB_in 1265 (by decide +kernel) rfl
set_option maxRecDepth 100000 in
theorem m_1188 : Cond.selects R_Mo y_Mo_take y_Mo_take ∈ TB := TB_in 1266 (by decide +kernel) rfl
set_option maxRecDepth 100000 in
theorem m_1189 : Cond.code y_Mo_take prog_11_method_56_code 3 (some .int) ∈ TB := TB_in 1267 (by decide +kernel) rfl
set_option maxRecDepth 100000 in
theorem m_1190 : Cond.methodLink R_La 101 y_Mo_state ∈ TB := TB_in 1268 (by decide +kernel) rfl
set_option maxRecDepth 100000 in
theorem m_1191 : Cond.instanceMethod y_Mo_state ∈ TB := TB_in 1269 (by decide +kernel) rfl
set_option maxRecDepth 100000 in
theorem m_1192 : Cond.selects R_Mo y_Mo_state y_Mo_state ∈ TB := TB_in 1270 (by decide +kernel) rfl
set_option maxRecDepth 100000 in
theorem m_1193 : Cond.code y_Mo_state prog_11_method_57_code 2 (some .int) ∈ TB := TB_in 1271 (by decide +kernel) rfl
set_option maxRecDepth 100000 in
theorem m_1194 : Cond.methodLink R_La 105 y_Mo_context ∈ TB := TB_in 1272 (by decide +kernel) rfl
set_option maxRecDepth 100000 in
theorem m_1195 : Cond.instanceMethod y_Mo_context ∈ TB := TB_in 1273 (by decide +kernel) rfl
set_option maxRecDepth 100000 in
theorem m_1196 : Cond.selects R_Mo y_Mo_context y_Mo_context ∈ TB := TB_in 1274 (by decide +kernel) rfl
set_option maxRecDepth 100000 in
theorem m_1197 : Cond.code y_Mo_context prog_11_method_58_code 3 (some .int) ∈ TB := TB_in 1275 (by decide +kernel) rfl
set_option maxRecDepth 100000 in
theorem m_1198 : Cond.methodLink R_La 108 y_Mo_record ∈ TB := TB_in 1276 (by decide +kernel) rfl
set_option maxRecDepth 100000 in
theorem m_1199 : Cond.instanceMethod y_Mo_record ∈ TB := TB_in 1277 (by decide +kernel) rfl
set_option maxRecDepth 100000 in
theorem m_1200 : Cond.selects R_Mo y_Mo_record y_Mo_record ∈ TB := TB_in 1278 (by decide +kernel) rfl
set_option maxRecDepth 100000 in
theorem m_1201 : Cond.code y_Mo_record prog_11_method_59_code 3 (some .int) ∈ TB := TB_in 1279 (by decide +kernel) rfl
set_option maxRecDepth 100000 in
theorem m_1202 : Cond.constantLong R_La 49 (4294967295 : Int64) ∈ TB := TB_in 1280 (by decide +kernel) rfl
