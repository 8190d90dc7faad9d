/-! decode rows, by program (wip/lay.py) -/
theorem d_Page_init_0 : decode prog_6_method_1_code 0 = .ok (.aload_n 0, 1) := by decide +kernel
theorem d_Page_init_1 : decode prog_6_method_1_code 1 = .ok (.invokespecial 3, 3) := by decide +kernel
theorem d_Page_init_4 : decode prog_6_method_1_code 4 = .ok (.aload_n 0, 1) := by decide +kernel
theorem d_Page_init_5 : decode prog_6_method_1_code 5 = .ok (.iload_n 1, 1) := by decide +kernel
theorem d_Page_init_6 : decode prog_6_method_1_code 6 = .ok (.putfield 9, 3) := by decide +kernel
theorem d_Page_init_9 : decode prog_6_method_1_code 9 = .ok (.aload_n 0, 1) := by decide +kernel
theorem d_Page_init_10 : decode prog_6_method_1_code 10 = .ok (.iload_n 1, 1) := by decide +kernel
theorem d_Page_init_11 : decode prog_6_method_1_code 11 = .ok (.newarray .int, 2) := by decide +kernel
theorem d_Page_init_13 : decode prog_6_method_1_code 13 = .ok (.putfield 15, 3) := by decide +kernel
theorem d_Page_init_16 : decode prog_6_method_1_code 16 = .ok (.aload_n 0, 1) := by decide +kernel
theorem d_Page_init_17 : decode prog_6_method_1_code 17 = .ok (.iload_n 1, 1) := by decide +kernel
theorem d_Page_init_18 : decode prog_6_method_1_code 18 = .ok (.newarray .int, 2) := by decide +kernel
theorem d_Page_init_20 : decode prog_6_method_1_code 20 = .ok (.putfield 19, 3) := by decide +kernel
theorem d_Page_init_23 : decode prog_6_method_1_code 23 = .ok (.aload_n 0, 1) := by decide +kernel
theorem d_Page_init_24 : decode prog_6_method_1_code 24 = .ok (.iload_n 1, 1) := by decide +kernel
theorem d_Page_init_25 : decode prog_6_method_1_code 25 = .ok (.bipush 10, 2) := by decide +kernel
theorem d_Page_init_27 : decode prog_6_method_1_code 27 = .ok (.imul, 1) := by decide +kernel
theorem d_Page_init_28 : decode prog_6_method_1_code 28 = .ok (.newarray .int, 2) := by decide +kernel
theorem d_Page_init_30 : decode prog_6_method_1_code 30 = .ok (.putfield 22, 3) := by decide +kernel
theorem d_Page_init_33 : decode prog_6_method_1_code 33 = .ok (.aload_n 0, 1) := by decide +kernel
theorem d_Page_init_34 : decode prog_6_method_1_code 34 = .ok (.getfield 15, 3) := by decide +kernel
theorem d_Page_init_37 : decode prog_6_method_1_code 37 = .ok (.bipush 16, 2) := by decide +kernel
theorem d_Page_init_39 : decode prog_6_method_1_code 39 = .ok (.invokestatic 25, 3) := by decide +kernel
theorem d_Page_init_42 : decode prog_6_method_1_code 42 = .ok (.aload_n 0, 1) := by decide +kernel
theorem d_Page_init_43 : decode prog_6_method_1_code 43 = .ok (.getfield 19, 3) := by decide +kernel
theorem d_Page_init_46 : decode prog_6_method_1_code 46 = .ok (.bipush 10, 2) := by decide +kernel
theorem d_Page_init_48 : decode prog_6_method_1_code 48 = .ok (.invokestatic 25, 3) := by decide +kernel
theorem d_Page_init_51 : decode prog_6_method_1_code 51 = .ok (.return_, 1) := by decide +kernel
theorem d_Repeat_init_0 : decode prog_7_method_1_code 0 = .ok (.aload_n 0, 1) := by decide +kernel
theorem d_Repeat_init_1 : decode prog_7_method_1_code 1 = .ok (.invokespecial 3, 3) := by decide +kernel
theorem d_Repeat_init_4 : decode prog_7_method_1_code 4 = .ok (.return_, 1) := by decide +kernel
theorem d_Page_value_0 : decode prog_6_method_7_code 0 = .ok (.iload_n 1, 1) := by decide +kernel
theorem d_Page_value_1 : decode prog_6_method_7_code 1 = .ok (.ifCond .lt 25, 3) := by decide +kernel
theorem d_Page_value_4 : decode prog_6_method_7_code 4 = .ok (.iload_n 1, 1) := by decide +kernel
theorem d_Page_value_5 : decode prog_6_method_7_code 5 = .ok (.aload_n 0, 1) := by decide +kernel
theorem d_Page_value_6 : decode prog_6_method_7_code 6 = .ok (.getfield 9, 3) := by decide +kernel
theorem d_Page_value_9 : decode prog_6_method_7_code 9 = .ok (.if_icmp .ge 17, 3) := by decide +kernel
theorem d_Page_value_12 : decode prog_6_method_7_code 12 = .ok (.iload_n 2, 1) := by decide +kernel
theorem d_Page_value_13 : decode prog_6_method_7_code 13 = .ok (.ifCond .lt 13, 3) := by decide +kernel
theorem d_Page_value_16 : decode prog_6_method_7_code 16 = .ok (.iload_n 2, 1) := by decide +kernel
theorem d_Page_value_17 : decode prog_6_method_7_code 17 = .ok (.bipush 10, 2) := by decide +kernel
theorem d_Page_value_19 : decode prog_6_method_7_code 19 = .ok (.if_icmp .ge 7, 3) := by decide +kernel
theorem d_Page_value_22 : decode prog_6_method_7_code 22 = .ok (.iconst 1, 1) := by decide +kernel
theorem d_Page_value_23 : decode prog_6_method_7_code 23 = .ok (.goto 4, 3) := by decide +kernel
theorem d_Page_value_26 : decode prog_6_method_7_code 26 = .ok (.iconst 0, 1) := by decide +kernel
theorem d_Page_value_27 : decode prog_6_method_7_code 27 = .ok (.istore_n 3, 1) := by decide +kernel
theorem d_Page_value_28 : decode prog_6_method_7_code 28 = .ok (.iload_n 3, 1) := by decide +kernel
theorem d_Page_value_29 : decode prog_6_method_7_code 29 = .ok (.ifCond .eq 17, 3) := by decide +kernel
theorem d_Page_value_32 : decode prog_6_method_7_code 32 = .ok (.aload_n 0, 1) := by decide +kernel
theorem d_Page_value_33 : decode prog_6_method_7_code 33 = .ok (.getfield 22, 3) := by decide +kernel
theorem d_Page_value_36 : decode prog_6_method_7_code 36 = .ok (.iload_n 1, 1) := by decide +kernel
theorem d_Page_value_37 : decode prog_6_method_7_code 37 = .ok (.bipush 10, 2) := by decide +kernel
theorem d_Page_value_39 : decode prog_6_method_7_code 39 = .ok (.imul, 1) := by decide +kernel
theorem d_Page_value_40 : decode prog_6_method_7_code 40 = .ok (.iload_n 2, 1) := by decide +kernel
theorem d_Page_value_41 : decode prog_6_method_7_code 41 = .ok (.iadd, 1) := by decide +kernel
theorem d_Page_value_42 : decode prog_6_method_7_code 42 = .ok (.iaload, 1) := by decide +kernel
theorem d_Page_value_43 : decode prog_6_method_7_code 43 = .ok (.goto 4, 3) := by decide +kernel
theorem d_Page_value_46 : decode prog_6_method_7_code 46 = .ok (.iconst 0, 1) := by decide +kernel
theorem d_Page_value_47 : decode prog_6_method_7_code 47 = .ok (.ireturn, 1) := by decide +kernel
theorem d_Page_has_0 : decode prog_6_method_8_code 0 = .ok (.aload_n 0, 1) := by decide +kernel
theorem d_Page_has_1 : decode prog_6_method_8_code 1 = .ok (.iload_n 1, 1) := by decide +kernel
theorem d_Page_has_2 : decode prog_6_method_8_code 2 = .ok (.iload_n 2, 1) := by decide +kernel
theorem d_Page_has_3 : decode prog_6_method_8_code 3 = .ok (.invokevirtual 38, 3) := by decide +kernel
theorem d_Page_has_6 : decode prog_6_method_8_code 6 = .ok (.ifCond .eq 7, 3) := by decide +kernel
theorem d_Page_has_9 : decode prog_6_method_8_code 9 = .ok (.iconst 1, 1) := by decide +kernel
theorem d_Page_has_10 : decode prog_6_method_8_code 10 = .ok (.goto 4, 3) := by decide +kernel
theorem d_Page_has_13 : decode prog_6_method_8_code 13 = .ok (.iconst 0, 1) := by decide +kernel
theorem d_Page_has_14 : decode prog_6_method_8_code 14 = .ok (.ireturn, 1) := by decide +kernel
theorem d_Page_lastWith_0 : decode prog_6_method_11_code 0 = .ok (.iload_n 1, 1) := by decide +kernel
theorem d_Page_lastWith_1 : decode prog_6_method_11_code 1 = .ok (.ifCond .lt 9, 3) := by decide +kernel
theorem d_Page_lastWith_4 : decode prog_6_method_11_code 4 = .ok (.iload_n 1, 1) := by decide +kernel
theorem d_Page_lastWith_5 : decode prog_6_method_11_code 5 = .ok (.bipush 10, 2) := by decide +kernel
theorem d_Page_lastWith_7 : decode prog_6_method_11_code 7 = .ok (.if_icmp .lt 5, 3) := by decide +kernel
theorem d_Page_lastWith_10 : decode prog_6_method_11_code 10 = .ok (.iconst (-1), 1) := by decide +kernel
theorem d_Page_lastWith_11 : decode prog_6_method_11_code 11 = .ok (.ireturn, 1) := by decide +kernel
theorem d_Page_lastWith_12 : decode prog_6_method_11_code 12 = .ok (.iload_n 3, 1) := by decide +kernel
theorem d_Page_lastWith_13 : decode prog_6_method_11_code 13 = .ok (.aload_n 0, 1) := by decide +kernel
theorem d_Page_lastWith_14 : decode prog_6_method_11_code 14 = .ok (.getfield 9, 3) := by decide +kernel
theorem d_Page_lastWith_17 : decode prog_6_method_11_code 17 = .ok (.iconst 1, 1) := by decide +kernel
theorem d_Page_lastWith_18 : decode prog_6_method_11_code 18 = .ok (.isub, 1) := by decide +kernel
theorem d_Page_lastWith_19 : decode prog_6_method_11_code 19 = .ok (.invokestatic 46, 3) := by decide +kernel
theorem d_Page_lastWith_22 : decode prog_6_method_11_code 22 = .ok (.istore 4, 2) := by decide +kernel
theorem d_Page_lastWith_24 : decode prog_6_method_11_code 24 = .ok (.iload 4, 2) := by decide +kernel
theorem d_Page_lastWith_26 : decode prog_6_method_11_code 26 = .ok (.iload_n 2, 1) := by decide +kernel
theorem d_Page_lastWith_27 : decode prog_6_method_11_code 27 = .ok (.iconst 0, 1) := by decide +kernel
theorem d_Page_lastWith_28 : decode prog_6_method_11_code 28 = .ok (.invokestatic 51, 3) := by decide +kernel
theorem d_Page_lastWith_31 : decode prog_6_method_11_code 31 = .ok (.if_icmp .lt 27, 3) := by decide +kernel
theorem d_Page_lastWith_34 : decode prog_6_method_11_code 34 = .ok (.aload_n 0, 1) := by decide +kernel
theorem d_Page_lastWith_35 : decode prog_6_method_11_code 35 = .ok (.getfield 22, 3) := by decide +kernel
theorem d_Page_lastWith_38 : decode prog_6_method_11_code 38 = .ok (.iload 4, 2) := by decide +kernel
theorem d_Page_lastWith_40 : decode prog_6_method_11_code 40 = .ok (.bipush 10, 2) := by decide +kernel
theorem d_Page_lastWith_42 : decode prog_6_method_11_code 42 = .ok (.imul, 1) := by decide +kernel
theorem d_Page_lastWith_43 : decode prog_6_method_11_code 43 = .ok (.iload_n 1, 1) := by decide +kernel
theorem d_Page_lastWith_44 : decode prog_6_method_11_code 44 = .ok (.iadd, 1) := by decide +kernel
theorem d_Page_lastWith_45 : decode prog_6_method_11_code 45 = .ok (.iaload, 1) := by decide +kernel
theorem d_Page_lastWith_46 : decode prog_6_method_11_code 46 = .ok (.ifCond .eq 6, 3) := by decide +kernel
theorem d_Page_lastWith_49 : decode prog_6_method_11_code 49 = .ok (.iload 4, 2) := by decide +kernel
theorem d_Page_lastWith_51 : decode prog_6_method_11_code 51 = .ok (.ireturn, 1) := by decide +kernel
theorem d_Page_lastWith_52 : decode prog_6_method_11_code 52 = .ok (.iinc 4 (-1), 3) := by decide +kernel
theorem d_Page_lastWith_55 : decode prog_6_method_11_code 55 = .ok (.goto (-31), 3) := by decide +kernel
theorem d_Page_lastWith_58 : decode prog_6_method_11_code 58 = .ok (.iconst (-1), 1) := by decide +kernel
theorem d_Page_lastWith_59 : decode prog_6_method_11_code 59 = .ok (.ireturn, 1) := by decide +kernel
theorem d_Repeat_hasEndings_0 : decode prog_7_method_2_code 0 = .ok (.aload_n 0, 1) := by decide +kernel
theorem d_Repeat_hasEndings_1 : decode prog_7_method_2_code 1 = .ok (.getfield 9, 3) := by decide +kernel
theorem d_Repeat_hasEndings_4 : decode prog_7_method_2_code 4 = .ok (.iconst (-1), 1) := by decide +kernel
theorem d_Repeat_hasEndings_5 : decode prog_7_method_2_code 5 = .ok (.if_icmp .eq 7, 3) := by decide +kernel
theorem d_Repeat_hasEndings_8 : decode prog_7_method_2_code 8 = .ok (.iconst 1, 1) := by decide +kernel
theorem d_Repeat_hasEndings_9 : decode prog_7_method_2_code 9 = .ok (.goto 4, 3) := by decide +kernel
theorem d_Repeat_hasEndings_12 : decode prog_7_method_2_code 12 = .ok (.iconst 0, 1) := by decide +kernel
theorem d_Repeat_hasEndings_13 : decode prog_7_method_2_code 13 = .ok (.ireturn, 1) := by decide +kernel
theorem d_Repeat_spans_0 : decode prog_7_method_3_code 0 = .ok (.iload_n 1, 1) := by decide +kernel
theorem d_Repeat_spans_1 : decode prog_7_method_3_code 1 = .ok (.aload_n 0, 1) := by decide +kernel
theorem d_Repeat_spans_2 : decode prog_7_method_3_code 2 = .ok (.getfield 15, 3) := by decide +kernel
theorem d_Repeat_spans_5 : decode prog_7_method_3_code 5 = .ok (.if_icmp .lt 15, 3) := by decide +kernel
theorem d_Repeat_spans_8 : decode prog_7_method_3_code 8 = .ok (.iload_n 1, 1) := by decide +kernel
theorem d_Repeat_spans_9 : decode prog_7_method_3_code 9 = .ok (.aload_n 0, 1) := by decide +kernel
theorem d_Repeat_spans_10 : decode prog_7_method_3_code 10 = .ok (.getfield 18, 3) := by decide +kernel
theorem d_Repeat_spans_13 : decode prog_7_method_3_code 13 = .ok (.if_icmp .gt 7, 3) := by decide +kernel
theorem d_Repeat_spans_16 : decode prog_7_method_3_code 16 = .ok (.iconst 1, 1) := by decide +kernel
theorem d_Repeat_spans_17 : decode prog_7_method_3_code 17 = .ok (.goto 4, 3) := by decide +kernel
theorem d_Repeat_spans_20 : decode prog_7_method_3_code 20 = .ok (.iconst 0, 1) := by decide +kernel
theorem d_Repeat_spans_21 : decode prog_7_method_3_code 21 = .ok (.ireturn, 1) := by decide +kernel
theorem d_Page_hasPass_0 : decode prog_6_method_9_code 0 = .ok (.aload_n 0, 1) := by decide +kernel
theorem d_Page_hasPass_1 : decode prog_6_method_9_code 1 = .ok (.iload_n 1, 1) := by decide +kernel
theorem d_Page_hasPass_2 : decode prog_6_method_9_code 2 = .ok (.iconst 2, 1) := by decide +kernel
theorem d_Page_hasPass_3 : decode prog_6_method_9_code 3 = .ok (.invokevirtual 38, 3) := by decide +kernel
theorem d_Page_hasPass_6 : decode prog_6_method_9_code 6 = .ok (.iload_n 2, 1) := by decide +kernel
theorem d_Page_hasPass_7 : decode prog_6_method_9_code 7 = .ok (.invokestatic 42, 3) := by decide +kernel
theorem d_Page_hasPass_10 : decode prog_6_method_9_code 10 = .ok (.iand, 1) := by decide +kernel
theorem d_Page_hasPass_11 : decode prog_6_method_9_code 11 = .ok (.ifCond .eq 7, 3) := by decide +kernel
theorem d_Page_hasPass_14 : decode prog_6_method_9_code 14 = .ok (.iconst 1, 1) := by decide +kernel
theorem d_Page_hasPass_15 : decode prog_6_method_9_code 15 = .ok (.goto 4, 3) := by decide +kernel
theorem d_Page_hasPass_18 : decode prog_6_method_9_code 18 = .ok (.iconst 0, 1) := by decide +kernel
theorem d_Page_hasPass_19 : decode prog_6_method_9_code 19 = .ok (.ireturn, 1) := by decide +kernel
theorem d_Page_passBit_0 : decode prog_6_method_10_code 0 = .ok (.iconst 1, 1) := by decide +kernel
theorem d_Page_passBit_1 : decode prog_6_method_10_code 1 = .ok (.iload_n 0, 1) := by decide +kernel
theorem d_Page_passBit_2 : decode prog_6_method_10_code 2 = .ok (.iconst 1, 1) := by decide +kernel
theorem d_Page_passBit_3 : decode prog_6_method_10_code 3 = .ok (.isub, 1) := by decide +kernel
theorem d_Page_passBit_4 : decode prog_6_method_10_code 4 = .ok (.ishl, 1) := by decide +kernel
theorem d_Page_passBit_5 : decode prog_6_method_10_code 5 = .ok (.ireturn, 1) := by decide +kernel
theorem d_Jump_target_0 : decode prog_3_method_5_code 0 = .ok (.aload_n 0, 1) := by decide +kernel
theorem d_Jump_target_1 : decode prog_3_method_5_code 1 = .ok (.iload_n 1, 1) := by decide +kernel
theorem d_Jump_target_2 : decode prog_3_method_5_code 2 = .ok (.bipush 7, 2) := by decide +kernel
theorem d_Jump_target_4 : decode prog_3_method_5_code 4 = .ok (.invokevirtual 9, 3) := by decide +kernel
theorem d_Jump_target_7 : decode prog_3_method_5_code 7 = .ok (.invokestatic 15, 3) := by decide +kernel
theorem d_Jump_target_10 : decode prog_3_method_5_code 10 = .ok (.ifCond .eq 13, 3) := by decide +kernel
theorem d_Jump_target_13 : decode prog_3_method_5_code 13 = .ok (.aload_n 0, 1) := by decide +kernel
theorem d_Jump_target_14 : decode prog_3_method_5_code 14 = .ok (.iconst 3, 1) := by decide +kernel
theorem d_Jump_target_15 : decode prog_3_method_5_code 15 = .ok (.iconst 0, 1) := by decide +kernel
theorem d_Jump_target_16 : decode prog_3_method_5_code 16 = .ok (.iload_n 1, 1) := by decide +kernel
theorem d_Jump_target_17 : decode prog_3_method_5_code 17 = .ok (.invokevirtual 21, 3) := by decide +kernel
theorem d_Jump_target_20 : decode prog_3_method_5_code 20 = .ok (.goto 4, 3) := by decide +kernel
theorem d_Jump_target_23 : decode prog_3_method_5_code 23 = .ok (.iconst 0, 1) := by decide +kernel
theorem d_Jump_target_24 : decode prog_3_method_5_code 24 = .ok (.ireturn, 1) := by decide +kernel
theorem d_Jump_isToSegno_0 : decode prog_3_method_2_code 0 = .ok (.iload_n 0, 1) := by decide +kernel
theorem d_Jump_isToSegno_1 : decode prog_3_method_2_code 1 = .ok (.iconst 1, 1) := by decide +kernel
theorem d_Jump_isToSegno_2 : decode prog_3_method_2_code 2 = .ok (.isub, 1) := by decide +kernel
theorem d_Jump_isToSegno_3 : decode prog_3_method_2_code 3 = .ok (.iconst 2, 1) := by decide +kernel
theorem d_Jump_isToSegno_4 : decode prog_3_method_2_code 4 = .ok (.irem, 1) := by decide +kernel
theorem d_Jump_isToSegno_5 : decode prog_3_method_2_code 5 = .ok (.iconst 1, 1) := by decide +kernel
theorem d_Jump_isToSegno_6 : decode prog_3_method_2_code 6 = .ok (.if_icmp .ne 7, 3) := by decide +kernel
theorem d_Jump_isToSegno_9 : decode prog_3_method_2_code 9 = .ok (.iconst 1, 1) := by decide +kernel
theorem d_Jump_isToSegno_10 : decode prog_3_method_2_code 10 = .ok (.goto 4, 3) := by decide +kernel
theorem d_Jump_isToSegno_13 : decode prog_3_method_2_code 13 = .ok (.iconst 0, 1) := by decide +kernel
theorem d_Jump_isToSegno_14 : decode prog_3_method_2_code 14 = .ok (.ireturn, 1) := by decide +kernel
theorem d_Jump_way_0 : decode prog_3_method_3_code 0 = .ok (.iload_n 0, 1) := by decide +kernel
theorem d_Jump_way_1 : decode prog_3_method_3_code 1 = .ok (.iconst 1, 1) := by decide +kernel
theorem d_Jump_way_2 : decode prog_3_method_3_code 2 = .ok (.isub, 1) := by decide +kernel
theorem d_Jump_way_3 : decode prog_3_method_3_code 3 = .ok (.iconst 2, 1) := by decide +kernel
theorem d_Jump_way_4 : decode prog_3_method_3_code 4 = .ok (.idiv, 1) := by decide +kernel
theorem d_Jump_way_5 : decode prog_3_method_3_code 5 = .ok (.iconst 3, 1) := by decide +kernel
theorem d_Jump_way_6 : decode prog_3_method_3_code 6 = .ok (.irem, 1) := by decide +kernel
theorem d_Jump_way_7 : decode prog_3_method_3_code 7 = .ok (.ireturn, 1) := by decide +kernel
theorem d_Jump_hasRepeats_0 : decode prog_3_method_4_code 0 = .ok (.iload_n 0, 1) := by decide +kernel
theorem d_Jump_hasRepeats_1 : decode prog_3_method_4_code 1 = .ok (.bipush 6, 2) := by decide +kernel
theorem d_Jump_hasRepeats_3 : decode prog_3_method_4_code 3 = .ok (.if_icmp .le 7, 3) := by decide +kernel
theorem d_Jump_hasRepeats_6 : decode prog_3_method_4_code 6 = .ok (.iconst 1, 1) := by decide +kernel
theorem d_Jump_hasRepeats_7 : decode prog_3_method_4_code 7 = .ok (.goto 4, 3) := by decide +kernel
theorem d_Jump_hasRepeats_10 : decode prog_3_method_4_code 10 = .ok (.iconst 0, 1) := by decide +kernel
theorem d_Jump_hasRepeats_11 : decode prog_3_method_4_code 11 = .ok (.ireturn, 1) := by decide +kernel
theorem d_Page_hasBar_0 : decode prog_6_method_2_code 0 = .ok (.iload_n 1, 1) := by decide +kernel
theorem d_Page_hasBar_1 : decode prog_6_method_2_code 1 = .ok (.ifCond .lt 15, 3) := by decide +kernel
theorem d_Page_hasBar_4 : decode prog_6_method_2_code 4 = .ok (.iload_n 1, 1) := by decide +kernel
theorem d_Page_hasBar_5 : decode prog_6_method_2_code 5 = .ok (.aload_n 0, 1) := by decide +kernel
theorem d_Page_hasBar_6 : decode prog_6_method_2_code 6 = .ok (.getfield 9, 3) := by decide +kernel
theorem d_Page_hasBar_9 : decode prog_6_method_2_code 9 = .ok (.if_icmp .ge 7, 3) := by decide +kernel
theorem d_Page_hasBar_12 : decode prog_6_method_2_code 12 = .ok (.iconst 1, 1) := by decide +kernel
theorem d_Page_hasBar_13 : decode prog_6_method_2_code 13 = .ok (.goto 4, 3) := by decide +kernel
theorem d_Page_hasBar_16 : decode prog_6_method_2_code 16 = .ok (.iconst 0, 1) := by decide +kernel
theorem d_Page_hasBar_17 : decode prog_6_method_2_code 17 = .ok (.ireturn, 1) := by decide +kernel
theorem d_Note_end_0 : decode prog_4_method_2_code 0 = .ok (.aload_n 0, 1) := by decide +kernel
theorem d_Note_end_1 : decode prog_4_method_2_code 1 = .ok (.getfield 16, 3) := by decide +kernel
theorem d_Note_end_4 : decode prog_4_method_2_code 4 = .ok (.aload_n 0, 1) := by decide +kernel
theorem d_Note_end_5 : decode prog_4_method_2_code 5 = .ok (.getfield 19, 3) := by decide +kernel
theorem d_Note_end_8 : decode prog_4_method_2_code 8 = .ok (.iadd, 1) := by decide +kernel
theorem d_Note_end_9 : decode prog_4_method_2_code 9 = .ok (.ireturn, 1) := by decide +kernel
theorem d_Page_shape_0 : decode prog_6_method_3_code 0 = .ok (.aload_n 0, 1) := by decide +kernel
theorem d_Page_shape_1 : decode prog_6_method_3_code 1 = .ok (.iload_n 1, 1) := by decide +kernel
theorem d_Page_shape_2 : decode prog_6_method_3_code 2 = .ok (.invokevirtual 31, 3) := by decide +kernel
theorem d_Page_shape_5 : decode prog_6_method_3_code 5 = .ok (.ifCond .eq 17, 3) := by decide +kernel
theorem d_Page_shape_8 : decode prog_6_method_3_code 8 = .ok (.aload_n 0, 1) := by decide +kernel
theorem d_Page_shape_9 : decode prog_6_method_3_code 9 = .ok (.getfield 15, 3) := by decide +kernel
theorem d_Page_shape_12 : decode prog_6_method_3_code 12 = .ok (.iload_n 1, 1) := by decide +kernel
theorem d_Page_shape_13 : decode prog_6_method_3_code 13 = .ok (.iload_n 2, 1) := by decide +kernel
theorem d_Page_shape_14 : decode prog_6_method_3_code 14 = .ok (.iastore, 1) := by decide +kernel
theorem d_Page_shape_15 : decode prog_6_method_3_code 15 = .ok (.aload_n 0, 1) := by decide +kernel
theorem d_Page_shape_16 : decode prog_6_method_3_code 16 = .ok (.getfield 19, 3) := by decide +kernel
theorem d_Page_shape_19 : decode prog_6_method_3_code 19 = .ok (.iload_n 1, 1) := by decide +kernel
theorem d_Page_shape_20 : decode prog_6_method_3_code 20 = .ok (.iload_n 3, 1) := by decide +kernel
theorem d_Page_shape_21 : decode prog_6_method_3_code 21 = .ok (.iastore, 1) := by decide +kernel
theorem d_Page_shape_22 : decode prog_6_method_3_code 22 = .ok (.return_, 1) := by decide +kernel
theorem d_Page_put_0 : decode prog_6_method_6_code 0 = .ok (.aload_n 0, 1) := by decide +kernel
theorem d_Page_put_1 : decode prog_6_method_6_code 1 = .ok (.iload_n 1, 1) := by decide +kernel
theorem d_Page_put_2 : decode prog_6_method_6_code 2 = .ok (.invokevirtual 31, 3) := by decide +kernel
theorem d_Page_put_5 : decode prog_6_method_6_code 5 = .ok (.ifCond .eq 22, 3) := by decide +kernel
theorem d_Page_put_8 : decode prog_6_method_6_code 8 = .ok (.iload_n 2, 1) := by decide +kernel
theorem d_Page_put_9 : decode prog_6_method_6_code 9 = .ok (.invokestatic 35, 3) := by decide +kernel
theorem d_Page_put_12 : decode prog_6_method_6_code 12 = .ok (.ifCond .eq 15, 3) := by decide +kernel
theorem d_Page_put_15 : decode prog_6_method_6_code 15 = .ok (.aload_n 0, 1) := by decide +kernel
theorem d_Page_put_16 : decode prog_6_method_6_code 16 = .ok (.getfield 22, 3) := by decide +kernel
theorem d_Page_put_19 : decode prog_6_method_6_code 19 = .ok (.iload_n 1, 1) := by decide +kernel
theorem d_Page_put_20 : decode prog_6_method_6_code 20 = .ok (.bipush 10, 2) := by decide +kernel
theorem d_Page_put_22 : decode prog_6_method_6_code 22 = .ok (.imul, 1) := by decide +kernel
theorem d_Page_put_23 : decode prog_6_method_6_code 23 = .ok (.iload_n 2, 1) := by decide +kernel
theorem d_Page_put_24 : decode prog_6_method_6_code 24 = .ok (.iadd, 1) := by decide +kernel
theorem d_Page_put_25 : decode prog_6_method_6_code 25 = .ok (.iload_n 3, 1) := by decide +kernel
theorem d_Page_put_26 : decode prog_6_method_6_code 26 = .ok (.iastore, 1) := by decide +kernel
theorem d_Page_put_27 : decode prog_6_method_6_code 27 = .ok (.return_, 1) := by decide +kernel
theorem d_Page_lengthOf_0 : decode prog_6_method_4_code 0 = .ok (.aload_n 0, 1) := by decide +kernel
theorem d_Page_lengthOf_1 : decode prog_6_method_4_code 1 = .ok (.iload_n 1, 1) := by decide +kernel
theorem d_Page_lengthOf_2 : decode prog_6_method_4_code 2 = .ok (.invokevirtual 31, 3) := by decide +kernel
theorem d_Page_lengthOf_5 : decode prog_6_method_4_code 5 = .ok (.ifCond .eq 12, 3) := by decide +kernel
theorem d_Page_lengthOf_8 : decode prog_6_method_4_code 8 = .ok (.aload_n 0, 1) := by decide +kernel
theorem d_Page_lengthOf_9 : decode prog_6_method_4_code 9 = .ok (.getfield 15, 3) := by decide +kernel
theorem d_Page_lengthOf_12 : decode prog_6_method_4_code 12 = .ok (.iload_n 1, 1) := by decide +kernel
theorem d_Page_lengthOf_13 : decode prog_6_method_4_code 13 = .ok (.iaload, 1) := by decide +kernel
theorem d_Page_lengthOf_14 : decode prog_6_method_4_code 14 = .ok (.goto 4, 3) := by decide +kernel
theorem d_Page_lengthOf_17 : decode prog_6_method_4_code 17 = .ok (.iconst 0, 1) := by decide +kernel
theorem d_Page_lengthOf_18 : decode prog_6_method_4_code 18 = .ok (.ireturn, 1) := by decide +kernel
theorem d_Note_isIn_0 : decode prog_4_method_3_code 0 = .ok (.aload_n 0, 1) := by decide +kernel
theorem d_Note_isIn_1 : decode prog_4_method_3_code 1 = .ok (.getfield 7, 3) := by decide +kernel
theorem d_Note_isIn_4 : decode prog_4_method_3_code 4 = .ok (.iload_n 1, 1) := by decide +kernel
theorem d_Note_isIn_5 : decode prog_4_method_3_code 5 = .ok (.if_icmp .ne 15, 3) := by decide +kernel
theorem d_Note_isIn_8 : decode prog_4_method_3_code 8 = .ok (.aload_n 0, 1) := by decide +kernel
theorem d_Note_isIn_9 : decode prog_4_method_3_code 9 = .ok (.getfield 13, 3) := by decide +kernel
theorem d_Note_isIn_12 : decode prog_4_method_3_code 12 = .ok (.iload_n 2, 1) := by decide +kernel
theorem d_Note_isIn_13 : decode prog_4_method_3_code 13 = .ok (.if_icmp .ne 7, 3) := by decide +kernel
theorem d_Note_isIn_16 : decode prog_4_method_3_code 16 = .ok (.iconst 1, 1) := by decide +kernel
theorem d_Note_isIn_17 : decode prog_4_method_3_code 17 = .ok (.goto 4, 3) := by decide +kernel
theorem d_Note_isIn_20 : decode prog_4_method_3_code 20 = .ok (.iconst 0, 1) := by decide +kernel
theorem d_Note_isIn_21 : decode prog_4_method_3_code 21 = .ok (.ireturn, 1) := by decide +kernel
theorem d_Note_init_0 : decode prog_4_method_1_code 0 = .ok (.aload_n 0, 1) := by decide +kernel
theorem d_Note_init_1 : decode prog_4_method_1_code 1 = .ok (.invokespecial 1, 3) := by decide +kernel
theorem d_Note_init_4 : decode prog_4_method_1_code 4 = .ok (.aload_n 0, 1) := by decide +kernel
theorem d_Note_init_5 : decode prog_4_method_1_code 5 = .ok (.iload_n 1, 1) := by decide +kernel
theorem d_Note_init_6 : decode prog_4_method_1_code 6 = .ok (.putfield 7, 3) := by decide +kernel
theorem d_Note_init_9 : decode prog_4_method_1_code 9 = .ok (.aload_n 0, 1) := by decide +kernel
theorem d_Note_init_10 : decode prog_4_method_1_code 10 = .ok (.iload_n 2, 1) := by decide +kernel
theorem d_Note_init_11 : decode prog_4_method_1_code 11 = .ok (.putfield 13, 3) := by decide +kernel
theorem d_Note_init_14 : decode prog_4_method_1_code 14 = .ok (.aload_n 0, 1) := by decide +kernel
theorem d_Note_init_15 : decode prog_4_method_1_code 15 = .ok (.iload_n 3, 1) := by decide +kernel
theorem d_Note_init_16 : decode prog_4_method_1_code 16 = .ok (.putfield 16, 3) := by decide +kernel
theorem d_Note_init_19 : decode prog_4_method_1_code 19 = .ok (.aload_n 0, 1) := by decide +kernel
theorem d_Note_init_20 : decode prog_4_method_1_code 20 = .ok (.iload 4, 2) := by decide +kernel
theorem d_Note_init_22 : decode prog_4_method_1_code 22 = .ok (.putfield 19, 3) := by decide +kernel
theorem d_Note_init_25 : decode prog_4_method_1_code 25 = .ok (.aload_n 0, 1) := by decide +kernel
theorem d_Note_init_26 : decode prog_4_method_1_code 26 = .ok (.iload 5, 2) := by decide +kernel
theorem d_Note_init_28 : decode prog_4_method_1_code 28 = .ok (.putfield 22, 3) := by decide +kernel
theorem d_Note_init_31 : decode prog_4_method_1_code 31 = .ok (.aload_n 0, 1) := by decide +kernel
theorem d_Note_init_32 : decode prog_4_method_1_code 32 = .ok (.iload 6, 2) := by decide +kernel
theorem d_Note_init_34 : decode prog_4_method_1_code 34 = .ok (.putfield 25, 3) := by decide +kernel
theorem d_Note_init_37 : decode prog_4_method_1_code 37 = .ok (.return_, 1) := by decide +kernel
theorem d_Note_isBehind_0 : decode prog_4_method_5_code 0 = .ok (.aload_n 0, 1) := by decide +kernel
theorem d_Note_isBehind_1 : decode prog_4_method_5_code 1 = .ok (.getfield 7, 3) := by decide +kernel
theorem d_Note_isBehind_4 : decode prog_4_method_5_code 4 = .ok (.aload_n 1, 1) := by decide +kernel
theorem d_Note_isBehind_5 : decode prog_4_method_5_code 5 = .ok (.getfield 7, 3) := by decide +kernel
theorem d_Note_isBehind_8 : decode prog_4_method_5_code 8 = .ok (.if_icmp .eq 20, 3) := by decide +kernel
theorem d_Note_isBehind_11 : decode prog_4_method_5_code 11 = .ok (.aload_n 0, 1) := by decide +kernel
theorem d_Note_isBehind_12 : decode prog_4_method_5_code 12 = .ok (.getfield 7, 3) := by decide +kernel
theorem d_Note_isBehind_15 : decode prog_4_method_5_code 15 = .ok (.aload_n 1, 1) := by decide +kernel
theorem d_Note_isBehind_16 : decode prog_4_method_5_code 16 = .ok (.getfield 7, 3) := by decide +kernel
theorem d_Note_isBehind_19 : decode prog_4_method_5_code 19 = .ok (.if_icmp .le 7, 3) := by decide +kernel
theorem d_Note_isBehind_22 : decode prog_4_method_5_code 22 = .ok (.iconst 1, 1) := by decide +kernel
theorem d_Note_isBehind_23 : decode prog_4_method_5_code 23 = .ok (.goto 4, 3) := by decide +kernel
theorem d_Note_isBehind_26 : decode prog_4_method_5_code 26 = .ok (.iconst 0, 1) := by decide +kernel
theorem d_Note_isBehind_27 : decode prog_4_method_5_code 27 = .ok (.ireturn, 1) := by decide +kernel
theorem d_Note_isBehind_28 : decode prog_4_method_5_code 28 = .ok (.aload_n 0, 1) := by decide +kernel
theorem d_Note_isBehind_29 : decode prog_4_method_5_code 29 = .ok (.getfield 13, 3) := by decide +kernel
theorem d_Note_isBehind_32 : decode prog_4_method_5_code 32 = .ok (.aload_n 1, 1) := by decide +kernel
theorem d_Note_isBehind_33 : decode prog_4_method_5_code 33 = .ok (.getfield 13, 3) := by decide +kernel
theorem d_Note_isBehind_36 : decode prog_4_method_5_code 36 = .ok (.if_icmp .eq 20, 3) := by decide +kernel
theorem d_Note_isBehind_39 : decode prog_4_method_5_code 39 = .ok (.aload_n 0, 1) := by decide +kernel
theorem d_Note_isBehind_40 : decode prog_4_method_5_code 40 = .ok (.getfield 13, 3) := by decide +kernel
theorem d_Note_isBehind_43 : decode prog_4_method_5_code 43 = .ok (.aload_n 1, 1) := by decide +kernel
theorem d_Note_isBehind_44 : decode prog_4_method_5_code 44 = .ok (.getfield 13, 3) := by decide +kernel
theorem d_Note_isBehind_47 : decode prog_4_method_5_code 47 = .ok (.if_icmp .le 7, 3) := by decide +kernel
theorem d_Note_isBehind_50 : decode prog_4_method_5_code 50 = .ok (.iconst 1, 1) := by decide +kernel
theorem d_Note_isBehind_51 : decode prog_4_method_5_code 51 = .ok (.goto 4, 3) := by decide +kernel
theorem d_Note_isBehind_54 : decode prog_4_method_5_code 54 = .ok (.iconst 0, 1) := by decide +kernel
theorem d_Note_isBehind_55 : decode prog_4_method_5_code 55 = .ok (.ireturn, 1) := by decide +kernel
theorem d_Note_isBehind_56 : decode prog_4_method_5_code 56 = .ok (.aload_n 0, 1) := by decide +kernel
theorem d_Note_isBehind_57 : decode prog_4_method_5_code 57 = .ok (.getfield 16, 3) := by decide +kernel
theorem d_Note_isBehind_60 : decode prog_4_method_5_code 60 = .ok (.aload_n 1, 1) := by decide +kernel
theorem d_Note_isBehind_61 : decode prog_4_method_5_code 61 = .ok (.getfield 16, 3) := by decide +kernel
theorem d_Note_isBehind_64 : decode prog_4_method_5_code 64 = .ok (.if_icmp .eq 22, 3) := by decide +kernel
theorem d_Note_isBehind_67 : decode prog_4_method_5_code 67 = .ok (.aload_n 0, 1) := by decide +kernel
theorem d_Note_isBehind_68 : decode prog_4_method_5_code 68 = .ok (.getfield 16, 3) := by decide +kernel
theorem d_Note_isBehind_71 : decode prog_4_method_5_code 71 = .ok (.aload_n 1, 1) := by decide +kernel
theorem d_Note_isBehind_72 : decode prog_4_method_5_code 72 = .ok (.getfield 16, 3) := by decide +kernel
theorem d_Note_isBehind_75 : decode prog_4_method_5_code 75 = .ok (.if_icmp .le 7, 3) := by decide +kernel
theorem d_Note_isBehind_78 : decode prog_4_method_5_code 78 = .ok (.iconst 1, 1) := by decide +kernel
theorem d_Note_isBehind_79 : decode prog_4_method_5_code 79 = .ok (.goto 23, 3) := by decide +kernel
theorem d_Note_isBehind_82 : decode prog_4_method_5_code 82 = .ok (.iconst 0, 1) := by decide +kernel
theorem d_Note_isBehind_83 : decode prog_4_method_5_code 83 = .ok (.goto 19, 3) := by decide +kernel
theorem d_Note_isBehind_86 : decode prog_4_method_5_code 86 = .ok (.aload_n 0, 1) := by decide +kernel
theorem d_Note_isBehind_87 : decode prog_4_method_5_code 87 = .ok (.getfield 22, 3) := by decide +kernel
theorem d_Note_isBehind_90 : decode prog_4_method_5_code 90 = .ok (.aload_n 1, 1) := by decide +kernel
theorem d_Note_isBehind_91 : decode prog_4_method_5_code 91 = .ok (.getfield 22, 3) := by decide +kernel
theorem d_Note_isBehind_94 : decode prog_4_method_5_code 94 = .ok (.if_icmp .le 7, 3) := by decide +kernel
theorem d_Note_isBehind_97 : decode prog_4_method_5_code 97 = .ok (.iconst 1, 1) := by decide +kernel
theorem d_Note_isBehind_98 : decode prog_4_method_5_code 98 = .ok (.goto 4, 3) := by decide +kernel
theorem d_Note_isBehind_101 : decode prog_4_method_5_code 101 = .ok (.iconst 0, 1) := by decide +kernel
theorem d_Note_isBehind_102 : decode prog_4_method_5_code 102 = .ok (.ireturn, 1) := by decide +kernel
theorem d_Page_tempoOf_0 : decode prog_6_method_5_code 0 = .ok (.aload_n 0, 1) := by decide +kernel
theorem d_Page_tempoOf_1 : decode prog_6_method_5_code 1 = .ok (.iload_n 1, 1) := by decide +kernel
theorem d_Page_tempoOf_2 : decode prog_6_method_5_code 2 = .ok (.invokevirtual 31, 3) := by decide +kernel
theorem d_Page_tempoOf_5 : decode prog_6_method_5_code 5 = .ok (.ifCond .eq 12, 3) := by decide +kernel
theorem d_Page_tempoOf_8 : decode prog_6_method_5_code 8 = .ok (.aload_n 0, 1) := by decide +kernel
theorem d_Page_tempoOf_9 : decode prog_6_method_5_code 9 = .ok (.getfield 19, 3) := by decide +kernel
theorem d_Page_tempoOf_12 : decode prog_6_method_5_code 12 = .ok (.iload_n 1, 1) := by decide +kernel
theorem d_Page_tempoOf_13 : decode prog_6_method_5_code 13 = .ok (.iaload, 1) := by decide +kernel
theorem d_Page_tempoOf_14 : decode prog_6_method_5_code 14 = .ok (.goto 4, 3) := by decide +kernel
theorem d_Page_tempoOf_17 : decode prog_6_method_5_code 17 = .ok (.iconst 0, 1) := by decide +kernel
theorem d_Page_tempoOf_18 : decode prog_6_method_5_code 18 = .ok (.ireturn, 1) := by decide +kernel
theorem d_Note_reachesOver_0 : decode prog_4_method_4_code 0 = .ok (.aload_n 0, 1) := by decide +kernel
theorem d_Note_reachesOver_1 : decode prog_4_method_4_code 1 = .ok (.getfield 25, 3) := by decide +kernel
theorem d_Note_reachesOver_4 : decode prog_4_method_4_code 4 = .ok (.ifCond .eq 22, 3) := by decide +kernel
theorem d_Note_reachesOver_7 : decode prog_4_method_4_code 7 = .ok (.aload_n 0, 1) := by decide +kernel
theorem d_Note_reachesOver_8 : decode prog_4_method_4_code 8 = .ok (.invokevirtual 29, 3) := by decide +kernel
theorem d_Note_reachesOver_11 : decode prog_4_method_4_code 11 = .ok (.aload_n 1, 1) := by decide +kernel
theorem d_Note_reachesOver_12 : decode prog_4_method_4_code 12 = .ok (.aload_n 0, 1) := by decide +kernel
theorem d_Note_reachesOver_13 : decode prog_4_method_4_code 13 = .ok (.getfield 13, 3) := by decide +kernel
theorem d_Note_reachesOver_16 : decode prog_4_method_4_code 16 = .ok (.invokevirtual 33, 3) := by decide +kernel
theorem d_Note_reachesOver_19 : decode prog_4_method_4_code 19 = .ok (.if_icmp .ne 7, 3) := by decide +kernel
theorem d_Note_reachesOver_22 : decode prog_4_method_4_code 22 = .ok (.iconst 1, 1) := by decide +kernel
theorem d_Note_reachesOver_23 : decode prog_4_method_4_code 23 = .ok (.goto 4, 3) := by decide +kernel
theorem d_Note_reachesOver_26 : decode prog_4_method_4_code 26 = .ok (.iconst 0, 1) := by decide +kernel
theorem d_Note_reachesOver_27 : decode prog_4_method_4_code 27 = .ok (.ireturn, 1) := by decide +kernel
theorem d_Page_isCutBefore_0 : decode prog_6_method_12_code 0 = .ok (.aload_n 0, 1) := by decide +kernel
theorem d_Page_isCutBefore_1 : decode prog_6_method_12_code 1 = .ok (.iload_n 1, 1) := by decide +kernel
theorem d_Page_isCutBefore_2 : decode prog_6_method_12_code 2 = .ok (.invokevirtual 54, 3) := by decide +kernel
theorem d_Page_isCutBefore_5 : decode prog_6_method_12_code 5 = .ok (.ifCond .ne 28, 3) := by decide +kernel
theorem d_Page_isCutBefore_8 : decode prog_6_method_12_code 8 = .ok (.aload_n 0, 1) := by decide +kernel
theorem d_Page_isCutBefore_9 : decode prog_6_method_12_code 9 = .ok (.iload_n 1, 1) := by decide +kernel
theorem d_Page_isCutBefore_10 : decode prog_6_method_12_code 10 = .ok (.iconst 1, 1) := by decide +kernel
theorem d_Page_isCutBefore_11 : decode prog_6_method_12_code 11 = .ok (.isub, 1) := by decide +kernel
theorem d_Page_isCutBefore_12 : decode prog_6_method_12_code 12 = .ok (.invokevirtual 57, 3) := by decide +kernel
theorem d_Page_isCutBefore_15 : decode prog_6_method_12_code 15 = .ok (.ifCond .ne 18, 3) := by decide +kernel
theorem d_Page_isCutBefore_18 : decode prog_6_method_12_code 18 = .ok (.aload_n 0, 1) := by decide +kernel
theorem d_Page_isCutBefore_19 : decode prog_6_method_12_code 19 = .ok (.iload_n 1, 1) := by decide +kernel
theorem d_Page_isCutBefore_20 : decode prog_6_method_12_code 20 = .ok (.invokevirtual 60, 3) := by decide +kernel
theorem d_Page_isCutBefore_23 : decode prog_6_method_12_code 23 = .ok (.aload_n 0, 1) := by decide +kernel
theorem d_Page_isCutBefore_24 : decode prog_6_method_12_code 24 = .ok (.iload_n 1, 1) := by decide +kernel
theorem d_Page_isCutBefore_25 : decode prog_6_method_12_code 25 = .ok (.iconst 1, 1) := by decide +kernel
theorem d_Page_isCutBefore_26 : decode prog_6_method_12_code 26 = .ok (.isub, 1) := by decide +kernel
theorem d_Page_isCutBefore_27 : decode prog_6_method_12_code 27 = .ok (.invokevirtual 60, 3) := by decide +kernel
theorem d_Page_isCutBefore_30 : decode prog_6_method_12_code 30 = .ok (.if_icmp .eq 7, 3) := by decide +kernel
theorem d_Page_isCutBefore_33 : decode prog_6_method_12_code 33 = .ok (.iconst 1, 1) := by decide +kernel
theorem d_Page_isCutBefore_34 : decode prog_6_method_12_code 34 = .ok (.goto 4, 3) := by decide +kernel
theorem d_Page_isCutBefore_37 : decode prog_6_method_12_code 37 = .ok (.iconst 0, 1) := by decide +kernel
theorem d_Page_isCutBefore_38 : decode prog_6_method_12_code 38 = .ok (.ireturn, 1) := by decide +kernel
theorem d_Page_opensCut_0 : decode prog_6_method_13_code 0 = .ok (.aload_n 0, 1) := by decide +kernel
theorem d_Page_opensCut_1 : decode prog_6_method_13_code 1 = .ok (.iload_n 1, 1) := by decide +kernel
theorem d_Page_opensCut_2 : decode prog_6_method_13_code 2 = .ok (.iconst 0, 1) := by decide +kernel
theorem d_Page_opensCut_3 : decode prog_6_method_13_code 3 = .ok (.invokevirtual 63, 3) := by decide +kernel
theorem d_Page_opensCut_6 : decode prog_6_method_13_code 6 = .ok (.ifCond .ne 40, 3) := by decide +kernel
theorem d_Page_opensCut_9 : decode prog_6_method_13_code 9 = .ok (.aload_n 0, 1) := by decide +kernel
theorem d_Page_opensCut_10 : decode prog_6_method_13_code 10 = .ok (.iload_n 1, 1) := by decide +kernel
theorem d_Page_opensCut_11 : decode prog_6_method_13_code 11 = .ok (.iconst 2, 1) := by decide +kernel
theorem d_Page_opensCut_12 : decode prog_6_method_13_code 12 = .ok (.invokevirtual 63, 3) := by decide +kernel
theorem d_Page_opensCut_15 : decode prog_6_method_13_code 15 = .ok (.ifCond .ne 31, 3) := by decide +kernel
theorem d_Page_opensCut_18 : decode prog_6_method_13_code 18 = .ok (.aload_n 0, 1) := by decide +kernel
theorem d_Page_opensCut_19 : decode prog_6_method_13_code 19 = .ok (.iload_n 1, 1) := by decide +kernel
theorem d_Page_opensCut_20 : decode prog_6_method_13_code 20 = .ok (.iconst 3, 1) := by decide +kernel
theorem d_Page_opensCut_21 : decode prog_6_method_13_code 21 = .ok (.invokevirtual 63, 3) := by decide +kernel
theorem d_Page_opensCut_24 : decode prog_6_method_13_code 24 = .ok (.ifCond .ne 22, 3) := by decide +kernel
theorem d_Page_opensCut_27 : decode prog_6_method_13_code 27 = .ok (.aload_n 0, 1) := by decide +kernel
theorem d_Page_opensCut_28 : decode prog_6_method_13_code 28 = .ok (.iload_n 1, 1) := by decide +kernel
theorem d_Page_opensCut_29 : decode prog_6_method_13_code 29 = .ok (.iconst 4, 1) := by decide +kernel
theorem d_Page_opensCut_30 : decode prog_6_method_13_code 30 = .ok (.invokevirtual 63, 3) := by decide +kernel
theorem d_Page_opensCut_33 : decode prog_6_method_13_code 33 = .ok (.ifCond .ne 13, 3) := by decide +kernel
theorem d_Page_opensCut_36 : decode prog_6_method_13_code 36 = .ok (.aload_n 0, 1) := by decide +kernel
theorem d_Page_opensCut_37 : decode prog_6_method_13_code 37 = .ok (.iload_n 1, 1) := by decide +kernel
theorem d_Page_opensCut_38 : decode prog_6_method_13_code 38 = .ok (.bipush 8, 2) := by decide +kernel
theorem d_Page_opensCut_40 : decode prog_6_method_13_code 40 = .ok (.invokevirtual 63, 3) := by decide +kernel
theorem d_Page_opensCut_43 : decode prog_6_method_13_code 43 = .ok (.ifCond .eq 7, 3) := by decide +kernel
theorem d_Page_opensCut_46 : decode prog_6_method_13_code 46 = .ok (.iconst 1, 1) := by decide +kernel
theorem d_Page_opensCut_47 : decode prog_6_method_13_code 47 = .ok (.goto 4, 3) := by decide +kernel
theorem d_Page_opensCut_50 : decode prog_6_method_13_code 50 = .ok (.iconst 0, 1) := by decide +kernel
theorem d_Page_opensCut_51 : decode prog_6_method_13_code 51 = .ok (.ireturn, 1) := by decide +kernel
theorem d_Page_closesCut_0 : decode prog_6_method_14_code 0 = .ok (.aload_n 0, 1) := by decide +kernel
theorem d_Page_closesCut_1 : decode prog_6_method_14_code 1 = .ok (.iload_n 1, 1) := by decide +kernel
theorem d_Page_closesCut_2 : decode prog_6_method_14_code 2 = .ok (.iconst 1, 1) := by decide +kernel
theorem d_Page_closesCut_3 : decode prog_6_method_14_code 3 = .ok (.invokevirtual 63, 3) := by decide +kernel
theorem d_Page_closesCut_6 : decode prog_6_method_14_code 6 = .ok (.ifCond .ne 42, 3) := by decide +kernel
theorem d_Page_closesCut_9 : decode prog_6_method_14_code 9 = .ok (.aload_n 0, 1) := by decide +kernel
theorem d_Page_closesCut_10 : decode prog_6_method_14_code 10 = .ok (.iload_n 1, 1) := by decide +kernel
theorem d_Page_closesCut_11 : decode prog_6_method_14_code 11 = .ok (.iconst 5, 1) := by decide +kernel
theorem d_Page_closesCut_12 : decode prog_6_method_14_code 12 = .ok (.invokevirtual 63, 3) := by decide +kernel
theorem d_Page_closesCut_15 : decode prog_6_method_14_code 15 = .ok (.ifCond .ne 33, 3) := by decide +kernel
theorem d_Page_closesCut_18 : decode prog_6_method_14_code 18 = .ok (.aload_n 0, 1) := by decide +kernel
theorem d_Page_closesCut_19 : decode prog_6_method_14_code 19 = .ok (.iload_n 1, 1) := by decide +kernel
theorem d_Page_closesCut_20 : decode prog_6_method_14_code 20 = .ok (.bipush 6, 2) := by decide +kernel
theorem d_Page_closesCut_22 : decode prog_6_method_14_code 22 = .ok (.invokevirtual 63, 3) := by decide +kernel
theorem d_Page_closesCut_25 : decode prog_6_method_14_code 25 = .ok (.ifCond .ne 23, 3) := by decide +kernel
theorem d_Page_closesCut_28 : decode prog_6_method_14_code 28 = .ok (.aload_n 0, 1) := by decide +kernel
theorem d_Page_closesCut_29 : decode prog_6_method_14_code 29 = .ok (.iload_n 1, 1) := by decide +kernel
theorem d_Page_closesCut_30 : decode prog_6_method_14_code 30 = .ok (.bipush 7, 2) := by decide +kernel
theorem d_Page_closesCut_32 : decode prog_6_method_14_code 32 = .ok (.invokevirtual 63, 3) := by decide +kernel
theorem d_Page_closesCut_35 : decode prog_6_method_14_code 35 = .ok (.ifCond .ne 13, 3) := by decide +kernel
theorem d_Page_closesCut_38 : decode prog_6_method_14_code 38 = .ok (.aload_n 0, 1) := by decide +kernel
theorem d_Page_closesCut_39 : decode prog_6_method_14_code 39 = .ok (.iload_n 1, 1) := by decide +kernel
theorem d_Page_closesCut_40 : decode prog_6_method_14_code 40 = .ok (.bipush 9, 2) := by decide +kernel
theorem d_Page_closesCut_42 : decode prog_6_method_14_code 42 = .ok (.invokevirtual 63, 3) := by decide +kernel
theorem d_Page_closesCut_45 : decode prog_6_method_14_code 45 = .ok (.ifCond .eq 7, 3) := by decide +kernel
theorem d_Page_closesCut_48 : decode prog_6_method_14_code 48 = .ok (.iconst 1, 1) := by decide +kernel
theorem d_Page_closesCut_49 : decode prog_6_method_14_code 49 = .ok (.goto 4, 3) := by decide +kernel
theorem d_Page_closesCut_52 : decode prog_6_method_14_code 52 = .ok (.iconst 0, 1) := by decide +kernel
theorem d_Page_closesCut_53 : decode prog_6_method_14_code 53 = .ok (.ireturn, 1) := by decide +kernel
