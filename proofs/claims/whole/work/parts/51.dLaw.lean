/-! decode rows, by program (wip/lay.py) -/
theorem d_La_cell_0 : decode method_2_code 0 = .ok (.iload_n 1, 1) := by decide +kernel
theorem d_La_cell_1 : decode method_2_code 1 = .ok (.aload_n 0, 1) := by decide +kernel
theorem d_La_cell_2 : decode method_2_code 2 = .ok (.arraylength, 1) := by decide +kernel
theorem d_La_cell_3 : decode method_2_code 3 = .ok (.if_icmp .ge 9, 3) := by decide +kernel
theorem d_La_cell_6 : decode method_2_code 6 = .ok (.aload_n 0, 1) := by decide +kernel
theorem d_La_cell_7 : decode method_2_code 7 = .ok (.iload_n 1, 1) := by decide +kernel
theorem d_La_cell_8 : decode method_2_code 8 = .ok (.iaload, 1) := by decide +kernel
theorem d_La_cell_9 : decode method_2_code 9 = .ok (.goto 4, 3) := by decide +kernel
theorem d_La_cell_12 : decode method_2_code 12 = .ok (.iconst 0, 1) := by decide +kernel
theorem d_La_cell_13 : decode method_2_code 13 = .ok (.ireturn, 1) := by decide +kernel
theorem d_La_bar_0 : decode method_3_code 0 = .ok (.aload_n 0, 1) := by decide +kernel
theorem d_La_bar_1 : decode method_3_code 1 = .ok (.iload_n 1, 1) := by decide +kernel
theorem d_La_bar_2 : decode method_3_code 2 = .ok (.iload_n 2, 1) := by decide +kernel
theorem d_La_bar_3 : decode method_3_code 3 = .ok (.iload_n 3, 1) := by decide +kernel
theorem d_La_bar_4 : decode method_3_code 4 = .ok (.invokevirtual 7, 3) := by decide +kernel
theorem d_La_bar_7 : decode method_3_code 7 = .ok (.goto 11, 3) := by decide +kernel
theorem d_La_bar_10 : decode method_3_code 10 = .ok (.astore 4, 2) := by decide +kernel
theorem d_La_bar_12 : decode method_3_code 12 = .ok (.iconst 1, 1) := by decide +kernel
theorem d_La_bar_13 : decode method_3_code 13 = .ok (.ireturn, 1) := by decide +kernel
theorem d_La_bar_14 : decode method_3_code 14 = .ok (.astore 4, 2) := by decide +kernel
theorem d_La_bar_16 : decode method_3_code 16 = .ok (.iconst 2, 1) := by decide +kernel
theorem d_La_bar_17 : decode method_3_code 17 = .ok (.ireturn, 1) := by decide +kernel
theorem d_La_bar_18 : decode method_3_code 18 = .ok (.iconst 0, 1) := by decide +kernel
theorem d_La_bar_19 : decode method_3_code 19 = .ok (.ireturn, 1) := by decide +kernel
theorem d_La_sign_0 : decode method_4_code 0 = .ok (.aload 4, 2) := by decide +kernel
theorem d_La_sign_2 : decode method_4_code 2 = .ok (.iconst 0, 1) := by decide +kernel
theorem d_La_sign_3 : decode method_4_code 3 = .ok (.aload_n 0, 1) := by decide +kernel
theorem d_La_sign_4 : decode method_4_code 4 = .ok (.iload_n 1, 1) := by decide +kernel
theorem d_La_sign_5 : decode method_4_code 5 = .ok (.iload_n 2, 1) := by decide +kernel
theorem d_La_sign_6 : decode method_4_code 6 = .ok (.iload_n 3, 1) := by decide +kernel
theorem d_La_sign_7 : decode method_4_code 7 = .ok (.invokevirtual 17, 3) := by decide +kernel
theorem d_La_sign_10 : decode method_4_code 10 = .ok (.ifCond .eq 7, 3) := by decide +kernel
theorem d_La_sign_13 : decode method_4_code 13 = .ok (.lconst 1, 1) := by decide +kernel
theorem d_La_sign_14 : decode method_4_code 14 = .ok (.goto 4, 3) := by decide +kernel
theorem d_La_sign_17 : decode method_4_code 17 = .ok (.lconst 0, 1) := by decide +kernel
theorem d_La_sign_18 : decode method_4_code 18 = .ok (.lastore, 1) := by decide +kernel
theorem d_La_sign_19 : decode method_4_code 19 = .ok (.goto 11, 3) := by decide +kernel
theorem d_La_sign_22 : decode method_4_code 22 = .ok (.astore 5, 2) := by decide +kernel
theorem d_La_sign_24 : decode method_4_code 24 = .ok (.iconst 1, 1) := by decide +kernel
theorem d_La_sign_25 : decode method_4_code 25 = .ok (.ireturn, 1) := by decide +kernel
theorem d_La_sign_26 : decode method_4_code 26 = .ok (.astore 5, 2) := by decide +kernel
theorem d_La_sign_28 : decode method_4_code 28 = .ok (.iconst 2, 1) := by decide +kernel
theorem d_La_sign_29 : decode method_4_code 29 = .ok (.ireturn, 1) := by decide +kernel
theorem d_La_sign_30 : decode method_4_code 30 = .ok (.iconst 0, 1) := by decide +kernel
theorem d_La_sign_31 : decode method_4_code 31 = .ok (.ireturn, 1) := by decide +kernel
theorem d_La_note_0 : decode method_5_code 0 = .ok (.aload 7, 2) := by decide +kernel
theorem d_La_note_2 : decode method_5_code 2 = .ok (.iconst 0, 1) := by decide +kernel
theorem d_La_note_3 : decode method_5_code 3 = .ok (.aload_n 0, 1) := by decide +kernel
theorem d_La_note_4 : decode method_5_code 4 = .ok (.iload_n 1, 1) := by decide +kernel
theorem d_La_note_5 : decode method_5_code 5 = .ok (.iload_n 2, 1) := by decide +kernel
theorem d_La_note_6 : decode method_5_code 6 = .ok (.iload_n 3, 1) := by decide +kernel
theorem d_La_note_7 : decode method_5_code 7 = .ok (.iload 4, 2) := by decide +kernel
theorem d_La_note_9 : decode method_5_code 9 = .ok (.iload 5, 2) := by decide +kernel
theorem d_La_note_11 : decode method_5_code 11 = .ok (.iload 6, 2) := by decide +kernel
theorem d_La_note_13 : decode method_5_code 13 = .ok (.invokevirtual 21, 3) := by decide +kernel
theorem d_La_note_16 : decode method_5_code 16 = .ok (.i2l, 1) := by decide +kernel
theorem d_La_note_17 : decode method_5_code 17 = .ok (.lastore, 1) := by decide +kernel
theorem d_La_note_18 : decode method_5_code 18 = .ok (.goto 11, 3) := by decide +kernel
theorem d_La_note_21 : decode method_5_code 21 = .ok (.astore 8, 2) := by decide +kernel
theorem d_La_note_23 : decode method_5_code 23 = .ok (.iconst 1, 1) := by decide +kernel
theorem d_La_note_24 : decode method_5_code 24 = .ok (.ireturn, 1) := by decide +kernel
theorem d_La_note_25 : decode method_5_code 25 = .ok (.astore 8, 2) := by decide +kernel
theorem d_La_note_27 : decode method_5_code 27 = .ok (.iconst 2, 1) := by decide +kernel
theorem d_La_note_28 : decode method_5_code 28 = .ok (.ireturn, 1) := by decide +kernel
theorem d_La_note_29 : decode method_5_code 29 = .ok (.iconst 0, 1) := by decide +kernel
theorem d_La_note_30 : decode method_5_code 30 = .ok (.ireturn, 1) := by decide +kernel
theorem d_La_transpose_0 : decode method_6_code 0 = .ok (.aload_n 3, 1) := by decide +kernel
theorem d_La_transpose_1 : decode method_6_code 1 = .ok (.iconst 0, 1) := by decide +kernel
theorem d_La_transpose_2 : decode method_6_code 2 = .ok (.aload_n 0, 1) := by decide +kernel
theorem d_La_transpose_3 : decode method_6_code 3 = .ok (.iload_n 1, 1) := by decide +kernel
theorem d_La_transpose_4 : decode method_6_code 4 = .ok (.iload_n 2, 1) := by decide +kernel
theorem d_La_transpose_5 : decode method_6_code 5 = .ok (.invokevirtual 25, 3) := by decide +kernel
theorem d_La_transpose_8 : decode method_6_code 8 = .ok (.i2l, 1) := by decide +kernel
theorem d_La_transpose_9 : decode method_6_code 9 = .ok (.lastore, 1) := by decide +kernel
theorem d_La_transpose_10 : decode method_6_code 10 = .ok (.goto 7, 3) := by decide +kernel
theorem d_La_transpose_13 : decode method_6_code 13 = .ok (.astore 4, 2) := by decide +kernel
theorem d_La_transpose_15 : decode method_6_code 15 = .ok (.iconst 1, 1) := by decide +kernel
theorem d_La_transpose_16 : decode method_6_code 16 = .ok (.ireturn, 1) := by decide +kernel
theorem d_La_transpose_17 : decode method_6_code 17 = .ok (.iconst 0, 1) := by decide +kernel
theorem d_La_transpose_18 : decode method_6_code 18 = .ok (.ireturn, 1) := by decide +kernel
theorem d_La_played_0 : decode method_7_code 0 = .ok (.aload_n 2, 1) := by decide +kernel
theorem d_La_played_1 : decode method_7_code 1 = .ok (.iconst 0, 1) := by decide +kernel
theorem d_La_played_2 : decode method_7_code 2 = .ok (.aload_n 0, 1) := by decide +kernel
theorem d_La_played_3 : decode method_7_code 3 = .ok (.iload_n 1, 1) := by decide +kernel
theorem d_La_played_4 : decode method_7_code 4 = .ok (.invokevirtual 29, 3) := by decide +kernel
theorem d_La_played_7 : decode method_7_code 7 = .ok (.i2l, 1) := by decide +kernel
theorem d_La_played_8 : decode method_7_code 8 = .ok (.lastore, 1) := by decide +kernel
theorem d_La_played_9 : decode method_7_code 9 = .ok (.goto 9, 3) := by decide +kernel
theorem d_La_played_12 : decode method_7_code 12 = .ok (.astore_n 3, 1) := by decide +kernel
theorem d_La_played_13 : decode method_7_code 13 = .ok (.iconst 1, 1) := by decide +kernel
theorem d_La_played_14 : decode method_7_code 14 = .ok (.ireturn, 1) := by decide +kernel
theorem d_La_played_15 : decode method_7_code 15 = .ok (.astore_n 3, 1) := by decide +kernel
theorem d_La_played_16 : decode method_7_code 16 = .ok (.iconst 2, 1) := by decide +kernel
theorem d_La_played_17 : decode method_7_code 17 = .ok (.ireturn, 1) := by decide +kernel
theorem d_La_played_18 : decode method_7_code 18 = .ok (.iconst 0, 1) := by decide +kernel
theorem d_La_played_19 : decode method_7_code 19 = .ok (.ireturn, 1) := by decide +kernel
theorem d_La_time_0 : decode method_8_code 0 = .ok (.aload_n 2, 1) := by decide +kernel
theorem d_La_time_1 : decode method_8_code 1 = .ok (.iconst 0, 1) := by decide +kernel
theorem d_La_time_2 : decode method_8_code 2 = .ok (.aload_n 0, 1) := by decide +kernel
theorem d_La_time_3 : decode method_8_code 3 = .ok (.iload_n 1, 1) := by decide +kernel
theorem d_La_time_4 : decode method_8_code 4 = .ok (.invokevirtual 35, 3) := by decide +kernel
theorem d_La_time_7 : decode method_8_code 7 = .ok (.i2l, 1) := by decide +kernel
theorem d_La_time_8 : decode method_8_code 8 = .ok (.lastore, 1) := by decide +kernel
theorem d_La_time_9 : decode method_8_code 9 = .ok (.goto 9, 3) := by decide +kernel
theorem d_La_time_12 : decode method_8_code 12 = .ok (.astore_n 3, 1) := by decide +kernel
theorem d_La_time_13 : decode method_8_code 13 = .ok (.iconst 1, 1) := by decide +kernel
theorem d_La_time_14 : decode method_8_code 14 = .ok (.ireturn, 1) := by decide +kernel
theorem d_La_time_15 : decode method_8_code 15 = .ok (.astore_n 3, 1) := by decide +kernel
theorem d_La_time_16 : decode method_8_code 16 = .ok (.iconst 2, 1) := by decide +kernel
theorem d_La_time_17 : decode method_8_code 17 = .ok (.ireturn, 1) := by decide +kernel
theorem d_La_time_18 : decode method_8_code 18 = .ok (.iconst 0, 1) := by decide +kernel
theorem d_La_time_19 : decode method_8_code 19 = .ok (.ireturn, 1) := by decide +kernel
theorem d_La_find_0 : decode method_9_code 0 = .ok (.aload_n 3, 1) := by decide +kernel
theorem d_La_find_1 : decode method_9_code 1 = .ok (.iconst 0, 1) := by decide +kernel
theorem d_La_find_2 : decode method_9_code 2 = .ok (.aload_n 0, 1) := by decide +kernel
theorem d_La_find_3 : decode method_9_code 3 = .ok (.iload_n 1, 1) := by decide +kernel
theorem d_La_find_4 : decode method_9_code 4 = .ok (.iload_n 2, 1) := by decide +kernel
theorem d_La_find_5 : decode method_9_code 5 = .ok (.invokevirtual 38, 3) := by decide +kernel
theorem d_La_find_8 : decode method_9_code 8 = .ok (.i2l, 1) := by decide +kernel
theorem d_La_find_9 : decode method_9_code 9 = .ok (.lastore, 1) := by decide +kernel
theorem d_La_find_10 : decode method_9_code 10 = .ok (.goto 7, 3) := by decide +kernel
theorem d_La_find_13 : decode method_9_code 13 = .ok (.astore 4, 2) := by decide +kernel
theorem d_La_find_15 : decode method_9_code 15 = .ok (.iconst 1, 1) := by decide +kernel
theorem d_La_find_16 : decode method_9_code 16 = .ok (.ireturn, 1) := by decide +kernel
theorem d_La_find_17 : decode method_9_code 17 = .ok (.iconst 0, 1) := by decide +kernel
theorem d_La_find_18 : decode method_9_code 18 = .ok (.ireturn, 1) := by decide +kernel
theorem d_La_tick_0 : decode method_10_code 0 = .ok (.aload_n 2, 1) := by decide +kernel
theorem d_La_tick_1 : decode method_10_code 1 = .ok (.iconst 0, 1) := by decide +kernel
theorem d_La_tick_2 : decode method_10_code 2 = .ok (.aload_n 0, 1) := by decide +kernel
theorem d_La_tick_3 : decode method_10_code 3 = .ok (.iload_n 1, 1) := by decide +kernel
theorem d_La_tick_4 : decode method_10_code 4 = .ok (.invokevirtual 41, 3) := by decide +kernel
theorem d_La_tick_7 : decode method_10_code 7 = .ok (.lastore, 1) := by decide +kernel
theorem d_La_tick_8 : decode method_10_code 8 = .ok (.goto 9, 3) := by decide +kernel
theorem d_La_tick_11 : decode method_10_code 11 = .ok (.astore_n 3, 1) := by decide +kernel
theorem d_La_tick_12 : decode method_10_code 12 = .ok (.iconst 1, 1) := by decide +kernel
theorem d_La_tick_13 : decode method_10_code 13 = .ok (.ireturn, 1) := by decide +kernel
theorem d_La_tick_14 : decode method_10_code 14 = .ok (.astore_n 3, 1) := by decide +kernel
theorem d_La_tick_15 : decode method_10_code 15 = .ok (.iconst 2, 1) := by decide +kernel
theorem d_La_tick_16 : decode method_10_code 16 = .ok (.ireturn, 1) := by decide +kernel
theorem d_La_tick_17 : decode method_10_code 17 = .ok (.iconst 0, 1) := by decide +kernel
theorem d_La_tick_18 : decode method_10_code 18 = .ok (.ireturn, 1) := by decide +kernel
theorem d_La_at_0 : decode method_11_code 0 = .ok (.aload_n 3, 1) := by decide +kernel
theorem d_La_at_1 : decode method_11_code 1 = .ok (.iconst 0, 1) := by decide +kernel
theorem d_La_at_2 : decode method_11_code 2 = .ok (.aload_n 0, 1) := by decide +kernel
theorem d_La_at_3 : decode method_11_code 3 = .ok (.lload_n 1, 1) := by decide +kernel
theorem d_La_at_4 : decode method_11_code 4 = .ok (.invokevirtual 45, 3) := by decide +kernel
theorem d_La_at_7 : decode method_11_code 7 = .ok (.i2l, 1) := by decide +kernel
theorem d_La_at_8 : decode method_11_code 8 = .ok (.lastore, 1) := by decide +kernel
theorem d_La_at_9 : decode method_11_code 9 = .ok (.goto 7, 3) := by decide +kernel
theorem d_La_at_12 : decode method_11_code 12 = .ok (.astore 4, 2) := by decide +kernel
theorem d_La_at_14 : decode method_11_code 14 = .ok (.iconst 1, 1) := by decide +kernel
theorem d_La_at_15 : decode method_11_code 15 = .ok (.ireturn, 1) := by decide +kernel
theorem d_La_at_16 : decode method_11_code 16 = .ok (.iconst 0, 1) := by decide +kernel
theorem d_La_at_17 : decode method_11_code 17 = .ok (.ireturn, 1) := by decide +kernel
theorem d_La_sounds_0 : decode method_12_code 0 = .ok (.aload_n 2, 1) := by decide +kernel
theorem d_La_sounds_1 : decode method_12_code 1 = .ok (.iconst 0, 1) := by decide +kernel
theorem d_La_sounds_2 : decode method_12_code 2 = .ok (.aload_n 0, 1) := by decide +kernel
theorem d_La_sounds_3 : decode method_12_code 3 = .ok (.iload_n 1, 1) := by decide +kernel
theorem d_La_sounds_4 : decode method_12_code 4 = .ok (.invokevirtual 49, 3) := by decide +kernel
theorem d_La_sounds_7 : decode method_12_code 7 = .ok (.i2l, 1) := by decide +kernel
theorem d_La_sounds_8 : decode method_12_code 8 = .ok (.lastore, 1) := by decide +kernel
theorem d_La_sounds_9 : decode method_12_code 9 = .ok (.goto 9, 3) := by decide +kernel
theorem d_La_sounds_12 : decode method_12_code 12 = .ok (.astore_n 3, 1) := by decide +kernel
theorem d_La_sounds_13 : decode method_12_code 13 = .ok (.iconst 1, 1) := by decide +kernel
theorem d_La_sounds_14 : decode method_12_code 14 = .ok (.ireturn, 1) := by decide +kernel
theorem d_La_sounds_15 : decode method_12_code 15 = .ok (.astore_n 3, 1) := by decide +kernel
theorem d_La_sounds_16 : decode method_12_code 16 = .ok (.iconst 2, 1) := by decide +kernel
theorem d_La_sounds_17 : decode method_12_code 17 = .ok (.ireturn, 1) := by decide +kernel
theorem d_La_sounds_18 : decode method_12_code 18 = .ok (.iconst 0, 1) := by decide +kernel
theorem d_La_sounds_19 : decode method_12_code 19 = .ok (.ireturn, 1) := by decide +kernel
theorem d_La_sound_0 : decode method_13_code 0 = .ok (.aload 4, 2) := by decide +kernel
theorem d_La_sound_2 : decode method_13_code 2 = .ok (.iconst 0, 1) := by decide +kernel
theorem d_La_sound_3 : decode method_13_code 3 = .ok (.aload_n 0, 1) := by decide +kernel
theorem d_La_sound_4 : decode method_13_code 4 = .ok (.iload_n 1, 1) := by decide +kernel
theorem d_La_sound_5 : decode method_13_code 5 = .ok (.iload_n 2, 1) := by decide +kernel
theorem d_La_sound_6 : decode method_13_code 6 = .ok (.iload_n 3, 1) := by decide +kernel
theorem d_La_sound_7 : decode method_13_code 7 = .ok (.invokevirtual 52, 3) := by decide +kernel
theorem d_La_sound_10 : decode method_13_code 10 = .ok (.lastore, 1) := by decide +kernel
theorem d_La_sound_11 : decode method_13_code 11 = .ok (.goto 11, 3) := by decide +kernel
theorem d_La_sound_14 : decode method_13_code 14 = .ok (.astore 5, 2) := by decide +kernel
theorem d_La_sound_16 : decode method_13_code 16 = .ok (.iconst 1, 1) := by decide +kernel
theorem d_La_sound_17 : decode method_13_code 17 = .ok (.ireturn, 1) := by decide +kernel
theorem d_La_sound_18 : decode method_13_code 18 = .ok (.astore 5, 2) := by decide +kernel
theorem d_La_sound_20 : decode method_13_code 20 = .ok (.iconst 2, 1) := by decide +kernel
theorem d_La_sound_21 : decode method_13_code 21 = .ok (.ireturn, 1) := by decide +kernel
theorem d_La_sound_22 : decode method_13_code 22 = .ok (.iconst 0, 1) := by decide +kernel
theorem d_La_sound_23 : decode method_13_code 23 = .ok (.ireturn, 1) := by decide +kernel
theorem d_La_rest_0 : decode method_14_code 0 = .ok (.aload_n 3, 1) := by decide +kernel
theorem d_La_rest_1 : decode method_14_code 1 = .ok (.iconst 0, 1) := by decide +kernel
theorem d_La_rest_2 : decode method_14_code 2 = .ok (.aload_n 0, 1) := by decide +kernel
theorem d_La_rest_3 : decode method_14_code 3 = .ok (.iload_n 1, 1) := by decide +kernel
theorem d_La_rest_4 : decode method_14_code 4 = .ok (.iload_n 2, 1) := by decide +kernel
theorem d_La_rest_5 : decode method_14_code 5 = .ok (.invokevirtual 56, 3) := by decide +kernel
theorem d_La_rest_8 : decode method_14_code 8 = .ok (.i2l, 1) := by decide +kernel
theorem d_La_rest_9 : decode method_14_code 9 = .ok (.lastore, 1) := by decide +kernel
theorem d_La_rest_10 : decode method_14_code 10 = .ok (.goto 7, 3) := by decide +kernel
theorem d_La_rest_13 : decode method_14_code 13 = .ok (.astore 4, 2) := by decide +kernel
theorem d_La_rest_15 : decode method_14_code 15 = .ok (.iconst 1, 1) := by decide +kernel
theorem d_La_rest_16 : decode method_14_code 16 = .ok (.ireturn, 1) := by decide +kernel
theorem d_La_rest_17 : decode method_14_code 17 = .ok (.iconst 0, 1) := by decide +kernel
theorem d_La_rest_18 : decode method_14_code 18 = .ok (.ireturn, 1) := by decide +kernel
